section
-- ===== PART A: goes FIRST, ahead of the names: the tables' words, and 'selects' of the private methods out of them =====
/-- a private method of a class that the tables say can be made, by its rows of tables_1 -/
def lw_okq (q : MethodName × Nat) : Prop := (q.1.cls ≠ "java/lang/invoke/MethodHandle" ∧ q.1.cls ≠ "java/lang/invoke/VarHandle") ∧ Cond.instantiable q.1.cls q.2 ∈ tables_1 ∧ Cond.privateMethod q.1 ∈ tables_1 ∧ Cond.instanceMethod q.1 ∈ tables_1
theorem lw_p0 : lw_okq (⟨"GroupHalls$Row", "firstNotBelow", "(I)I"⟩, 2) := ⟨⟨by decide +kernel, by decide +kernel⟩, List.mem_of_getElem? (i := 43) (by decide +kernel), List.mem_of_getElem? (i := 136) (by decide +kernel), List.mem_of_getElem? (i := 137) (by decide +kernel)⟩
theorem lw_p1 : lw_okq (⟨"GroupHalls$Closure", "addCoset", "(II)Z"⟩, 6) := ⟨⟨by decide +kernel, by decide +kernel⟩, List.mem_of_getElem? (i := 37) (by decide +kernel), List.mem_of_getElem? (i := 160) (by decide +kernel), List.mem_of_getElem? (i := 161) (by decide +kernel)⟩
theorem lw_p2 : lw_okq (⟨"GroupHalls$Bench", "movedByLeft", "(II)I"⟩, 2) := ⟨⟨by decide +kernel, by decide +kernel⟩, List.mem_of_getElem? (i := 23) (by decide +kernel), List.mem_of_getElem? (i := 168) (by decide +kernel), List.mem_of_getElem? (i := 169) (by decide +kernel)⟩
theorem lw_p3 : lw_okq (⟨"GroupHalls", "numberOf", "(LGroupHalls$Row;)I"⟩, 7) := ⟨⟨by decide +kernel, by decide +kernel⟩, List.mem_of_getElem? (i := 13) (by decide +kernel), List.mem_of_getElem? (i := 180) (by decide +kernel), List.mem_of_getElem? (i := 181) (by decide +kernel)⟩
theorem lw_p4 : lw_okq (⟨"GroupHalls", "hallAt", "(I)LGroupHalls$Group;"⟩, 7) := ⟨⟨by decide +kernel, by decide +kernel⟩, List.mem_of_getElem? (i := 13) (by decide +kernel), List.mem_of_getElem? (i := 184) (by decide +kernel), List.mem_of_getElem? (i := 185) (by decide +kernel)⟩
theorem lw_p5 : lw_okq (⟨"GroupHalls$AlikeSets", "joinBy", "(ILGroupHalls$Row;LGroupHalls$Bench;[I)V"⟩, 3) := ⟨⟨by decide +kernel, by decide +kernel⟩, List.mem_of_getElem? (i := 284) (by decide +kernel), List.mem_of_getElem? (i := 299) (by decide +kernel), List.mem_of_getElem? (i := 300) (by decide +kernel)⟩
theorem lw_p6 : lw_okq (⟨"GroupHalls$AlikeSets", "join", "(II)V"⟩, 3) := ⟨⟨by decide +kernel, by decide +kernel⟩, List.mem_of_getElem? (i := 284) (by decide +kernel), List.mem_of_getElem? (i := 305) (by decide +kernel), List.mem_of_getElem? (i := 306) (by decide +kernel)⟩
theorem lw_p7 : lw_okq (⟨"GroupHalls$Halves", "addBit", "(ILGroupHalls$Row;LGroupHalls$Bench;)V"⟩, 2) := ⟨⟨by decide +kernel, by decide +kernel⟩, List.mem_of_getElem? (i := 327) (by decide +kernel), List.mem_of_getElem? (i := 340) (by decide +kernel), List.mem_of_getElem? (i := 341) (by decide +kernel)⟩
theorem lw_p8 : lw_okq (⟨"GroupHalls$Halves", "refusedBits", "(I)I"⟩, 2) := ⟨⟨by decide +kernel, by decide +kernel⟩, List.mem_of_getElem? (i := 327) (by decide +kernel), List.mem_of_getElem? (i := 388) (by decide +kernel), List.mem_of_getElem? (i := 389) (by decide +kernel)⟩
theorem lw_p9 : lw_okq (⟨"GroupHalls", "gatherOrbit", "(LGroupHalls$Row;I)V"⟩, 7) := ⟨⟨by decide +kernel, by decide +kernel⟩, List.mem_of_getElem? (i := 13) (by decide +kernel), List.mem_of_getElem? (i := 419) (by decide +kernel), List.mem_of_getElem? (i := 420) (by decide +kernel)⟩
theorem lw_p10 : lw_okq (⟨"GroupHalls", "gatherKeepers", "(LGroupHalls$Row;I)V"⟩, 7) := ⟨⟨by decide +kernel, by decide +kernel⟩, List.mem_of_getElem? (i := 13) (by decide +kernel), List.mem_of_getElem? (i := 427) (by decide +kernel), List.mem_of_getElem? (i := 428) (by decide +kernel)⟩
theorem lw_p11 : lw_okq (⟨"GroupHallsModel", "times", "(II)I"⟩, 24) := ⟨⟨by decide +kernel, by decide +kernel⟩, List.mem_of_getElem? (i := 436) (by decide +kernel), List.mem_of_getElem? (i := 535) (by decide +kernel), List.mem_of_getElem? (i := 536) (by decide +kernel)⟩
theorem lw_p12 : lw_okq (⟨"GroupHallsModel", "isListed", "(I)Z"⟩, 24) := ⟨⟨by decide +kernel, by decide +kernel⟩, List.mem_of_getElem? (i := 436) (by decide +kernel), List.mem_of_getElem? (i := 542) (by decide +kernel), List.mem_of_getElem? (i := 543) (by decide +kernel)⟩
theorem lw_p13 : lw_okq (⟨"GroupHallsModel", "numbered", "()I"⟩, 24) := ⟨⟨by decide +kernel, by decide +kernel⟩, List.mem_of_getElem? (i := 436) (by decide +kernel), List.mem_of_getElem? (i := 546) (by decide +kernel), List.mem_of_getElem? (i := 547) (by decide +kernel)⟩
theorem lw_p14 : lw_okq (⟨"GroupHallsModel", "isGroup", "(I)Z"⟩, 24) := ⟨⟨by decide +kernel, by decide +kernel⟩, List.mem_of_getElem? (i := 436) (by decide +kernel), List.mem_of_getElem? (i := 554) (by decide +kernel), List.mem_of_getElem? (i := 555) (by decide +kernel)⟩
theorem lw_p15 : lw_okq (⟨"GroupHallsModel", "matrices", "(I)I"⟩, 24) := ⟨⟨by decide +kernel, by decide +kernel⟩, List.mem_of_getElem? (i := 436) (by decide +kernel), List.mem_of_getElem? (i := 558) (by decide +kernel), List.mem_of_getElem? (i := 559) (by decide +kernel)⟩
def lw_privs_1 : List (MethodName × Nat) := [(⟨"GroupHalls$Row", "firstNotBelow", "(I)I"⟩, 2), (⟨"GroupHalls$Closure", "addCoset", "(II)Z"⟩, 6), (⟨"GroupHalls$Bench", "movedByLeft", "(II)I"⟩, 2), (⟨"GroupHalls", "numberOf", "(LGroupHalls$Row;)I"⟩, 7), (⟨"GroupHalls", "hallAt", "(I)LGroupHalls$Group;"⟩, 7), (⟨"GroupHalls$AlikeSets", "joinBy", "(ILGroupHalls$Row;LGroupHalls$Bench;[I)V"⟩, 3), (⟨"GroupHalls$AlikeSets", "join", "(II)V"⟩, 3), (⟨"GroupHalls$Halves", "addBit", "(ILGroupHalls$Row;LGroupHalls$Bench;)V"⟩, 2), (⟨"GroupHalls$Halves", "refusedBits", "(I)I"⟩, 2), (⟨"GroupHalls", "gatherOrbit", "(LGroupHalls$Row;I)V"⟩, 7), (⟨"GroupHalls", "gatherKeepers", "(LGroupHalls$Row;I)V"⟩, 7), (⟨"GroupHallsModel", "times", "(II)I"⟩, 24), (⟨"GroupHallsModel", "isListed", "(I)Z"⟩, 24), (⟨"GroupHallsModel", "numbered", "()I"⟩, 24), (⟨"GroupHallsModel", "isGroup", "(I)Z"⟩, 24), (⟨"GroupHallsModel", "matrices", "(I)I"⟩, 24)]
theorem lw_r1 : ∀ q ∈ lw_privs_1, lw_okq q := List.forall_mem_cons.mpr ⟨lw_p0, List.forall_mem_cons.mpr ⟨lw_p1, List.forall_mem_cons.mpr ⟨lw_p2, List.forall_mem_cons.mpr ⟨lw_p3, List.forall_mem_cons.mpr ⟨lw_p4, List.forall_mem_cons.mpr ⟨lw_p5, List.forall_mem_cons.mpr ⟨lw_p6, List.forall_mem_cons.mpr ⟨lw_p7, List.forall_mem_cons.mpr ⟨lw_p8, List.forall_mem_cons.mpr ⟨lw_p9, List.forall_mem_cons.mpr ⟨lw_p10, List.forall_mem_cons.mpr ⟨lw_p11, List.forall_mem_cons.mpr ⟨lw_p12, List.forall_mem_cons.mpr ⟨lw_p13, List.forall_mem_cons.mpr ⟨lw_p14, List.forall_mem_cons.mpr ⟨lw_p15, fun _ h => absurd h List.not_mem_nil⟩⟩⟩⟩⟩⟩⟩⟩⟩⟩⟩⟩⟩⟩⟩⟩
theorem lw_p16 : lw_okq (⟨"GroupHallsModel", "centrings", "(I)I"⟩, 24) := ⟨⟨by decide +kernel, by decide +kernel⟩, List.mem_of_getElem? (i := 436) (by decide +kernel), List.mem_of_getElem? (i := 562) (by decide +kernel), List.mem_of_getElem? (i := 563) (by decide +kernel)⟩
theorem lw_p17 : lw_okq (⟨"GroupHallsModel", "letterOf", "(II)I"⟩, 24) := ⟨⟨by decide +kernel, by decide +kernel⟩, List.mem_of_getElem? (i := 436) (by decide +kernel), List.mem_of_getElem? (i := 566) (by decide +kernel), List.mem_of_getElem? (i := 567) (by decide +kernel)⟩
theorem lw_p18 : lw_okq (⟨"GroupHallsModel", "hasShift", "(II)Z"⟩, 24) := ⟨⟨by decide +kernel, by decide +kernel⟩, List.mem_of_getElem? (i := 436) (by decide +kernel), List.mem_of_getElem? (i := 570) (by decide +kernel), List.mem_of_getElem? (i := 571) (by decide +kernel)⟩
theorem lw_p19 : lw_okq (⟨"GroupHallsModel", "place", "(II)I"⟩, 24) := ⟨⟨by decide +kernel, by decide +kernel⟩, List.mem_of_getElem? (i := 436) (by decide +kernel), List.mem_of_getElem? (i := 574) (by decide +kernel), List.mem_of_getElem? (i := 575) (by decide +kernel)⟩
theorem lw_p20 : lw_okq (⟨"GroupHallsModel", "classOf", "([III)I"⟩, 24) := ⟨⟨by decide +kernel, by decide +kernel⟩, List.mem_of_getElem? (i := 436) (by decide +kernel), List.mem_of_getElem? (i := 578) (by decide +kernel), List.mem_of_getElem? (i := 579) (by decide +kernel)⟩
theorem lw_p21 : lw_okq (⟨"GroupHallsModel", "know", "(I)V"⟩, 24) := ⟨⟨by decide +kernel, by decide +kernel⟩, List.mem_of_getElem? (i := 436) (by decide +kernel), List.mem_of_getElem? (i := 588) (by decide +kernel), List.mem_of_getElem? (i := 589) (by decide +kernel)⟩
theorem lw_p22 : lw_okq (⟨"GroupHallsModel", "countAlike", "(II)I"⟩, 24) := ⟨⟨by decide +kernel, by decide +kernel⟩, List.mem_of_getElem? (i := 436) (by decide +kernel), List.mem_of_getElem? (i := 592) (by decide +kernel), List.mem_of_getElem? (i := 593) (by decide +kernel)⟩
theorem lw_p23 : lw_okq (⟨"GroupHallsModel", "gatherHalves", "(II)V"⟩, 24) := ⟨⟨by decide +kernel, by decide +kernel⟩, List.mem_of_getElem? (i := 436) (by decide +kernel), List.mem_of_getElem? (i := 596) (by decide +kernel), List.mem_of_getElem? (i := 597) (by decide +kernel)⟩
theorem lw_p24 : lw_okq (⟨"GroupHallsModel", "made", "(II)I"⟩, 24) := ⟨⟨by decide +kernel, by decide +kernel⟩, List.mem_of_getElem? (i := 436) (by decide +kernel), List.mem_of_getElem? (i := 600) (by decide +kernel), List.mem_of_getElem? (i := 601) (by decide +kernel)⟩
theorem lw_p25 : lw_okq (⟨"GroupHallsModel", "isHalf", "(IIII)Z"⟩, 24) := ⟨⟨by decide +kernel, by decide +kernel⟩, List.mem_of_getElem? (i := 436) (by decide +kernel), List.mem_of_getElem? (i := 604) (by decide +kernel), List.mem_of_getElem? (i := 605) (by decide +kernel)⟩
theorem lw_p26 : lw_okq (⟨"GroupHallsModel", "keepHalf", "(II)V"⟩, 24) := ⟨⟨by decide +kernel, by decide +kernel⟩, List.mem_of_getElem? (i := 436) (by decide +kernel), List.mem_of_getElem? (i := 608) (by decide +kernel), List.mem_of_getElem? (i := 609) (by decide +kernel)⟩
theorem lw_p27 : lw_okq (⟨"GroupHallsModel", "comesAhead", "(JJJI)Z"⟩, 24) := ⟨⟨by decide +kernel, by decide +kernel⟩, List.mem_of_getElem? (i := 436) (by decide +kernel), List.mem_of_getElem? (i := 612) (by decide +kernel), List.mem_of_getElem? (i := 613) (by decide +kernel)⟩
theorem lw_p28 : lw_okq (⟨"GroupHallsModel", "isMember", "(II)Z"⟩, 24) := ⟨⟨by decide +kernel, by decide +kernel⟩, List.mem_of_getElem? (i := 436) (by decide +kernel), List.mem_of_getElem? (i := 623) (by decide +kernel), List.mem_of_getElem? (i := 624) (by decide +kernel)⟩
theorem lw_p29 : lw_okq (⟨"GroupHallsModel", "keepersOf", "(II)I"⟩, 24) := ⟨⟨by decide +kernel, by decide +kernel⟩, List.mem_of_getElem? (i := 436) (by decide +kernel), List.mem_of_getElem? (i := 655) (by decide +kernel), List.mem_of_getElem? (i := 656) (by decide +kernel)⟩
theorem lw_p30 : lw_okq (⟨"GroupHallsModel", "taken", "(II)I"⟩, 24) := ⟨⟨by decide +kernel, by decide +kernel⟩, List.mem_of_getElem? (i := 436) (by decide +kernel), List.mem_of_getElem? (i := 659) (by decide +kernel), List.mem_of_getElem? (i := 660) (by decide +kernel)⟩
theorem lw_p31 : lw_okq (⟨"GroupHallsModel", "orbitOf", "(II)I"⟩, 24) := ⟨⟨by decide +kernel, by decide +kernel⟩, List.mem_of_getElem? (i := 436) (by decide +kernel), List.mem_of_getElem? (i := 663) (by decide +kernel), List.mem_of_getElem? (i := 664) (by decide +kernel)⟩
def lw_privs_2 : List (MethodName × Nat) := [(⟨"GroupHallsModel", "centrings", "(I)I"⟩, 24), (⟨"GroupHallsModel", "letterOf", "(II)I"⟩, 24), (⟨"GroupHallsModel", "hasShift", "(II)Z"⟩, 24), (⟨"GroupHallsModel", "place", "(II)I"⟩, 24), (⟨"GroupHallsModel", "classOf", "([III)I"⟩, 24), (⟨"GroupHallsModel", "know", "(I)V"⟩, 24), (⟨"GroupHallsModel", "countAlike", "(II)I"⟩, 24), (⟨"GroupHallsModel", "gatherHalves", "(II)V"⟩, 24), (⟨"GroupHallsModel", "made", "(II)I"⟩, 24), (⟨"GroupHallsModel", "isHalf", "(IIII)Z"⟩, 24), (⟨"GroupHallsModel", "keepHalf", "(II)V"⟩, 24), (⟨"GroupHallsModel", "comesAhead", "(JJJI)Z"⟩, 24), (⟨"GroupHallsModel", "isMember", "(II)Z"⟩, 24), (⟨"GroupHallsModel", "keepersOf", "(II)I"⟩, 24), (⟨"GroupHallsModel", "taken", "(II)I"⟩, 24), (⟨"GroupHallsModel", "orbitOf", "(II)I"⟩, 24)]
theorem lw_r2 : ∀ q ∈ lw_privs_2, lw_okq q := List.forall_mem_cons.mpr ⟨lw_p16, List.forall_mem_cons.mpr ⟨lw_p17, List.forall_mem_cons.mpr ⟨lw_p18, List.forall_mem_cons.mpr ⟨lw_p19, List.forall_mem_cons.mpr ⟨lw_p20, List.forall_mem_cons.mpr ⟨lw_p21, List.forall_mem_cons.mpr ⟨lw_p22, List.forall_mem_cons.mpr ⟨lw_p23, List.forall_mem_cons.mpr ⟨lw_p24, List.forall_mem_cons.mpr ⟨lw_p25, List.forall_mem_cons.mpr ⟨lw_p26, List.forall_mem_cons.mpr ⟨lw_p27, List.forall_mem_cons.mpr ⟨lw_p28, List.forall_mem_cons.mpr ⟨lw_p29, List.forall_mem_cons.mpr ⟨lw_p30, List.forall_mem_cons.mpr ⟨lw_p31, fun _ h => absurd h List.not_mem_nil⟩⟩⟩⟩⟩⟩⟩⟩⟩⟩⟩⟩⟩⟩⟩⟩
def lw_privs : List (MethodName × Nat) := lw_privs_1 ++ (lw_privs_2)
def lw_tbl : List Cond := k2_sels lw_privs ++ tables_1
theorem lw_privs_ok : ∀ q ∈ lw_privs, lw_okq q := by
  show ∀ q ∈ lw_privs_1 ++ (lw_privs_2), lw_okq q
  exact List.forall_mem_append.mpr ⟨lw_r1, lw_r2⟩
-- ===== end of PART A; then your names; then what follows =====
end
section
/-! Names, fields, words: written by wip/whole/names.py. -/
def TW : List Cond := lw_tbl.filter goodWord
theorem twm {w : Cond} (h : w ∈ lw_tbl) (hg : goodWord w = true) : w ∈ TW := List.mem_filter.mpr ⟨h, hg⟩
theorem tw_in : ∀ w ∈ TW, w ∈ lw_tbl := fun _ h => (List.mem_filter.mp h).1
theorem gTW {x y : Cond} (h : y ∈ TW) : GoodIn (x :: TW) (y :: TW) := fun w hw => by
  have hm : w ∈ TW := by rcases List.mem_cons.mp hw with rfl | q <;> assumption
  exact ⟨List.mem_cons_of_mem _ hm, good_of_word (List.mem_filter.mp hm).2⟩
theorem gTL {y : Cond} (h : y ∈ TW) : GoodIn lw_tbl (y :: TW) := fun w hw => by
  have hm : w ∈ TW := by rcases List.mem_cons.mp hw with rfl | q <;> assumption
  exact ⟨tw_in w hm, good_of_word (List.mem_filter.mp hm).2⟩
theorem gT1 {x y : Cond} {z : List Cond} (h : y ∈ TW) (hz : GoodIn (x :: TW) z) : GoodIn (x :: TW) (y :: z) := fun w hw => by
  rcases List.mem_cons.mp hw with rfl | q
  · exact ⟨List.mem_cons_of_mem _ h, good_of_word (List.mem_filter.mp h).2⟩
  · exact hz w q
theorem gT0 {y : Cond} {z : List Cond} (h : y ∈ TW) (hz : GoodIn lw_tbl z) : GoodIn lw_tbl (y :: z) := fun w hw => by
  rcases List.mem_cons.mp hw with rfl | q
  · exact ⟨tw_in _ h, good_of_word (List.mem_filter.mp h).2⟩
  · exact hz w q
def nAS : String := "GroupHalls$AlikeSets"
def nBE : String := "GroupHalls$Bench"
def nCL : String := "GroupHalls$Closure"
def nGR : String := "GroupHalls$Group"
def nHA : String := "GroupHalls$Halves"
def nRO : String := "GroupHalls$Row"
def nGH : String := "GroupHalls"
def nMO : String := "GroupHallsModel"
def nLW : String := "GroupHallsLaw"
def nJI : String := "java/lang/Integer"
def nJM : String := "java/lang/Math"
def nJS : String := "java/lang/System"
def fAS : u_T := fun k => match k with
  | 0 => ("GroupHalls$AlikeSets", "setOf", "[I", true)
  | 1 => ("GroupHalls$AlikeSets", "sizes", "[I", true)
  | _ => ("GroupHalls$AlikeSets", "count", "I", false)
def tAS : Nat → FieldType := fun k => match k with
  | 0 => .array .int
  | 1 => .array .int
  | _ => .int
theorem nmAS : ∀ a, a < 3 → ∀ b, b < 3 → a ≠ b → (fAS a).2.1 ≠ (fAS b).2.1 := by decide +kernel
theorem tkAS : ∀ k, k < 3 → parseFieldDescriptor (fAS k).2.2.1 = some (tAS k) := by decide +kernel
theorem inAS : ∀ w ∈ u_ws nAS fAS 3, w ∈ lw_tbl := by decide +kernel
theorem iwAS {x : Cond} : ∀ w ∈ u_ws nAS fAS 3, w ∈ x :: TW := fun w h => List.mem_cons_of_mem _ (twm (inAS w h) (by revert w h; decide +kernel))
def fBE : u_T := fun k => match k with
  | 0 => ("GroupHalls$Bench", "left", "[I", true)
  | _ => ("GroupHalls$Bench", "right", "[I", true)
def tBE : Nat → FieldType := fun k => match k with
  | 0 => .array .int
  | _ => .array .int
theorem nmBE : ∀ a, a < 2 → ∀ b, b < 2 → a ≠ b → (fBE a).2.1 ≠ (fBE b).2.1 := by decide +kernel
theorem tkBE : ∀ k, k < 2 → parseFieldDescriptor (fBE k).2.2.1 = some (tBE k) := by decide +kernel
theorem inBE : ∀ w ∈ u_ws nBE fBE 2, w ∈ lw_tbl := by decide +kernel
theorem iwBE {x : Cond} : ∀ w ∈ u_ws nBE fBE 2, w ∈ x :: TW := fun w h => List.mem_cons_of_mem _ (twm (inBE w h) (by revert w h; decide +kernel))
def fCL : u_T := fun k => match k with
  | 0 => ("GroupHalls$Closure", "bench", "LGroupHalls$Bench;", true)
  | 1 => ("GroupHalls$Closure", "found", "LGroupHalls$Row;", true)
  | 2 => ("GroupHalls$Closure", "came", "[I", true)
  | 3 => ("GroupHalls$Closure", "cameCount", "I", false)
  | 4 => ("GroupHalls$Closure", "generators", "[I", true)
  | _ => ("GroupHalls$Closure", "generatorCount", "I", false)
def tCL : Nat → FieldType := fun k => match k with
  | 0 => .object "GroupHalls$Bench"
  | 1 => .object "GroupHalls$Row"
  | 2 => .array .int
  | 3 => .int
  | 4 => .array .int
  | _ => .int
theorem nmCL : ∀ a, a < 6 → ∀ b, b < 6 → a ≠ b → (fCL a).2.1 ≠ (fCL b).2.1 := by decide +kernel
theorem tkCL : ∀ k, k < 6 → parseFieldDescriptor (fCL k).2.2.1 = some (tCL k) := by decide +kernel
theorem inCL : ∀ w ∈ u_ws nCL fCL 6, w ∈ lw_tbl := by decide +kernel
theorem iwCL {x : Cond} : ∀ w ∈ u_ws nCL fCL 6, w ∈ x :: TW := fun w h => List.mem_cons_of_mem _ (twm (inCL w h) (by revert w h; decide +kernel))
def fGR : u_T := fun k => match k with
  | 0 => ("GroupHalls$Group", "keys", "LGroupHalls$Row;", true)
  | 1 => ("GroupHalls$Group", "matrices", "I", true)
  | 2 => ("GroupHalls$Group", "centrings", "I", true)
  | 3 => ("GroupHalls$Group", "letter", "I", true)
  | 4 => ("GroupHalls$Group", "pointClass", "I", true)
  | 5 => ("GroupHalls$Group", "alikeSets", "LGroupHalls$AlikeSets;", false)
  | _ => ("GroupHalls$Group", "halves", "LGroupHalls$Halves;", false)
def tGR : Nat → FieldType := fun k => match k with
  | 0 => .object "GroupHalls$Row"
  | 1 => .int
  | 2 => .int
  | 3 => .int
  | 4 => .int
  | 5 => .object "GroupHalls$AlikeSets"
  | _ => .object "GroupHalls$Halves"
theorem nmGR : ∀ a, a < 7 → ∀ b, b < 7 → a ≠ b → (fGR a).2.1 ≠ (fGR b).2.1 := by decide +kernel
theorem tkGR : ∀ k, k < 7 → parseFieldDescriptor (fGR k).2.2.1 = some (tGR k) := by decide +kernel
theorem inGR : ∀ w ∈ u_ws nGR fGR 7, w ∈ lw_tbl := by decide +kernel
theorem iwGR {x : Cond} : ∀ w ∈ u_ws nGR fGR 7, w ∈ x :: TW := fun w h => List.mem_cons_of_mem _ (twm (inGR w h) (by revert w h; decide +kernel))
def fHA : u_T := fun k => match k with
  | 0 => ("GroupHalls$Halves", "codes", "[I", true)
  | _ => ("GroupHalls$Halves", "bits", "I", false)
def tHA : Nat → FieldType := fun k => match k with
  | 0 => .array .int
  | _ => .int
theorem nmHA : ∀ a, a < 2 → ∀ b, b < 2 → a ≠ b → (fHA a).2.1 ≠ (fHA b).2.1 := by decide +kernel
theorem tkHA : ∀ k, k < 2 → parseFieldDescriptor (fHA k).2.2.1 = some (tHA k) := by decide +kernel
theorem inHA : ∀ w ∈ u_ws nHA fHA 2, w ∈ lw_tbl := by decide +kernel
theorem iwHA {x : Cond} : ∀ w ∈ u_ws nHA fHA 2, w ∈ x :: TW := fun w h => List.mem_cons_of_mem _ (twm (inHA w h) (by revert w h; decide +kernel))
def fRO : u_T := fun k => match k with
  | 0 => ("GroupHalls$Row", "numbers", "[I", true)
  | _ => ("GroupHalls$Row", "size", "I", false)
def tRO : Nat → FieldType := fun k => match k with
  | 0 => .array .int
  | _ => .int
theorem nmRO : ∀ a, a < 2 → ∀ b, b < 2 → a ≠ b → (fRO a).2.1 ≠ (fRO b).2.1 := by decide +kernel
theorem tkRO : ∀ k, k < 2 → parseFieldDescriptor (fRO k).2.2.1 = some (tRO k) := by decide +kernel
theorem inRO : ∀ w ∈ u_ws nRO fRO 2, w ∈ lw_tbl := by decide +kernel
theorem iwRO {x : Cond} : ∀ w ∈ u_ws nRO fRO 2, w ∈ x :: TW := fun w h => List.mem_cons_of_mem _ (twm (inRO w h) (by revert w h; decide +kernel))
def fGH : u_T := fun k => match k with
  | 0 => ("GroupHalls", "halls", "[LGroupHalls$Group;", true)
  | 1 => ("GroupHalls", "made", "I", false)
  | 2 => ("GroupHalls", "chosen", "[I", true)
  | 3 => ("GroupHalls", "chosenCount", "I", false)
  | 4 => ("GroupHalls", "bench", "LGroupHalls$Bench;", true)
  | 5 => ("GroupHalls", "closure", "LGroupHalls$Closure;", true)
  | _ => ("GroupHalls", "gathered", "LGroupHalls$Row;", true)
def tGH : Nat → FieldType := fun k => match k with
  | 0 => .array (.object "GroupHalls$Group")
  | 1 => .int
  | 2 => .array .int
  | 3 => .int
  | 4 => .object "GroupHalls$Bench"
  | 5 => .object "GroupHalls$Closure"
  | _ => .object "GroupHalls$Row"
theorem nmGH : ∀ a, a < 7 → ∀ b, b < 7 → a ≠ b → (fGH a).2.1 ≠ (fGH b).2.1 := by decide +kernel
theorem tkGH : ∀ k, k < 7 → parseFieldDescriptor (fGH k).2.2.1 = some (tGH k) := by decide +kernel
theorem inGH : ∀ w ∈ u_ws nGH fGH 7, w ∈ lw_tbl := by decide +kernel
theorem iwGH {x : Cond} : ∀ w ∈ u_ws nGH fGH 7, w ∈ x :: TW := fun w h => List.mem_cons_of_mem _ (twm (inGH w h) (by revert w h; decide +kernel))
def fMO : u_T := fun k => match k with
  | 0 => ("GroupHallsModel", "ma", "[I", true)
  | 1 => ("GroupHallsModel", "sa", "[I", true)
  | 2 => ("GroupHallsModel", "mb", "[I", true)
  | 3 => ("GroupHallsModel", "sb", "[I", true)
  | 4 => ("GroupHallsModel", "chosen", "[I", true)
  | 5 => ("GroupHallsModel", "choices", "I", false)
  | 6 => ("GroupHallsModel", "member", "[I", true)
  | 7 => ("GroupHallsModel", "size", "[I", true)
  | 8 => ("GroupHallsModel", "groups", "I", false)
  | 9 => ("GroupHallsModel", "list", "[I", true)
  | 10 => ("GroupHallsModel", "listed", "I", false)
  | 11 => ("GroupHallsModel", "alikes", "[I", true)
  | 12 => ("GroupHallsModel", "alikeMany", "[I", true)
  | 13 => ("GroupHallsModel", "halves", "[I", true)
  | 14 => ("GroupHallsModel", "known", "[Z", true)
  | 15 => ("GroupHallsModel", "halfBits", "[J", true)
  | 16 => ("GroupHallsModel", "table", "[I", true)
  | 17 => ("GroupHallsModel", "mark", "[I", true)
  | 18 => ("GroupHallsModel", "generator", "[I", true)
  | 19 => ("GroupHallsModel", "orbit", "[I", true)
  | 20 => ("GroupHallsModel", "sorts", "[I", true)
  | 21 => ("GroupHallsModel", "keeper", "[I", true)
  | 22 => ("GroupHallsModel", "mc", "[I", true)
  | _ => ("GroupHallsModel", "sc", "[I", true)
def tMO : Nat → FieldType := fun k => match k with
  | 0 => .array .int
  | 1 => .array .int
  | 2 => .array .int
  | 3 => .array .int
  | 4 => .array .int
  | 5 => .int
  | 6 => .array .int
  | 7 => .array .int
  | 8 => .int
  | 9 => .array .int
  | 10 => .int
  | 11 => .array .int
  | 12 => .array .int
  | 13 => .array .int
  | 14 => .array .boolean
  | 15 => .array .long
  | 16 => .array .int
  | 17 => .array .int
  | 18 => .array .int
  | 19 => .array .int
  | 20 => .array .int
  | 21 => .array .int
  | 22 => .array .int
  | _ => .array .int
theorem nmMO : ∀ a, a < 24 → ∀ b, b < 24 → a ≠ b → (fMO a).2.1 ≠ (fMO b).2.1 := by decide +kernel
theorem tkMO : ∀ k, k < 24 → parseFieldDescriptor (fMO k).2.2.1 = some (tMO k) := by decide +kernel
theorem inMO : ∀ w ∈ u_ws nMO fMO 24, w ∈ lw_tbl := by decide +kernel
theorem iwMO {x : Cond} : ∀ w ∈ u_ws nMO fMO 24, w ∈ x :: TW := fun w h => List.mem_cons_of_mem _ (twm (inMO w h) (by revert w h; decide +kernel))
abbrev vwCl : List vw_C := [(nAS, fAS, 3), (nBE, fBE, 2), (nCL, fCL, 6), (nGR, fGR, 7), (nHA, fHA, 2), (nRO, fRO, 2), (nGH, fGH, 7), (nMO, fMO, 24)]
abbrev cGH_init : ByteArray := prog_1_method_1_code
def yGH_init : MethodName := ⟨nGH, "<init>", "()V"⟩
abbrev wGH_init : List Cond := .code yGH_init cGH_init 1 ((Option.none : Option Jvm.ClassFile.FieldType)) :: TW
theorem kcGH_init : Cond.code yGH_init cGH_init 1 ((Option.none : Option Jvm.ClassFile.FieldType)) ∈ TW := twm (by decide +kernel) (by decide +kernel)
abbrev cBE_init : ByteArray := prog_3_method_1_code
def yBE_init : MethodName := ⟨nBE, "<init>", "()V"⟩
abbrev wBE_init : List Cond := .code yBE_init cBE_init 1 ((Option.none : Option Jvm.ClassFile.FieldType)) :: TW
theorem kcBE_init : Cond.code yBE_init cBE_init 1 ((Option.none : Option Jvm.ClassFile.FieldType)) ∈ TW := twm (by decide +kernel) (by decide +kernel)
abbrev cCL_init : ByteArray := prog_4_method_1_code
def yCL_init : MethodName := ⟨nCL, "<init>", "(LGroupHalls$Bench;)V"⟩
abbrev wCL_init : List Cond := .code yCL_init cCL_init 2 ((Option.none : Option Jvm.ClassFile.FieldType)) :: TW
theorem kcCL_init : Cond.code yCL_init cCL_init 2 ((Option.none : Option Jvm.ClassFile.FieldType)) ∈ TW := twm (by decide +kernel) (by decide +kernel)
abbrev cRO_init : ByteArray := prog_7_method_1_code
def yRO_init : MethodName := ⟨nRO, "<init>", "(I)V"⟩
abbrev wRO_init : List Cond := .code yRO_init cRO_init 2 ((Option.none : Option Jvm.ClassFile.FieldType)) :: TW
theorem kcRO_init : Cond.code yRO_init cRO_init 2 ((Option.none : Option Jvm.ClassFile.FieldType)) ∈ TW := twm (by decide +kernel) (by decide +kernel)
abbrev cJM_max : ByteArray := prog_11_method_65_code
def yJM_max : MethodName := ⟨nJM, "max", "(II)I"⟩
abbrev wJM_max : List Cond := .code yJM_max cJM_max 2 ((Option.some .int)) :: TW
theorem kcJM_max : Cond.code yJM_max cJM_max 2 ((Option.some .int)) ∈ TW := twm (by decide +kernel) (by decide +kernel)
abbrev cGH_choose : ByteArray := prog_1_method_2_code
def yGH_choose : MethodName := ⟨nGH, "choose", "(II)I"⟩
abbrev wGH_choose : List Cond := .code yGH_choose cGH_choose 5 ((Option.some .int)) :: TW
theorem kcGH_choose : Cond.code yGH_choose cGH_choose 5 ((Option.some .int)) ∈ TW := twm (by decide +kernel) (by decide +kernel)
abbrev cGH_isNine : ByteArray := prog_1_method_14_code
def yGH_isNine : MethodName := ⟨nGH, "isNine", "(I)Z"⟩
abbrev wGH_isNine : List Cond := .code yGH_isNine cGH_isNine 1 ((Option.some .boolean)) :: TW
theorem kcGH_isNine : Cond.code yGH_isNine cGH_isNine 1 ((Option.some .boolean)) ∈ TW := twm (by decide +kernel) (by decide +kernel)
abbrev cGH_isPlace : ByteArray := prog_1_method_15_code
def yGH_isPlace : MethodName := ⟨nGH, "isPlace", "(I)Z"⟩
abbrev wGH_isPlace : List Cond := .code yGH_isPlace cGH_isPlace 1 ((Option.some .boolean)) :: TW
theorem kcGH_isPlace : Cond.code yGH_isPlace cGH_isPlace 1 ((Option.some .boolean)) ∈ TW := twm (by decide +kernel) (by decide +kernel)
abbrev cBE_determinant : ByteArray := prog_3_method_2_code
def yBE_determinant : MethodName := ⟨nBE, "determinant", "(I)I"⟩
abbrev wBE_determinant : List Cond := .code yBE_determinant cBE_determinant 2 ((Option.some .int)) :: TW
theorem kcBE_determinant : Cond.code yBE_determinant cBE_determinant 2 ((Option.some .int)) ∈ TW := twm (by decide +kernel) (by decide +kernel)
abbrev cBE_read : ByteArray := prog_3_method_8_code
def yBE_read : MethodName := ⟨nBE, "read", "(I[I)V"⟩
abbrev wBE_read : List Cond := .code yBE_read cBE_read 4 ((Option.none : Option Jvm.ClassFile.FieldType)) :: TW
theorem kcBE_read : Cond.code yBE_read cBE_read 4 ((Option.none : Option Jvm.ClassFile.FieldType)) ∈ TW := twm (by decide +kernel) (by decide +kernel)
abbrev cGH_group : ByteArray := prog_1_method_3_code
def yGH_group : MethodName := ⟨nGH, "group", "()I"⟩
abbrev wGH_group : List Cond := .code yGH_group cGH_group 3 ((Option.some .int)) :: TW
theorem kcGH_group : Cond.code yGH_group cGH_group 3 ((Option.some .int)) ∈ TW := twm (by decide +kernel) (by decide +kernel)
abbrev cCL_start : ByteArray := prog_4_method_2_code
def yCL_start : MethodName := ⟨nCL, "start", "()V"⟩
abbrev wCL_start : List Cond := .code yCL_start cCL_start 1 ((Option.none : Option Jvm.ClassFile.FieldType)) :: TW
theorem kcCL_start : Cond.code yCL_start cCL_start 1 ((Option.none : Option Jvm.ClassFile.FieldType)) ∈ TW := twm (by decide +kernel) (by decide +kernel)
abbrev cRO_clear : ByteArray := prog_7_method_3_code
def yRO_clear : MethodName := ⟨nRO, "clear", "()V"⟩
abbrev wRO_clear : List Cond := .code yRO_clear cRO_clear 1 ((Option.none : Option Jvm.ClassFile.FieldType)) :: TW
theorem kcRO_clear : Cond.code yRO_clear cRO_clear 1 ((Option.none : Option Jvm.ClassFile.FieldType)) ∈ TW := twm (by decide +kernel) (by decide +kernel)
abbrev cRO_add : ByteArray := prog_7_method_7_code
def yRO_add : MethodName := ⟨nRO, "add", "(I)Z"⟩
abbrev wRO_add : List Cond := .code yRO_add cRO_add 3 ((Option.some .boolean)) :: TW
theorem kcRO_add : Cond.code yRO_add cRO_add 3 ((Option.some .boolean)) ∈ TW := twm (by decide +kernel) (by decide +kernel)
abbrev cRO_firstNotBelow : ByteArray := prog_7_method_9_code
def yRO_firstNotBelow : MethodName := ⟨nRO, "firstNotBelow", "(I)I"⟩
abbrev wRO_firstNotBelow : List Cond := .code yRO_firstNotBelow cRO_firstNotBelow 6 ((Option.some .int)) :: TW
theorem kcRO_firstNotBelow : Cond.code yRO_firstNotBelow cRO_firstNotBelow 6 ((Option.some .int)) ∈ TW := twm (by decide +kernel) (by decide +kernel)
abbrev cRO_at : ByteArray := prog_7_method_4_code
def yRO_at : MethodName := ⟨nRO, "at", "(I)I"⟩
abbrev wRO_at : List Cond := .code yRO_at cRO_at 2 ((Option.some .int)) :: TW
theorem kcRO_at : Cond.code yRO_at cRO_at 2 ((Option.some .int)) ∈ TW := twm (by decide +kernel) (by decide +kernel)
abbrev cCL_take : ByteArray := prog_4_method_6_code
def yCL_take : MethodName := ⟨nCL, "take", "(I)Z"⟩
abbrev wCL_take : List Cond := .code yCL_take cCL_take 6 ((Option.some .boolean)) :: TW
theorem kcCL_take : Cond.code yCL_take cCL_take 6 ((Option.some .boolean)) ∈ TW := twm (by decide +kernel) (by decide +kernel)
abbrev cRO_has : ByteArray := prog_7_method_5_code
def yRO_has : MethodName := ⟨nRO, "has", "(I)Z"⟩
abbrev wRO_has : List Cond := .code yRO_has cRO_has 2 ((Option.some .boolean)) :: TW
theorem kcRO_has : Cond.code yRO_has cRO_has 2 ((Option.some .boolean)) ∈ TW := twm (by decide +kernel) (by decide +kernel)
abbrev cRO_indexOf : ByteArray := prog_7_method_6_code
def yRO_indexOf : MethodName := ⟨nRO, "indexOf", "(I)I"⟩
abbrev wRO_indexOf : List Cond := .code yRO_indexOf cRO_indexOf 3 ((Option.some .int)) :: TW
theorem kcRO_indexOf : Cond.code yRO_indexOf cRO_indexOf 3 ((Option.some .int)) ∈ TW := twm (by decide +kernel) (by decide +kernel)
abbrev cCL_addCoset : ByteArray := prog_4_method_7_code
def yCL_addCoset : MethodName := ⟨nCL, "addCoset", "(II)Z"⟩
abbrev wCL_addCoset : List Cond := .code yCL_addCoset cCL_addCoset 5 ((Option.some .boolean)) :: TW
theorem kcCL_addCoset : Cond.code yCL_addCoset cCL_addCoset 5 ((Option.some .boolean)) ∈ TW := twm (by decide +kernel) (by decide +kernel)
abbrev cBE_times : ByteArray := prog_3_method_4_code
def yBE_times : MethodName := ⟨nBE, "times", "(II)I"⟩
abbrev wBE_times : List Cond := .code yBE_times cBE_times 7 ((Option.some .int)) :: TW
theorem kcBE_times : Cond.code yBE_times cBE_times 7 ((Option.some .int)) ∈ TW := twm (by decide +kernel) (by decide +kernel)
abbrev cBE_movedByLeft : ByteArray := prog_3_method_7_code
def yBE_movedByLeft : MethodName := ⟨nBE, "movedByLeft", "(II)I"⟩
abbrev wBE_movedByLeft : List Cond := .code yBE_movedByLeft cBE_movedByLeft 9 ((Option.some .int)) :: TW
theorem kcBE_movedByLeft : Cond.code yBE_movedByLeft cBE_movedByLeft 9 ((Option.some .int)) ∈ TW := twm (by decide +kernel) (by decide +kernel)
abbrev cCL_generator : ByteArray := prog_4_method_5_code
def yCL_generator : MethodName := ⟨nCL, "generator", "(I)I"⟩
abbrev wCL_generator : List Cond := .code yCL_generator cCL_generator 2 ((Option.some .int)) :: TW
theorem kcCL_generator : Cond.code yCL_generator cCL_generator 2 ((Option.some .int)) ∈ TW := twm (by decide +kernel) (by decide +kernel)
abbrev cCL_found : ByteArray := prog_4_method_3_code
def yCL_found : MethodName := ⟨nCL, "found", "()LGroupHalls$Row;"⟩
abbrev wCL_found : List Cond := .code yCL_found cCL_found 1 ((Option.some (.object "GroupHalls$Row"))) :: TW
theorem kcCL_found : Cond.code yCL_found cCL_found 1 ((Option.some (.object "GroupHalls$Row"))) ∈ TW := twm (by decide +kernel) (by decide +kernel)
abbrev cGH_numberOf : ByteArray := prog_1_method_17_code
def yGH_numberOf : MethodName := ⟨nGH, "numberOf", "(LGroupHalls$Row;)I"⟩
abbrev wGH_numberOf : List Cond := .code yGH_numberOf cGH_numberOf 4 ((Option.some .int)) :: TW
theorem kcGH_numberOf : Cond.code yGH_numberOf cGH_numberOf 4 ((Option.some .int)) ∈ TW := twm (by decide +kernel) (by decide +kernel)
abbrev cGH_hallAt : ByteArray := prog_1_method_16_code
def yGH_hallAt : MethodName := ⟨nGH, "hallAt", "(I)LGroupHalls$Group;"⟩
abbrev wGH_hallAt : List Cond := .code yGH_hallAt cGH_hallAt 2 ((Option.some (.object "GroupHalls$Group"))) :: TW
theorem kcGH_hallAt : Cond.code yGH_hallAt cGH_hallAt 2 ((Option.some (.object "GroupHalls$Group"))) ∈ TW := twm (by decide +kernel) (by decide +kernel)
abbrev cGR_keys : ByteArray := prog_5_method_2_code
def yGR_keys : MethodName := ⟨nGR, "keys", "()LGroupHalls$Row;"⟩
abbrev wGR_keys : List Cond := .code yGR_keys cGR_keys 1 ((Option.some (.object "GroupHalls$Row"))) :: TW
theorem kcGR_keys : Cond.code yGR_keys cGR_keys 1 ((Option.some (.object "GroupHalls$Row"))) ∈ TW := twm (by decide +kernel) (by decide +kernel)
abbrev cRO_isLike : ByteArray := prog_7_method_8_code
def yRO_isLike : MethodName := ⟨nRO, "isLike", "(LGroupHalls$Row;)Z"⟩
abbrev wRO_isLike : List Cond := .code yRO_isLike cRO_isLike 3 ((Option.some .boolean)) :: TW
theorem kcRO_isLike : Cond.code yRO_isLike cRO_isLike 3 ((Option.some .boolean)) ∈ TW := twm (by decide +kernel) (by decide +kernel)
abbrev cGR_init : ByteArray := prog_5_method_1_code
def yGR_init : MethodName := ⟨nGR, "<init>", "(LGroupHalls$Row;LGroupHalls$Bench;)V"⟩
abbrev wGR_init : List Cond := .code yGR_init cGR_init 8 ((Option.none : Option Jvm.ClassFile.FieldType)) :: TW
theorem kcGR_init : Cond.code yGR_init cGR_init 8 ((Option.none : Option Jvm.ClassFile.FieldType)) ∈ TW := twm (by decide +kernel) (by decide +kernel)
abbrev cRO_size : ByteArray := prog_7_method_2_code
def yRO_size : MethodName := ⟨nRO, "size", "()I"⟩
abbrev wRO_size : List Cond := .code yRO_size cRO_size 1 ((Option.some .int)) :: TW
theorem kcRO_size : Cond.code yRO_size cRO_size 1 ((Option.some .int)) ∈ TW := twm (by decide +kernel) (by decide +kernel)
abbrev cGR_letterOf : ByteArray := prog_5_method_9_code
def yGR_letterOf : MethodName := ⟨nGR, "letterOf", "(LGroupHalls$Row;I)I"⟩
abbrev wGR_letterOf : List Cond := .code yGR_letterOf cGR_letterOf 6 ((Option.some .int)) :: TW
theorem kcGR_letterOf : Cond.code yGR_letterOf cGR_letterOf 6 ((Option.some .int)) ∈ TW := twm (by decide +kernel) (by decide +kernel)
abbrev cGR_letterOfTwo : ByteArray := prog_5_method_10_code
def yGR_letterOfTwo : MethodName := ⟨nGR, "letterOfTwo", "(I)I"⟩
abbrev wGR_letterOfTwo : List Cond := .code yGR_letterOfTwo cGR_letterOfTwo 1 ((Option.some .int)) :: TW
theorem kcGR_letterOfTwo : Cond.code yGR_letterOfTwo cGR_letterOfTwo 1 ((Option.some .int)) ∈ TW := twm (by decide +kernel) (by decide +kernel)
abbrev cGH_classOf : ByteArray := prog_1_method_20_code
def yGH_classOf : MethodName := ⟨nGH, "classOf", "(LGroupHalls$Row;LGroupHalls$Bench;)I"⟩
abbrev wGH_classOf : List Cond := .code yGH_classOf cGH_classOf 6 ((Option.some .int)) :: TW
theorem kcGH_classOf : Cond.code yGH_classOf cGH_classOf 6 ((Option.some .int)) ∈ TW := twm (by decide +kernel) (by decide +kernel)
abbrev cBE_sort : ByteArray := prog_3_method_3_code
def yBE_sort : MethodName := ⟨nBE, "sort", "(I)I"⟩
abbrev wBE_sort : List Cond := .code yBE_sort cBE_sort 4 ((Option.some .int)) :: TW
theorem kcBE_sort : Cond.code yBE_sort cBE_sort 4 ((Option.some .int)) ∈ TW := twm (by decide +kernel) (by decide +kernel)
abbrev cGH_digitOf : ByteArray := prog_1_method_21_code
def yGH_digitOf : MethodName := ⟨nGH, "digitOf", "(I)I"⟩
abbrev wGH_digitOf : List Cond := .code yGH_digitOf cGH_digitOf 1 ((Option.some .int)) :: TW
theorem kcGH_digitOf : Cond.code yGH_digitOf cGH_digitOf 1 ((Option.some .int)) ∈ TW := twm (by decide +kernel) (by decide +kernel)
abbrev cGH_about : ByteArray := prog_1_method_4_code
def yGH_about : MethodName := ⟨nGH, "about", "(II)I"⟩
abbrev wGH_about : List Cond := .code yGH_about cGH_about 4 ((Option.some .int)) :: TW
theorem kcGH_about : Cond.code yGH_about cGH_about 4 ((Option.some .int)) ∈ TW := twm (by decide +kernel) (by decide +kernel)
abbrev cGR_matrices : ByteArray := prog_5_method_3_code
def yGR_matrices : MethodName := ⟨nGR, "matrices", "()I"⟩
abbrev wGR_matrices : List Cond := .code yGR_matrices cGR_matrices 1 ((Option.some .int)) :: TW
theorem kcGR_matrices : Cond.code yGR_matrices cGR_matrices 1 ((Option.some .int)) ∈ TW := twm (by decide +kernel) (by decide +kernel)
abbrev cGR_centrings : ByteArray := prog_5_method_4_code
def yGR_centrings : MethodName := ⟨nGR, "centrings", "()I"⟩
abbrev wGR_centrings : List Cond := .code yGR_centrings cGR_centrings 1 ((Option.some .int)) :: TW
theorem kcGR_centrings : Cond.code yGR_centrings cGR_centrings 1 ((Option.some .int)) ∈ TW := twm (by decide +kernel) (by decide +kernel)
abbrev cGR_letter : ByteArray := prog_5_method_5_code
def yGR_letter : MethodName := ⟨nGR, "letter", "()I"⟩
abbrev wGR_letter : List Cond := .code yGR_letter cGR_letter 1 ((Option.some .int)) :: TW
theorem kcGR_letter : Cond.code yGR_letter cGR_letter 1 ((Option.some .int)) ∈ TW := twm (by decide +kernel) (by decide +kernel)
abbrev cGR_pointClass : ByteArray := prog_5_method_6_code
def yGR_pointClass : MethodName := ⟨nGR, "pointClass", "()I"⟩
abbrev wGR_pointClass : List Cond := .code yGR_pointClass cGR_pointClass 1 ((Option.some .int)) :: TW
theorem kcGR_pointClass : Cond.code yGR_pointClass cGR_pointClass 1 ((Option.some .int)) ∈ TW := twm (by decide +kernel) (by decide +kernel)
abbrev cGR_alikeSets : ByteArray := prog_5_method_7_code
def yGR_alikeSets : MethodName := ⟨nGR, "alikeSets", "(LGroupHalls$Bench;LGroupHalls$Closure;)LGroupHalls$AlikeSets;"⟩
abbrev wGR_alikeSets : List Cond := .code yGR_alikeSets cGR_alikeSets 3 ((Option.some (.object "GroupHalls$AlikeSets"))) :: TW
theorem kcGR_alikeSets : Cond.code yGR_alikeSets cGR_alikeSets 3 ((Option.some (.object "GroupHalls$AlikeSets"))) ∈ TW := twm (by decide +kernel) (by decide +kernel)
abbrev cAS_init : ByteArray := prog_2_method_1_code
def yAS_init : MethodName := ⟨nAS, "<init>", "(LGroupHalls$Row;LGroupHalls$Bench;LGroupHalls$Closure;)V"⟩
abbrev wAS_init : List Cond := .code yAS_init cAS_init 8 ((Option.none : Option Jvm.ClassFile.FieldType)) :: TW
theorem kcAS_init : Cond.code yAS_init cAS_init 8 ((Option.none : Option Jvm.ClassFile.FieldType)) ∈ TW := twm (by decide +kernel) (by decide +kernel)
abbrev cCL_generatorCount : ByteArray := prog_4_method_4_code
def yCL_generatorCount : MethodName := ⟨nCL, "generatorCount", "()I"⟩
abbrev wCL_generatorCount : List Cond := .code yCL_generatorCount cCL_generatorCount 1 ((Option.some .int)) :: TW
theorem kcCL_generatorCount : Cond.code yCL_generatorCount cCL_generatorCount 1 ((Option.some .int)) ∈ TW := twm (by decide +kernel) (by decide +kernel)
abbrev cAS_joinBy : ByteArray := prog_2_method_4_code
def yAS_joinBy : MethodName := ⟨nAS, "joinBy", "(ILGroupHalls$Row;LGroupHalls$Bench;[I)V"⟩
abbrev wAS_joinBy : List Cond := .code yAS_joinBy cAS_joinBy 7 ((Option.none : Option Jvm.ClassFile.FieldType)) :: TW
theorem kcAS_joinBy : Cond.code yAS_joinBy cAS_joinBy 7 ((Option.none : Option Jvm.ClassFile.FieldType)) ∈ TW := twm (by decide +kernel) (by decide +kernel)
abbrev cAS_join : ByteArray := prog_2_method_5_code
def yAS_join : MethodName := ⟨nAS, "join", "(II)V"⟩
abbrev wAS_join : List Cond := .code yAS_join cAS_join 6 ((Option.none : Option Jvm.ClassFile.FieldType)) :: TW
theorem kcAS_join : Cond.code yAS_join cAS_join 6 ((Option.none : Option Jvm.ClassFile.FieldType)) ∈ TW := twm (by decide +kernel) (by decide +kernel)
abbrev cAS_count : ByteArray := prog_2_method_2_code
def yAS_count : MethodName := ⟨nAS, "count", "()I"⟩
abbrev wAS_count : List Cond := .code yAS_count cAS_count 1 ((Option.some .int)) :: TW
theorem kcAS_count : Cond.code yAS_count cAS_count 1 ((Option.some .int)) ∈ TW := twm (by decide +kernel) (by decide +kernel)
abbrev cGR_halves : ByteArray := prog_5_method_8_code
def yGR_halves : MethodName := ⟨nGR, "halves", "(LGroupHalls$Bench;LGroupHalls$Closure;)LGroupHalls$Halves;"⟩
abbrev wGR_halves : List Cond := .code yGR_halves cGR_halves 3 ((Option.some (.object "GroupHalls$Halves"))) :: TW
theorem kcGR_halves : Cond.code yGR_halves cGR_halves 3 ((Option.some (.object "GroupHalls$Halves"))) ∈ TW := twm (by decide +kernel) (by decide +kernel)
abbrev cHA_init : ByteArray := prog_6_method_1_code
def yHA_init : MethodName := ⟨nHA, "<init>", "(LGroupHalls$Row;LGroupHalls$Bench;LGroupHalls$Closure;)V"⟩
abbrev wHA_init : List Cond := .code yHA_init cHA_init 5 ((Option.none : Option Jvm.ClassFile.FieldType)) :: TW
theorem kcHA_init : Cond.code yHA_init cHA_init 5 ((Option.none : Option Jvm.ClassFile.FieldType)) ∈ TW := twm (by decide +kernel) (by decide +kernel)
abbrev cHA_addBit : ByteArray := prog_6_method_5_code
def yHA_addBit : MethodName := ⟨nHA, "addBit", "(ILGroupHalls$Row;LGroupHalls$Bench;)V"⟩
abbrev wHA_addBit : List Cond := .code yHA_addBit cHA_addBit 7 ((Option.none : Option Jvm.ClassFile.FieldType)) :: TW
theorem kcHA_addBit : Cond.code yHA_addBit cHA_addBit 7 ((Option.none : Option Jvm.ClassFile.FieldType)) ∈ TW := twm (by decide +kernel) (by decide +kernel)
abbrev cHA_count : ByteArray := prog_6_method_2_code
def yHA_count : MethodName := ⟨nHA, "count", "()I"⟩
abbrev wHA_count : List Cond := .code yHA_count cHA_count 1 ((Option.some .int)) :: TW
theorem kcHA_count : Cond.code yHA_count cHA_count 1 ((Option.some .int)) ∈ TW := twm (by decide +kernel) (by decide +kernel)
abbrev cGH_of : ByteArray := prog_1_method_5_code
def yGH_of : MethodName := ⟨nGH, "of", "(III)I"⟩
abbrev wGH_of : List Cond := .code yGH_of cGH_of 6 ((Option.some .int)) :: TW
theorem kcGH_of : Cond.code yGH_of cGH_of 6 ((Option.some .int)) ∈ TW := twm (by decide +kernel) (by decide +kernel)
abbrev cBE_turns : ByteArray := prog_3_method_6_code
def yBE_turns : MethodName := ⟨nBE, "turns", "(I)I"⟩
abbrev wBE_turns : List Cond := .code yBE_turns cBE_turns 4 ((Option.some .int)) :: TW
theorem kcBE_turns : Cond.code yBE_turns cBE_turns 4 ((Option.some .int)) ∈ TW := twm (by decide +kernel) (by decide +kernel)
abbrev cAS_sizeOf : ByteArray := prog_2_method_3_code
def yAS_sizeOf : MethodName := ⟨nAS, "sizeOf", "(I)I"⟩
abbrev wAS_sizeOf : List Cond := .code yAS_sizeOf cAS_sizeOf 3 ((Option.some .int)) :: TW
theorem kcAS_sizeOf : Cond.code yAS_sizeOf cAS_sizeOf 3 ((Option.some .int)) ∈ TW := twm (by decide +kernel) (by decide +kernel)
abbrev cGH_product : ByteArray := prog_1_method_6_code
def yGH_product : MethodName := ⟨nGH, "product", "(III)I"⟩
abbrev wGH_product : List Cond := .code yGH_product cGH_product 7 ((Option.some .int)) :: TW
theorem kcGH_product : Cond.code yGH_product cGH_product 7 ((Option.some .int)) ∈ TW := twm (by decide +kernel) (by decide +kernel)
abbrev cGH_find : ByteArray := prog_1_method_7_code
def yGH_find : MethodName := ⟨nGH, "find", "(III)I"⟩
abbrev wGH_find : List Cond := .code yGH_find cGH_find 5 ((Option.some .int)) :: TW
theorem kcGH_find : Cond.code yGH_find cGH_find 5 ((Option.some .int)) ∈ TW := twm (by decide +kernel) (by decide +kernel)
abbrev cGH_half : ByteArray := prog_1_method_8_code
def yGH_half : MethodName := ⟨nGH, "half", "(II)I"⟩
abbrev wGH_half : List Cond := .code yGH_half cGH_half 5 ((Option.some .int)) :: TW
theorem kcGH_half : Cond.code yGH_half cGH_half 5 ((Option.some .int)) ∈ TW := twm (by decide +kernel) (by decide +kernel)
abbrev cHA_gather : ByteArray := prog_6_method_3_code
def yHA_gather : MethodName := ⟨nHA, "gather", "(ILGroupHalls$Row;LGroupHalls$Row;)V"⟩
abbrev wHA_gather : List Cond := .code yHA_gather cHA_gather 6 ((Option.none : Option Jvm.ClassFile.FieldType)) :: TW
theorem kcHA_gather : Cond.code yHA_gather cHA_gather 6 ((Option.none : Option Jvm.ClassFile.FieldType)) ∈ TW := twm (by decide +kernel) (by decide +kernel)
abbrev cHA_refusedBits : ByteArray := prog_6_method_4_code
def yHA_refusedBits : MethodName := ⟨nHA, "refusedBits", "(I)I"⟩
abbrev wHA_refusedBits : List Cond := .code yHA_refusedBits cHA_refusedBits 4 ((Option.some .int)) :: TW
theorem kcHA_refusedBits : Cond.code yHA_refusedBits cHA_refusedBits 4 ((Option.some .int)) ∈ TW := twm (by decide +kernel) (by decide +kernel)
abbrev cJI_bitCount : ByteArray := prog_10_method_49_code
def yJI_bitCount : MethodName := ⟨nJI, "bitCount", "(I)I"⟩
abbrev wJI_bitCount : List Cond := .code yJI_bitCount cJI_bitCount 1 ((Option.some .int)) :: TW
theorem kcJI_bitCount : Cond.code yJI_bitCount cJI_bitCount 1 ((Option.some .int)) ∈ TW := twm (by decide +kernel) (by decide +kernel)
abbrev cGH_both : ByteArray := prog_1_method_9_code
def yGH_both : MethodName := ⟨nGH, "both", "(II)I"⟩
abbrev wGH_both : List Cond := .code yGH_both cGH_both 7 ((Option.some .int)) :: TW
theorem kcGH_both : Cond.code yGH_both cGH_both 7 ((Option.some .int)) ∈ TW := twm (by decide +kernel) (by decide +kernel)
abbrev cGH_centre : ByteArray := prog_1_method_10_code
def yGH_centre : MethodName := ⟨nGH, "centre", "(I)I"⟩
abbrev wGH_centre : List Cond := .code yGH_centre cGH_centre 5 ((Option.some .int)) :: TW
theorem kcGH_centre : Cond.code yGH_centre cGH_centre 5 ((Option.some .int)) ∈ TW := twm (by decide +kernel) (by decide +kernel)
abbrev cGH_within : ByteArray := prog_1_method_11_code
def yGH_within : MethodName := ⟨nGH, "within", "(II)Z"⟩
abbrev wGH_within : List Cond := .code yGH_within cGH_within 6 ((Option.some .boolean)) :: TW
theorem kcGH_within : Cond.code yGH_within cGH_within 6 ((Option.some .boolean)) ∈ TW := twm (by decide +kernel) (by decide +kernel)
abbrev cGH_orbit : ByteArray := prog_1_method_12_code
def yGH_orbit : MethodName := ⟨nGH, "orbit", "(III)I"⟩
abbrev wGH_orbit : List Cond := .code yGH_orbit cGH_orbit 5 ((Option.some .int)) :: TW
theorem kcGH_orbit : Cond.code yGH_orbit cGH_orbit 5 ((Option.some .int)) ∈ TW := twm (by decide +kernel) (by decide +kernel)
abbrev cGH_gatherOrbit : ByteArray := prog_1_method_18_code
def yGH_gatherOrbit : MethodName := ⟨nGH, "gatherOrbit", "(LGroupHalls$Row;I)V"⟩
abbrev wGH_gatherOrbit : List Cond := .code yGH_gatherOrbit cGH_gatherOrbit 4 ((Option.none : Option Jvm.ClassFile.FieldType)) :: TW
theorem kcGH_gatherOrbit : Cond.code yGH_gatherOrbit cGH_gatherOrbit 4 ((Option.none : Option Jvm.ClassFile.FieldType)) ∈ TW := twm (by decide +kernel) (by decide +kernel)
abbrev cBE_moved : ByteArray := prog_3_method_5_code
def yBE_moved : MethodName := ⟨nBE, "moved", "(II)I"⟩
abbrev wBE_moved : List Cond := .code yBE_moved cBE_moved 3 ((Option.some .int)) :: TW
theorem kcBE_moved : Cond.code yBE_moved cBE_moved 3 ((Option.some .int)) ∈ TW := twm (by decide +kernel) (by decide +kernel)
abbrev cGH_gatherKeepers : ByteArray := prog_1_method_19_code
def yGH_gatherKeepers : MethodName := ⟨nGH, "gatherKeepers", "(LGroupHalls$Row;I)V"⟩
abbrev wGH_gatherKeepers : List Cond := .code yGH_gatherKeepers cGH_gatherKeepers 5 ((Option.none : Option Jvm.ClassFile.FieldType)) :: TW
theorem kcGH_gatherKeepers : Cond.code yGH_gatherKeepers cGH_gatherKeepers 5 ((Option.none : Option Jvm.ClassFile.FieldType)) ∈ TW := twm (by decide +kernel) (by decide +kernel)
abbrev cGH_keepers : ByteArray := prog_1_method_13_code
def yGH_keepers : MethodName := ⟨nGH, "keepers", "(II)I"⟩
abbrev wGH_keepers : List Cond := .code yGH_keepers cGH_keepers 4 ((Option.some .int)) :: TW
theorem kcGH_keepers : Cond.code yGH_keepers cGH_keepers 4 ((Option.some .int)) ∈ TW := twm (by decide +kernel) (by decide +kernel)
abbrev cMO_init : ByteArray := prog_9_method_1_code
def yMO_init : MethodName := ⟨nMO, "<init>", "()V"⟩
abbrev wMO_init : List Cond := .code yMO_init cMO_init 1 ((Option.none : Option Jvm.ClassFile.FieldType)) :: TW
theorem kcMO_init : Cond.code yMO_init cMO_init 1 ((Option.none : Option Jvm.ClassFile.FieldType)) ∈ TW := twm (by decide +kernel) (by decide +kernel)
abbrev cMO_choose : ByteArray := prog_9_method_10_code
def yMO_choose : MethodName := ⟨nMO, "choose", "(II)I"⟩
abbrev wMO_choose : List Cond := .code yMO_choose cMO_choose 4 ((Option.some .int)) :: TW
theorem kcMO_choose : Cond.code yMO_choose cMO_choose 4 ((Option.some .int)) ∈ TW := twm (by decide +kernel) (by decide +kernel)
abbrev cMO_open : ByteArray := prog_9_method_3_code
def yMO_open : MethodName := ⟨nMO, "open", "(I[I[I)V"⟩
abbrev wMO_open : List Cond := .code yMO_open cMO_open 6 ((Option.none : Option Jvm.ClassFile.FieldType)) :: TW
theorem kcMO_open : Cond.code yMO_open cMO_open 6 ((Option.none : Option Jvm.ClassFile.FieldType)) ∈ TW := twm (by decide +kernel) (by decide +kernel)
abbrev cMO_determinant : ByteArray := prog_9_method_4_code
def yMO_determinant : MethodName := ⟨nMO, "determinant", "([I)I"⟩
abbrev wMO_determinant : List Cond := .code yMO_determinant cMO_determinant 1 ((Option.some .int)) :: TW
theorem kcMO_determinant : Cond.code yMO_determinant cMO_determinant 1 ((Option.some .int)) ∈ TW := twm (by decide +kernel) (by decide +kernel)
abbrev cMO_group : ByteArray := prog_9_method_13_code
def yMO_group : MethodName := ⟨nMO, "group", "()I"⟩
abbrev wMO_group : List Cond := .code yMO_group cMO_group 5 ((Option.some .int)) :: TW
theorem kcMO_group : Cond.code yMO_group cMO_group 5 ((Option.some .int)) ∈ TW := twm (by decide +kernel) (by decide +kernel)
abbrev cMO_identity : ByteArray := prog_9_method_8_code
def yMO_identity : MethodName := ⟨nMO, "identity", "()I"⟩
abbrev wMO_identity : List Cond := .code yMO_identity cMO_identity 2 ((Option.some .int)) :: TW
theorem kcMO_identity : Cond.code yMO_identity cMO_identity 2 ((Option.some .int)) ∈ TW := twm (by decide +kernel) (by decide +kernel)
abbrev cMO_times : ByteArray := prog_9_method_6_code
def yMO_times : MethodName := ⟨nMO, "times", "(II)I"⟩
abbrev wMO_times : List Cond := .code yMO_times cMO_times 5 ((Option.some .int)) :: TW
theorem kcMO_times : Cond.code yMO_times cMO_times 5 ((Option.some .int)) ∈ TW := twm (by decide +kernel) (by decide +kernel)
abbrev cMO_closed : ByteArray := prog_9_method_5_code
def yMO_closed : MethodName := ⟨nMO, "closed", "([I[I)I"⟩
abbrev wMO_closed : List Cond := .code yMO_closed cMO_closed 4 ((Option.some .int)) :: TW
theorem kcMO_closed : Cond.code yMO_closed cMO_closed 4 ((Option.some .int)) ∈ TW := twm (by decide +kernel) (by decide +kernel)
abbrev cMO_isListed : ByteArray := prog_9_method_11_code
def yMO_isListed : MethodName := ⟨nMO, "isListed", "(I)Z"⟩
abbrev wMO_isListed : List Cond := .code yMO_isListed cMO_isListed 3 ((Option.some .boolean)) :: TW
theorem kcMO_isListed : Cond.code yMO_isListed cMO_isListed 3 ((Option.some .boolean)) ∈ TW := twm (by decide +kernel) (by decide +kernel)
abbrev cMO_numbered : ByteArray := prog_9_method_12_code
def yMO_numbered : MethodName := ⟨nMO, "numbered", "()I"⟩
abbrev wMO_numbered : List Cond := .code yMO_numbered cMO_numbered 4 ((Option.some .int)) :: TW
theorem kcMO_numbered : Cond.code yMO_numbered cMO_numbered 4 ((Option.some .int)) ∈ TW := twm (by decide +kernel) (by decide +kernel)
abbrev cMO_about : ByteArray := prog_9_method_29_code
def yMO_about : MethodName := ⟨nMO, "about", "(II)I"⟩
abbrev wMO_about : List Cond := .code yMO_about cMO_about 3 ((Option.some .int)) :: TW
theorem kcMO_about : Cond.code yMO_about cMO_about 3 ((Option.some .int)) ∈ TW := twm (by decide +kernel) (by decide +kernel)
abbrev cMO_isGroup : ByteArray := prog_9_method_9_code
def yMO_isGroup : MethodName := ⟨nMO, "isGroup", "(I)Z"⟩
abbrev wMO_isGroup : List Cond := .code yMO_isGroup cMO_isGroup 2 ((Option.some .boolean)) :: TW
theorem kcMO_isGroup : Cond.code yMO_isGroup cMO_isGroup 2 ((Option.some .boolean)) ∈ TW := twm (by decide +kernel) (by decide +kernel)
abbrev cMO_matrices : ByteArray := prog_9_method_17_code
def yMO_matrices : MethodName := ⟨nMO, "matrices", "(I)I"⟩
abbrev wMO_matrices : List Cond := .code yMO_matrices cMO_matrices 4 ((Option.some .int)) :: TW
theorem kcMO_matrices : Cond.code yMO_matrices cMO_matrices 4 ((Option.some .int)) ∈ TW := twm (by decide +kernel) (by decide +kernel)
abbrev cMO_centrings : ByteArray := prog_9_method_20_code
def yMO_centrings : MethodName := ⟨nMO, "centrings", "(I)I"⟩
abbrev wMO_centrings : List Cond := .code yMO_centrings cMO_centrings 5 ((Option.some .int)) :: TW
theorem kcMO_centrings : Cond.code yMO_centrings cMO_centrings 5 ((Option.some .int)) ∈ TW := twm (by decide +kernel) (by decide +kernel)
abbrev cMO_letterOf : ByteArray := prog_9_method_19_code
def yMO_letterOf : MethodName := ⟨nMO, "letterOf", "(II)I"⟩
abbrev wMO_letterOf : List Cond := .code yMO_letterOf cMO_letterOf 6 ((Option.some .int)) :: TW
theorem kcMO_letterOf : Cond.code yMO_letterOf cMO_letterOf 6 ((Option.some .int)) ∈ TW := twm (by decide +kernel) (by decide +kernel)
abbrev cMO_hasShift : ByteArray := prog_9_method_18_code
def yMO_hasShift : MethodName := ⟨nMO, "hasShift", "(II)Z"⟩
abbrev wMO_hasShift : List Cond := .code yMO_hasShift cMO_hasShift 3 ((Option.some .boolean)) :: TW
theorem kcMO_hasShift : Cond.code yMO_hasShift cMO_hasShift 3 ((Option.some .boolean)) ∈ TW := twm (by decide +kernel) (by decide +kernel)
abbrev cMO_place : ByteArray := prog_9_method_14_code
def yMO_place : MethodName := ⟨nMO, "place", "(II)I"⟩
abbrev wMO_place : List Cond := .code yMO_place cMO_place 6 ((Option.some .int)) :: TW
theorem kcMO_place : Cond.code yMO_place cMO_place 6 ((Option.some .int)) ∈ TW := twm (by decide +kernel) (by decide +kernel)
abbrev cMO_classOf : ByteArray := prog_9_method_15_code
def yMO_classOf : MethodName := ⟨nMO, "classOf", "([III)I"⟩
abbrev wMO_classOf : List Cond := .code yMO_classOf cMO_classOf 7 ((Option.some .int)) :: TW
theorem kcMO_classOf : Cond.code yMO_classOf cMO_classOf 7 ((Option.some .int)) ∈ TW := twm (by decide +kernel) (by decide +kernel)
abbrev cMO_sortOf : ByteArray := prog_9_method_7_code
def yMO_sortOf : MethodName := ⟨nMO, "sortOf", "([I)I"⟩
abbrev wMO_sortOf : List Cond := .code yMO_sortOf cMO_sortOf 5 ((Option.some .int)) :: TW
theorem kcMO_sortOf : Cond.code yMO_sortOf cMO_sortOf 5 ((Option.some .int)) ∈ TW := twm (by decide +kernel) (by decide +kernel)
abbrev cMO_classBy : ByteArray := prog_9_method_16_code
def yMO_classBy : MethodName := ⟨nMO, "classBy", "(II)I"⟩
abbrev wMO_classBy : List Cond := .code yMO_classBy cMO_classBy 2 ((Option.some .int)) :: TW
theorem kcMO_classBy : Cond.code yMO_classBy cMO_classBy 2 ((Option.some .int)) ∈ TW := twm (by decide +kernel) (by decide +kernel)
abbrev cMO_know : ByteArray := prog_9_method_21_code
def yMO_know : MethodName := ⟨nMO, "know", "(I)V"⟩
abbrev wMO_know : List Cond := .code yMO_know cMO_know 5 ((Option.none : Option Jvm.ClassFile.FieldType)) :: TW
theorem kcMO_know : Cond.code yMO_know cMO_know 5 ((Option.none : Option Jvm.ClassFile.FieldType)) ∈ TW := twm (by decide +kernel) (by decide +kernel)
abbrev cMO_countAlike : ByteArray := prog_9_method_22_code
def yMO_countAlike : MethodName := ⟨nMO, "countAlike", "(II)I"⟩
abbrev wMO_countAlike : List Cond := .code yMO_countAlike cMO_countAlike 8 ((Option.some .int)) :: TW
theorem kcMO_countAlike : Cond.code yMO_countAlike cMO_countAlike 8 ((Option.some .int)) ∈ TW := twm (by decide +kernel) (by decide +kernel)
abbrev cMO_gatherHalves : ByteArray := prog_9_method_24_code
def yMO_gatherHalves : MethodName := ⟨nMO, "gatherHalves", "(II)V"⟩
abbrev wMO_gatherHalves : List Cond := .code yMO_gatherHalves cMO_gatherHalves 8 ((Option.none : Option Jvm.ClassFile.FieldType)) :: TW
theorem kcMO_gatherHalves : Cond.code yMO_gatherHalves cMO_gatherHalves 8 ((Option.none : Option Jvm.ClassFile.FieldType)) ∈ TW := twm (by decide +kernel) (by decide +kernel)
abbrev cMO_made : ByteArray := prog_9_method_23_code
def yMO_made : MethodName := ⟨nMO, "made", "(II)I"⟩
abbrev wMO_made : List Cond := .code yMO_made cMO_made 7 ((Option.some .int)) :: TW
theorem kcMO_made : Cond.code yMO_made cMO_made 7 ((Option.some .int)) ∈ TW := twm (by decide +kernel) (by decide +kernel)
abbrev cMO_isHalf : ByteArray := prog_9_method_25_code
def yMO_isHalf : MethodName := ⟨nMO, "isHalf", "(IIII)Z"⟩
abbrev wMO_isHalf : List Cond := .code yMO_isHalf cMO_isHalf 10 ((Option.some .boolean)) :: TW
theorem kcMO_isHalf : Cond.code yMO_isHalf cMO_isHalf 10 ((Option.some .boolean)) ∈ TW := twm (by decide +kernel) (by decide +kernel)
abbrev cMO_keepHalf : ByteArray := prog_9_method_26_code
def yMO_keepHalf : MethodName := ⟨nMO, "keepHalf", "(II)V"⟩
abbrev wMO_keepHalf : List Cond := .code yMO_keepHalf cMO_keepHalf 12 ((Option.none : Option Jvm.ClassFile.FieldType)) :: TW
theorem kcMO_keepHalf : Cond.code yMO_keepHalf cMO_keepHalf 12 ((Option.none : Option Jvm.ClassFile.FieldType)) ∈ TW := twm (by decide +kernel) (by decide +kernel)
abbrev cMO_comesAhead : ByteArray := prog_9_method_28_code
def yMO_comesAhead : MethodName := ⟨nMO, "comesAhead", "(JJJI)Z"⟩
abbrev wMO_comesAhead : List Cond := .code yMO_comesAhead cMO_comesAhead 8 ((Option.some .boolean)) :: TW
theorem kcMO_comesAhead : Cond.code yMO_comesAhead cMO_comesAhead 8 ((Option.some .boolean)) ∈ TW := twm (by decide +kernel) (by decide +kernel)
abbrev cMO_isGreater : ByteArray := prog_9_method_27_code
def yMO_isGreater : MethodName := ⟨nMO, "isGreater", "(JJ)Z"⟩
abbrev wMO_isGreater : List Cond := .code yMO_isGreater cMO_isGreater 4 ((Option.some .boolean)) :: TW
theorem kcMO_isGreater : Cond.code yMO_isGreater cMO_isGreater 4 ((Option.some .boolean)) ∈ TW := twm (by decide +kernel) (by decide +kernel)
abbrev cMO_of : ByteArray := prog_9_method_31_code
def yMO_of : MethodName := ⟨nMO, "of", "(III)I"⟩
abbrev wMO_of : List Cond := .code yMO_of cMO_of 7 ((Option.some .int)) :: TW
theorem kcMO_of : Cond.code yMO_of cMO_of 7 ((Option.some .int)) ∈ TW := twm (by decide +kernel) (by decide +kernel)
abbrev cMO_isMember : ByteArray := prog_9_method_30_code
def yMO_isMember : MethodName := ⟨nMO, "isMember", "(II)Z"⟩
abbrev wMO_isMember : List Cond := .code yMO_isMember cMO_isMember 3 ((Option.some .boolean)) :: TW
theorem kcMO_isMember : Cond.code yMO_isMember cMO_isMember 3 ((Option.some .boolean)) ∈ TW := twm (by decide +kernel) (by decide +kernel)
abbrev cMO_product : ByteArray := prog_9_method_32_code
def yMO_product : MethodName := ⟨nMO, "product", "(III)I"⟩
abbrev wMO_product : List Cond := .code yMO_product cMO_product 4 ((Option.some .int)) :: TW
theorem kcMO_product : Cond.code yMO_product cMO_product 4 ((Option.some .int)) ∈ TW := twm (by decide +kernel) (by decide +kernel)
abbrev cMO_find : ByteArray := prog_9_method_33_code
def yMO_find : MethodName := ⟨nMO, "find", "(III)I"⟩
abbrev wMO_find : List Cond := .code yMO_find cMO_find 4 ((Option.some .int)) :: TW
theorem kcMO_find : Cond.code yMO_find cMO_find 4 ((Option.some .int)) ∈ TW := twm (by decide +kernel) (by decide +kernel)
abbrev cMO_half : ByteArray := prog_9_method_34_code
def yMO_half : MethodName := ⟨nMO, "half", "(II)I"⟩
abbrev wMO_half : List Cond := .code yMO_half cMO_half 4 ((Option.some .int)) :: TW
theorem kcMO_half : Cond.code yMO_half cMO_half 4 ((Option.some .int)) ∈ TW := twm (by decide +kernel) (by decide +kernel)
abbrev cMO_both : ByteArray := prog_9_method_35_code
def yMO_both : MethodName := ⟨nMO, "both", "(II)I"⟩
abbrev wMO_both : List Cond := .code yMO_both cMO_both 4 ((Option.some .int)) :: TW
theorem kcMO_both : Cond.code yMO_both cMO_both 4 ((Option.some .int)) ∈ TW := twm (by decide +kernel) (by decide +kernel)
abbrev cMO_centre : ByteArray := prog_9_method_36_code
def yMO_centre : MethodName := ⟨nMO, "centre", "(I)I"⟩
abbrev wMO_centre : List Cond := .code yMO_centre cMO_centre 3 ((Option.some .int)) :: TW
theorem kcMO_centre : Cond.code yMO_centre cMO_centre 3 ((Option.some .int)) ∈ TW := twm (by decide +kernel) (by decide +kernel)
abbrev cMO_within : ByteArray := prog_9_method_37_code
def yMO_within : MethodName := ⟨nMO, "within", "(II)Z"⟩
abbrev wMO_within : List Cond := .code yMO_within cMO_within 4 ((Option.some .boolean)) :: TW
theorem kcMO_within : Cond.code yMO_within cMO_within 4 ((Option.some .boolean)) ∈ TW := twm (by decide +kernel) (by decide +kernel)
abbrev cMO_orbit : ByteArray := prog_9_method_41_code
def yMO_orbit : MethodName := ⟨nMO, "orbit", "(III)I"⟩
abbrev wMO_orbit : List Cond := .code yMO_orbit cMO_orbit 5 ((Option.some .int)) :: TW
theorem kcMO_orbit : Cond.code yMO_orbit cMO_orbit 5 ((Option.some .int)) ∈ TW := twm (by decide +kernel) (by decide +kernel)
abbrev cMO_keepersOf : ByteArray := prog_9_method_40_code
def yMO_keepersOf : MethodName := ⟨nMO, "keepersOf", "(II)I"⟩
abbrev wMO_keepersOf : List Cond := .code yMO_keepersOf cMO_keepersOf 5 ((Option.some .int)) :: TW
theorem kcMO_keepersOf : Cond.code yMO_keepersOf cMO_keepersOf 5 ((Option.some .int)) ∈ TW := twm (by decide +kernel) (by decide +kernel)
abbrev cMO_taken : ByteArray := prog_9_method_38_code
def yMO_taken : MethodName := ⟨nMO, "taken", "(II)I"⟩
abbrev wMO_taken : List Cond := .code yMO_taken cMO_taken 9 ((Option.some .int)) :: TW
theorem kcMO_taken : Cond.code yMO_taken cMO_taken 9 ((Option.some .int)) ∈ TW := twm (by decide +kernel) (by decide +kernel)
abbrev cMO_orbitOf : ByteArray := prog_9_method_39_code
def yMO_orbitOf : MethodName := ⟨nMO, "orbitOf", "(II)I"⟩
abbrev wMO_orbitOf : List Cond := .code yMO_orbitOf cMO_orbitOf 8 ((Option.some .int)) :: TW
theorem kcMO_orbitOf : Cond.code yMO_orbitOf cMO_orbitOf 8 ((Option.some .int)) ∈ TW := twm (by decide +kernel) (by decide +kernel)
abbrev cMO_keepers : ByteArray := prog_9_method_42_code
def yMO_keepers : MethodName := ⟨nMO, "keepers", "(II)I"⟩
abbrev wMO_keepers : List Cond := .code yMO_keepers cMO_keepers 4 ((Option.some .int)) :: TW
theorem kcMO_keepers : Cond.code yMO_keepers cMO_keepers 4 ((Option.some .int)) ∈ TW := twm (by decide +kernel) (by decide +kernel)
theorem iniLW : Cond.initialized nLW ∈ TW := twm (by decide +kernel) (by decide +kernel)
theorem iniGH : Cond.initialized nGH ∈ TW := twm (by decide +kernel) (by decide +kernel)
theorem iniBE : Cond.initialized nBE ∈ TW := twm (by decide +kernel) (by decide +kernel)
theorem iniCL : Cond.initialized nCL ∈ TW := twm (by decide +kernel) (by decide +kernel)
theorem iniRO : Cond.initialized nRO ∈ TW := twm (by decide +kernel) (by decide +kernel)
theorem iniJM : Cond.initialized nJM ∈ TW := twm (by decide +kernel) (by decide +kernel)
theorem iniMO : Cond.initialized nMO ∈ TW := twm (by decide +kernel) (by decide +kernel)
theorem iniJS : Cond.initialized nJS ∈ TW := twm (by decide +kernel) (by decide +kernel)
theorem iniGR : Cond.initialized nGR ∈ TW := twm (by decide +kernel) (by decide +kernel)
theorem iniAS : Cond.initialized nAS ∈ TW := twm (by decide +kernel) (by decide +kernel)
theorem iniHA : Cond.initialized nHA ∈ TW := twm (by decide +kernel) (by decide +kernel)
theorem iniJI : Cond.initialized nJI ∈ TW := twm (by decide +kernel) (by decide +kernel)
theorem lkLW_7 : Cond.classLink nLW 7 nGH ∈ TW := twm (by decide +kernel) (by decide +kernel)
theorem insGH : Cond.instantiable nGH 7 ∈ TW := twm (by decide +kernel) (by decide +kernel)
theorem lkLW_9 : Cond.methodLink nLW 9 yGH_init ∈ TW := twm (by decide +kernel) (by decide +kernel)
theorem imGH_init : Cond.instanceMethod yGH_init ∈ TW := twm (by decide +kernel) (by decide +kernel)
theorem lkGH_3 : Cond.methodLink nGH 3 objectInit ∈ TW := twm (by decide +kernel) (by decide +kernel)
theorem imJO_init : Cond.instanceMethod objectInit ∈ TW := twm (by decide +kernel) (by decide +kernel)
theorem lkGH_9 : Cond.classLink nGH 9 nGR ∈ TW := twm (by decide +kernel) (by decide +kernel)
theorem lkGH_26 : Cond.classLink nGH 26 nBE ∈ TW := twm (by decide +kernel) (by decide +kernel)
theorem insBE : Cond.instantiable nBE 2 ∈ TW := twm (by decide +kernel) (by decide +kernel)
theorem imBE_init : Cond.instanceMethod yBE_init ∈ TW := twm (by decide +kernel) (by decide +kernel)
theorem lkBE_3 : Cond.methodLink nBE 3 objectInit ∈ TW := twm (by decide +kernel) (by decide +kernel)
theorem lkBE_9 : Cond.fieldLink nBE 9 "GroupHalls$Bench" "left" "[I" ∈ TW := twm (by decide +kernel) (by decide +kernel)
theorem lkBE_15 : Cond.fieldLink nBE 15 "GroupHalls$Bench" "right" "[I" ∈ TW := twm (by decide +kernel) (by decide +kernel)
theorem ac_int : Cond.arrayClass .int ∈ TW := twm (by decide +kernel) (by decide +kernel)
theorem lkGH_33 : Cond.classLink nGH 33 nCL ∈ TW := twm (by decide +kernel) (by decide +kernel)
theorem insCL : Cond.instantiable nCL 6 ∈ TW := twm (by decide +kernel) (by decide +kernel)
theorem lkGH_35 : Cond.methodLink nGH 35 yCL_init ∈ TW := twm (by decide +kernel) (by decide +kernel)
theorem imCL_init : Cond.instanceMethod yCL_init ∈ TW := twm (by decide +kernel) (by decide +kernel)
theorem lkCL_3 : Cond.methodLink nCL 3 objectInit ∈ TW := twm (by decide +kernel) (by decide +kernel)
theorem lkCL_9 : Cond.classLink nCL 9 nRO ∈ TW := twm (by decide +kernel) (by decide +kernel)
theorem insRO : Cond.instantiable nRO 2 ∈ TW := twm (by decide +kernel) (by decide +kernel)
theorem lkCL_11 : Cond.methodLink nCL 11 yRO_init ∈ TW := twm (by decide +kernel) (by decide +kernel)
theorem imRO_init : Cond.instanceMethod yRO_init ∈ TW := twm (by decide +kernel) (by decide +kernel)
theorem lkRO_3 : Cond.methodLink nRO 3 objectInit ∈ TW := twm (by decide +kernel) (by decide +kernel)
theorem lkRO_15 : Cond.methodLink nRO 15 yJM_max ∈ TW := twm (by decide +kernel) (by decide +kernel)
theorem smJM_max : Cond.static yJM_max ∈ TW := twm (by decide +kernel) (by decide +kernel)
theorem lkRO_21 : Cond.fieldLink nRO 21 "GroupHalls$Row" "numbers" "[I" ∈ TW := twm (by decide +kernel) (by decide +kernel)
theorem lkRO_9 : Cond.fieldLink nRO 9 "GroupHalls$Row" "size" "I" ∈ TW := twm (by decide +kernel) (by decide +kernel)
theorem lkCL_34 : Cond.fieldLink nCL 34 "GroupHalls$Closure" "bench" "LGroupHalls$Bench;" ∈ TW := twm (by decide +kernel) (by decide +kernel)
theorem lkCL_14 : Cond.fieldLink nCL 14 "GroupHalls$Closure" "found" "LGroupHalls$Row;" ∈ TW := twm (by decide +kernel) (by decide +kernel)
theorem lkCL_20 : Cond.fieldLink nCL 20 "GroupHalls$Closure" "came" "[I" ∈ TW := twm (by decide +kernel) (by decide +kernel)
theorem lkCL_24 : Cond.fieldLink nCL 24 "GroupHalls$Closure" "cameCount" "I" ∈ TW := twm (by decide +kernel) (by decide +kernel)
theorem lkCL_28 : Cond.fieldLink nCL 28 "GroupHalls$Closure" "generators" "[I" ∈ TW := twm (by decide +kernel) (by decide +kernel)
theorem lkCL_31 : Cond.fieldLink nCL 31 "GroupHalls$Closure" "generatorCount" "I" ∈ TW := twm (by decide +kernel) (by decide +kernel)
theorem lkGH_42 : Cond.classLink nGH 42 nRO ∈ TW := twm (by decide +kernel) (by decide +kernel)
theorem lkGH_44 : Cond.methodLink nGH 44 yRO_init ∈ TW := twm (by decide +kernel) (by decide +kernel)
theorem lkGH_11 : Cond.fieldLink nGH 11 "GroupHalls" "halls" "[LGroupHalls$Group;" ∈ TW := twm (by decide +kernel) (by decide +kernel)
theorem lkGH_15 : Cond.fieldLink nGH 15 "GroupHalls" "made" "I" ∈ TW := twm (by decide +kernel) (by decide +kernel)
theorem lkGH_19 : Cond.fieldLink nGH 19 "GroupHalls" "chosen" "[I" ∈ TW := twm (by decide +kernel) (by decide +kernel)
theorem lkGH_23 : Cond.fieldLink nGH 23 "GroupHalls" "chosenCount" "I" ∈ TW := twm (by decide +kernel) (by decide +kernel)
theorem lkGH_29 : Cond.fieldLink nGH 29 "GroupHalls" "bench" "LGroupHalls$Bench;" ∈ TW := twm (by decide +kernel) (by decide +kernel)
theorem lkGH_38 : Cond.fieldLink nGH 38 "GroupHalls" "closure" "LGroupHalls$Closure;" ∈ TW := twm (by decide +kernel) (by decide +kernel)
theorem lkGH_47 : Cond.fieldLink nGH 47 "GroupHalls" "gathered" "LGroupHalls$Row;" ∈ TW := twm (by decide +kernel) (by decide +kernel)
theorem lkLW_13 : Cond.methodLink nLW 13 yGH_choose ∈ TW := twm (by decide +kernel) (by decide +kernel)
theorem imGH_choose : Cond.instanceMethod yGH_choose ∈ TW := twm (by decide +kernel) (by decide +kernel)
theorem seGH_choose : Cond.selects nGH yGH_choose yGH_choose ∈ TW := twm (by decide +kernel) (by decide +kernel)
theorem lkGH_51 : Cond.methodLink nGH 51 yGH_isNine ∈ TW := twm (by decide +kernel) (by decide +kernel)
theorem smGH_isNine : Cond.static yGH_isNine ∈ TW := twm (by decide +kernel) (by decide +kernel)
theorem lkGH_55 : Cond.methodLink nGH 55 yGH_isPlace ∈ TW := twm (by decide +kernel) (by decide +kernel)
theorem smGH_isPlace : Cond.static yGH_isPlace ∈ TW := twm (by decide +kernel) (by decide +kernel)
theorem lkGH_58 : Cond.methodLink nGH 58 yBE_determinant ∈ TW := twm (by decide +kernel) (by decide +kernel)
theorem imBE_determinant : Cond.instanceMethod yBE_determinant ∈ TW := twm (by decide +kernel) (by decide +kernel)
theorem seBE_determinant : Cond.selects nBE yBE_determinant yBE_determinant ∈ TW := twm (by decide +kernel) (by decide +kernel)
theorem lkBE_18 : Cond.methodLink nBE 18 yBE_read ∈ TW := twm (by decide +kernel) (by decide +kernel)
theorem smBE_read : Cond.static yBE_read ∈ TW := twm (by decide +kernel) (by decide +kernel)
theorem lkLW_18 : Cond.methodLink nLW 18 yGH_group ∈ TW := twm (by decide +kernel) (by decide +kernel)
theorem imGH_group : Cond.instanceMethod yGH_group ∈ TW := twm (by decide +kernel) (by decide +kernel)
theorem seGH_group : Cond.selects nGH yGH_group yGH_group ∈ TW := twm (by decide +kernel) (by decide +kernel)
theorem lkGH_62 : Cond.methodLink nGH 62 yCL_start ∈ TW := twm (by decide +kernel) (by decide +kernel)
theorem imCL_start : Cond.instanceMethod yCL_start ∈ TW := twm (by decide +kernel) (by decide +kernel)
theorem seCL_start : Cond.selects nCL yCL_start yCL_start ∈ TW := twm (by decide +kernel) (by decide +kernel)
theorem lkCL_38 : Cond.methodLink nCL 38 yRO_clear ∈ TW := twm (by decide +kernel) (by decide +kernel)
theorem imRO_clear : Cond.instanceMethod yRO_clear ∈ TW := twm (by decide +kernel) (by decide +kernel)
theorem seRO_clear : Cond.selects nRO yRO_clear yRO_clear ∈ TW := twm (by decide +kernel) (by decide +kernel)
theorem lkCL_41 : Cond.constant nCL 41 227874816 ∈ TW := twm (by decide +kernel) (by decide +kernel)
theorem lkCL_42 : Cond.methodLink nCL 42 yRO_add ∈ TW := twm (by decide +kernel) (by decide +kernel)
theorem imRO_add : Cond.instanceMethod yRO_add ∈ TW := twm (by decide +kernel) (by decide +kernel)
theorem seRO_add : Cond.selects nRO yRO_add yRO_add ∈ TW := twm (by decide +kernel) (by decide +kernel)
theorem lkRO_29 : Cond.methodLink nRO 29 yRO_firstNotBelow ∈ TW := twm (by decide +kernel) (by decide +kernel)
theorem seRO_firstNotBelow : Cond.selects nRO yRO_firstNotBelow yRO_firstNotBelow ∈ TW := twm (by decide +kernel) (by decide +kernel)
theorem imRO_firstNotBelow : Cond.instanceMethod yRO_firstNotBelow ∈ TW := twm (by decide +kernel) (by decide +kernel)
theorem lkRO_32 : Cond.methodLink nRO 32 yRO_at ∈ TW := twm (by decide +kernel) (by decide +kernel)
theorem imRO_at : Cond.instanceMethod yRO_at ∈ TW := twm (by decide +kernel) (by decide +kernel)
theorem seRO_at : Cond.selects nRO yRO_at yRO_at ∈ TW := twm (by decide +kernel) (by decide +kernel)
theorem lkRO_35 : Cond.methodLink nRO 35 ⟨nJS, "arraycopy", "(Ljava/lang/Object;ILjava/lang/Object;II)V"⟩ ∈ TW := twm (by decide +kernel) (by decide +kernel)
theorem smJS_arraycopy : Cond.static ⟨nJS, "arraycopy", "(Ljava/lang/Object;ILjava/lang/Object;II)V"⟩ ∈ TW := twm (by decide +kernel) (by decide +kernel)
theorem nvJS_arraycopy : Cond.native ⟨nJS, "arraycopy", "(Ljava/lang/Object;ILjava/lang/Object;II)V"⟩ ∈ TW := twm (by decide +kernel) (by decide +kernel)
theorem lkGH_65 : Cond.methodLink nGH 65 yCL_take ∈ TW := twm (by decide +kernel) (by decide +kernel)
theorem imCL_take : Cond.instanceMethod yCL_take ∈ TW := twm (by decide +kernel) (by decide +kernel)
theorem seCL_take : Cond.selects nCL yCL_take yCL_take ∈ TW := twm (by decide +kernel) (by decide +kernel)
theorem lkCL_46 : Cond.methodLink nCL 46 yRO_has ∈ TW := twm (by decide +kernel) (by decide +kernel)
theorem imRO_has : Cond.instanceMethod yRO_has ∈ TW := twm (by decide +kernel) (by decide +kernel)
theorem seRO_has : Cond.selects nRO yRO_has yRO_has ∈ TW := twm (by decide +kernel) (by decide +kernel)
theorem lkRO_25 : Cond.methodLink nRO 25 yRO_indexOf ∈ TW := twm (by decide +kernel) (by decide +kernel)
theorem imRO_indexOf : Cond.instanceMethod yRO_indexOf ∈ TW := twm (by decide +kernel) (by decide +kernel)
theorem seRO_indexOf : Cond.selects nRO yRO_indexOf yRO_indexOf ∈ TW := twm (by decide +kernel) (by decide +kernel)
theorem lkCL_49 : Cond.methodLink nCL 49 yJM_max ∈ TW := twm (by decide +kernel) (by decide +kernel)
theorem lkCL_55 : Cond.methodLink nCL 55 yCL_addCoset ∈ TW := twm (by decide +kernel) (by decide +kernel)
theorem seCL_addCoset : Cond.selects nCL yCL_addCoset yCL_addCoset ∈ TW := twm (by decide +kernel) (by decide +kernel)
theorem imCL_addCoset : Cond.instanceMethod yCL_addCoset ∈ TW := twm (by decide +kernel) (by decide +kernel)
theorem lkCL_63 : Cond.methodLink nCL 63 yBE_times ∈ TW := twm (by decide +kernel) (by decide +kernel)
theorem imBE_times : Cond.instanceMethod yBE_times ∈ TW := twm (by decide +kernel) (by decide +kernel)
theorem seBE_times : Cond.selects nBE yBE_times yBE_times ∈ TW := twm (by decide +kernel) (by decide +kernel)
theorem lkBE_29 : Cond.methodLink nBE 29 yBE_movedByLeft ∈ TW := twm (by decide +kernel) (by decide +kernel)
theorem seBE_movedByLeft : Cond.selects nBE yBE_movedByLeft yBE_movedByLeft ∈ TW := twm (by decide +kernel) (by decide +kernel)
theorem imBE_movedByLeft : Cond.instanceMethod yBE_movedByLeft ∈ TW := twm (by decide +kernel) (by decide +kernel)
theorem lkCL_59 : Cond.methodLink nCL 59 yCL_generator ∈ TW := twm (by decide +kernel) (by decide +kernel)
theorem imCL_generator : Cond.instanceMethod yCL_generator ∈ TW := twm (by decide +kernel) (by decide +kernel)
theorem seCL_generator : Cond.selects nCL yCL_generator yCL_generator ∈ TW := twm (by decide +kernel) (by decide +kernel)
theorem lkGH_68 : Cond.methodLink nGH 68 yCL_found ∈ TW := twm (by decide +kernel) (by decide +kernel)
theorem imCL_found : Cond.instanceMethod yCL_found ∈ TW := twm (by decide +kernel) (by decide +kernel)
theorem seCL_found : Cond.selects nCL yCL_found yCL_found ∈ TW := twm (by decide +kernel) (by decide +kernel)
theorem lkGH_72 : Cond.methodLink nGH 72 yGH_numberOf ∈ TW := twm (by decide +kernel) (by decide +kernel)
theorem seGH_numberOf : Cond.selects nGH yGH_numberOf yGH_numberOf ∈ TW := twm (by decide +kernel) (by decide +kernel)
theorem imGH_numberOf : Cond.instanceMethod yGH_numberOf ∈ TW := twm (by decide +kernel) (by decide +kernel)
theorem lkGH_76 : Cond.methodLink nGH 76 yGH_hallAt ∈ TW := twm (by decide +kernel) (by decide +kernel)
theorem seGH_hallAt : Cond.selects nGH yGH_hallAt yGH_hallAt ∈ TW := twm (by decide +kernel) (by decide +kernel)
theorem imGH_hallAt : Cond.instanceMethod yGH_hallAt ∈ TW := twm (by decide +kernel) (by decide +kernel)
theorem lkGH_80 : Cond.methodLink nGH 80 yGR_keys ∈ TW := twm (by decide +kernel) (by decide +kernel)
theorem imGR_keys : Cond.instanceMethod yGR_keys ∈ TW := twm (by decide +kernel) (by decide +kernel)
theorem seGR_keys : Cond.selects nGR yGR_keys yGR_keys ∈ TW := twm (by decide +kernel) (by decide +kernel)
theorem lkGH_158 : Cond.methodLink nGH 158 yRO_isLike ∈ TW := twm (by decide +kernel) (by decide +kernel)
theorem imRO_isLike : Cond.instanceMethod yRO_isLike ∈ TW := twm (by decide +kernel) (by decide +kernel)
theorem seRO_isLike : Cond.selects nRO yRO_isLike yRO_isLike ∈ TW := twm (by decide +kernel) (by decide +kernel)
theorem insGR : Cond.instantiable nGR 7 ∈ TW := twm (by decide +kernel) (by decide +kernel)
theorem lkGH_162 : Cond.methodLink nGH 162 yGR_init ∈ TW := twm (by decide +kernel) (by decide +kernel)
theorem imGR_init : Cond.instanceMethod yGR_init ∈ TW := twm (by decide +kernel) (by decide +kernel)
theorem lkGR_3 : Cond.methodLink nGR 3 objectInit ∈ TW := twm (by decide +kernel) (by decide +kernel)
theorem lkGR_19 : Cond.classLink nGR 19 nRO ∈ TW := twm (by decide +kernel) (by decide +kernel)
theorem lkGR_21 : Cond.methodLink nGR 21 yRO_size ∈ TW := twm (by decide +kernel) (by decide +kernel)
theorem imRO_size : Cond.instanceMethod yRO_size ∈ TW := twm (by decide +kernel) (by decide +kernel)
theorem seRO_size : Cond.selects nRO yRO_size yRO_size ∈ TW := twm (by decide +kernel) (by decide +kernel)
theorem lkGR_25 : Cond.methodLink nGR 25 yRO_init ∈ TW := twm (by decide +kernel) (by decide +kernel)
theorem lkGR_32 : Cond.methodLink nGR 32 yRO_at ∈ TW := twm (by decide +kernel) (by decide +kernel)
theorem lkGR_36 : Cond.methodLink nGR 36 yRO_add ∈ TW := twm (by decide +kernel) (by decide +kernel)
theorem lkGR_47 : Cond.methodLink nGR 47 yGR_letterOf ∈ TW := twm (by decide +kernel) (by decide +kernel)
theorem smGR_letterOf : Cond.static yGR_letterOf ∈ TW := twm (by decide +kernel) (by decide +kernel)
theorem lkGR_69 : Cond.constant nGR 69 227874816 ∈ TW := twm (by decide +kernel) (by decide +kernel)
theorem lkGR_70 : Cond.methodLink nGR 70 yRO_indexOf ∈ TW := twm (by decide +kernel) (by decide +kernel)
theorem lkGR_73 : Cond.methodLink nGR 73 yGR_letterOfTwo ∈ TW := twm (by decide +kernel) (by decide +kernel)
theorem smGR_letterOfTwo : Cond.static yGR_letterOfTwo ∈ TW := twm (by decide +kernel) (by decide +kernel)
theorem smGH_classOf : Cond.static yGH_classOf ∈ TW := twm (by decide +kernel) (by decide +kernel)
theorem lkGH_83 : Cond.methodLink nGH 83 yRO_size ∈ TW := twm (by decide +kernel) (by decide +kernel)
theorem lkGH_115 : Cond.methodLink nGH 115 yRO_at ∈ TW := twm (by decide +kernel) (by decide +kernel)
theorem lkGH_118 : Cond.methodLink nGH 118 yBE_sort ∈ TW := twm (by decide +kernel) (by decide +kernel)
theorem imBE_sort : Cond.instanceMethod yBE_sort ∈ TW := twm (by decide +kernel) (by decide +kernel)
theorem seBE_sort : Cond.selects nBE yBE_sort yBE_sort ∈ TW := twm (by decide +kernel) (by decide +kernel)
theorem lkBE_22 : Cond.methodLink nBE 22 yBE_determinant ∈ TW := twm (by decide +kernel) (by decide +kernel)
theorem lkGH_168 : Cond.methodLink nGH 168 yGH_digitOf ∈ TW := twm (by decide +kernel) (by decide +kernel)
theorem smGH_digitOf : Cond.static yGH_digitOf ∈ TW := twm (by decide +kernel) (by decide +kernel)
theorem lkGH_174 : Cond.constant nGH 174 100000000 ∈ TW := twm (by decide +kernel) (by decide +kernel)
theorem lkGH_175 : Cond.constant nGH 175 10000000 ∈ TW := twm (by decide +kernel) (by decide +kernel)
theorem lkGH_176 : Cond.constant nGH 176 1000000 ∈ TW := twm (by decide +kernel) (by decide +kernel)
theorem lkGH_177 : Cond.constant nGH 177 100000 ∈ TW := twm (by decide +kernel) (by decide +kernel)
theorem lkGH_171 : Cond.fieldLink nGH 171 "GroupHalls" "CLASS_ROWS" "[I" ∈ TW := twm (by decide +kernel) (by decide +kernel)
theorem lkGR_28 : Cond.fieldLink nGR 28 "GroupHalls$Group" "keys" "LGroupHalls$Row;" ∈ TW := twm (by decide +kernel) (by decide +kernel)
theorem lkGR_40 : Cond.fieldLink nGR 40 "GroupHalls$Group" "matrices" "I" ∈ TW := twm (by decide +kernel) (by decide +kernel)
theorem lkGR_44 : Cond.fieldLink nGR 44 "GroupHalls$Group" "centrings" "I" ∈ TW := twm (by decide +kernel) (by decide +kernel)
theorem lkGR_51 : Cond.fieldLink nGR 51 "GroupHalls$Group" "letter" "I" ∈ TW := twm (by decide +kernel) (by decide +kernel)
theorem lkGR_58 : Cond.fieldLink nGR 58 "GroupHalls$Group" "pointClass" "I" ∈ TW := twm (by decide +kernel) (by decide +kernel)
theorem lkGR_9 : Cond.fieldLink nGR 9 "GroupHalls$Group" "alikeSets" "LGroupHalls$AlikeSets;" ∈ TW := twm (by decide +kernel) (by decide +kernel)
theorem lkGR_15 : Cond.fieldLink nGR 15 "GroupHalls$Group" "halves" "LGroupHalls$Halves;" ∈ TW := twm (by decide +kernel) (by decide +kernel)
theorem lkLW_23 : Cond.methodLink nLW 23 yGH_about ∈ TW := twm (by decide +kernel) (by decide +kernel)
theorem imGH_about : Cond.instanceMethod yGH_about ∈ TW := twm (by decide +kernel) (by decide +kernel)
theorem seGH_about : Cond.selects nGH yGH_about yGH_about ∈ TW := twm (by decide +kernel) (by decide +kernel)
theorem lkGH_87 : Cond.methodLink nGH 87 yGR_matrices ∈ TW := twm (by decide +kernel) (by decide +kernel)
theorem imGR_matrices : Cond.instanceMethod yGR_matrices ∈ TW := twm (by decide +kernel) (by decide +kernel)
theorem seGR_matrices : Cond.selects nGR yGR_matrices yGR_matrices ∈ TW := twm (by decide +kernel) (by decide +kernel)
theorem lkGH_90 : Cond.methodLink nGH 90 yGR_centrings ∈ TW := twm (by decide +kernel) (by decide +kernel)
theorem imGR_centrings : Cond.instanceMethod yGR_centrings ∈ TW := twm (by decide +kernel) (by decide +kernel)
theorem seGR_centrings : Cond.selects nGR yGR_centrings yGR_centrings ∈ TW := twm (by decide +kernel) (by decide +kernel)
theorem lkGH_93 : Cond.methodLink nGH 93 yGR_letter ∈ TW := twm (by decide +kernel) (by decide +kernel)
theorem imGR_letter : Cond.instanceMethod yGR_letter ∈ TW := twm (by decide +kernel) (by decide +kernel)
theorem seGR_letter : Cond.selects nGR yGR_letter yGR_letter ∈ TW := twm (by decide +kernel) (by decide +kernel)
theorem lkGH_96 : Cond.methodLink nGH 96 yGR_pointClass ∈ TW := twm (by decide +kernel) (by decide +kernel)
theorem imGR_pointClass : Cond.instanceMethod yGR_pointClass ∈ TW := twm (by decide +kernel) (by decide +kernel)
theorem seGR_pointClass : Cond.selects nGR yGR_pointClass yGR_pointClass ∈ TW := twm (by decide +kernel) (by decide +kernel)
theorem lkGH_99 : Cond.methodLink nGH 99 yGR_alikeSets ∈ TW := twm (by decide +kernel) (by decide +kernel)
theorem imGR_alikeSets : Cond.instanceMethod yGR_alikeSets ∈ TW := twm (by decide +kernel) (by decide +kernel)
theorem seGR_alikeSets : Cond.selects nGR yGR_alikeSets yGR_alikeSets ∈ TW := twm (by decide +kernel) (by decide +kernel)
theorem lkGR_61 : Cond.classLink nGR 61 nAS ∈ TW := twm (by decide +kernel) (by decide +kernel)
theorem insAS : Cond.instantiable nAS 3 ∈ TW := twm (by decide +kernel) (by decide +kernel)
theorem lkGR_63 : Cond.methodLink nGR 63 yAS_init ∈ TW := twm (by decide +kernel) (by decide +kernel)
theorem imAS_init : Cond.instanceMethod yAS_init ∈ TW := twm (by decide +kernel) (by decide +kernel)
theorem lkAS_3 : Cond.methodLink nAS 3 objectInit ∈ TW := twm (by decide +kernel) (by decide +kernel)
theorem lkAS_9 : Cond.methodLink nAS 9 yRO_size ∈ TW := twm (by decide +kernel) (by decide +kernel)
theorem lkAS_28 : Cond.methodLink nAS 28 yCL_start ∈ TW := twm (by decide +kernel) (by decide +kernel)
theorem lkAS_33 : Cond.methodLink nAS 33 yRO_at ∈ TW := twm (by decide +kernel) (by decide +kernel)
theorem lkAS_37 : Cond.methodLink nAS 37 yCL_take ∈ TW := twm (by decide +kernel) (by decide +kernel)
theorem lkAS_41 : Cond.methodLink nAS 41 yCL_generatorCount ∈ TW := twm (by decide +kernel) (by decide +kernel)
theorem imCL_generatorCount : Cond.instanceMethod yCL_generatorCount ∈ TW := twm (by decide +kernel) (by decide +kernel)
theorem seCL_generatorCount : Cond.selects nCL yCL_generatorCount yCL_generatorCount ∈ TW := twm (by decide +kernel) (by decide +kernel)
theorem lkAS_44 : Cond.methodLink nAS 44 yCL_generator ∈ TW := twm (by decide +kernel) (by decide +kernel)
theorem lkAS_47 : Cond.methodLink nAS 47 yAS_joinBy ∈ TW := twm (by decide +kernel) (by decide +kernel)
theorem seAS_joinBy : Cond.selects nAS yAS_joinBy yAS_joinBy ∈ TW := twm (by decide +kernel) (by decide +kernel)
theorem imAS_joinBy : Cond.instanceMethod yAS_joinBy ∈ TW := twm (by decide +kernel) (by decide +kernel)
theorem lkAS_51 : Cond.methodLink nAS 51 yBE_times ∈ TW := twm (by decide +kernel) (by decide +kernel)
theorem lkAS_57 : Cond.methodLink nAS 57 yRO_indexOf ∈ TW := twm (by decide +kernel) (by decide +kernel)
theorem lkAS_60 : Cond.methodLink nAS 60 yAS_join ∈ TW := twm (by decide +kernel) (by decide +kernel)
theorem seAS_join : Cond.selects nAS yAS_join yAS_join ∈ TW := twm (by decide +kernel) (by decide +kernel)
theorem imAS_join : Cond.instanceMethod yAS_join ∈ TW := twm (by decide +kernel) (by decide +kernel)
theorem lkAS_15 : Cond.fieldLink nAS 15 "GroupHalls$AlikeSets" "setOf" "[I" ∈ TW := twm (by decide +kernel) (by decide +kernel)
theorem lkAS_21 : Cond.fieldLink nAS 21 "GroupHalls$AlikeSets" "sizes" "[I" ∈ TW := twm (by decide +kernel) (by decide +kernel)
theorem lkAS_24 : Cond.fieldLink nAS 24 "GroupHalls$AlikeSets" "count" "I" ∈ TW := twm (by decide +kernel) (by decide +kernel)
theorem lkGH_103 : Cond.methodLink nGH 103 yAS_count ∈ TW := twm (by decide +kernel) (by decide +kernel)
theorem imAS_count : Cond.instanceMethod yAS_count ∈ TW := twm (by decide +kernel) (by decide +kernel)
theorem seAS_count : Cond.selects nAS yAS_count yAS_count ∈ TW := twm (by decide +kernel) (by decide +kernel)
theorem lkGH_108 : Cond.methodLink nGH 108 yGR_halves ∈ TW := twm (by decide +kernel) (by decide +kernel)
theorem imGR_halves : Cond.instanceMethod yGR_halves ∈ TW := twm (by decide +kernel) (by decide +kernel)
theorem seGR_halves : Cond.selects nGR yGR_halves yGR_halves ∈ TW := twm (by decide +kernel) (by decide +kernel)
theorem lkGR_66 : Cond.classLink nGR 66 nHA ∈ TW := twm (by decide +kernel) (by decide +kernel)
theorem insHA : Cond.instantiable nHA 2 ∈ TW := twm (by decide +kernel) (by decide +kernel)
theorem lkGR_68 : Cond.methodLink nGR 68 yHA_init ∈ TW := twm (by decide +kernel) (by decide +kernel)
theorem imHA_init : Cond.instanceMethod yHA_init ∈ TW := twm (by decide +kernel) (by decide +kernel)
theorem lkHA_3 : Cond.methodLink nHA 3 objectInit ∈ TW := twm (by decide +kernel) (by decide +kernel)
theorem lkHA_15 : Cond.methodLink nHA 15 yRO_size ∈ TW := twm (by decide +kernel) (by decide +kernel)
theorem lkHA_25 : Cond.methodLink nHA 25 yCL_start ∈ TW := twm (by decide +kernel) (by decide +kernel)
theorem lkHA_30 : Cond.methodLink nHA 30 yRO_at ∈ TW := twm (by decide +kernel) (by decide +kernel)
theorem lkHA_34 : Cond.methodLink nHA 34 yBE_times ∈ TW := twm (by decide +kernel) (by decide +kernel)
theorem lkHA_40 : Cond.methodLink nHA 40 yCL_take ∈ TW := twm (by decide +kernel) (by decide +kernel)
theorem lkHA_44 : Cond.methodLink nHA 44 yCL_found ∈ TW := twm (by decide +kernel) (by decide +kernel)
theorem lkHA_48 : Cond.methodLink nHA 48 yRO_has ∈ TW := twm (by decide +kernel) (by decide +kernel)
theorem lkHA_51 : Cond.methodLink nHA 51 yHA_addBit ∈ TW := twm (by decide +kernel) (by decide +kernel)
theorem seHA_addBit : Cond.selects nHA yHA_addBit yHA_addBit ∈ TW := twm (by decide +kernel) (by decide +kernel)
theorem imHA_addBit : Cond.instanceMethod yHA_addBit ∈ TW := twm (by decide +kernel) (by decide +kernel)
theorem lkHA_69 : Cond.methodLink nHA 69 yRO_indexOf ∈ TW := twm (by decide +kernel) (by decide +kernel)
theorem lkHA_21 : Cond.fieldLink nHA 21 "GroupHalls$Halves" "codes" "[I" ∈ TW := twm (by decide +kernel) (by decide +kernel)
theorem lkHA_9 : Cond.fieldLink nHA 9 "GroupHalls$Halves" "bits" "I" ∈ TW := twm (by decide +kernel) (by decide +kernel)
theorem lkGH_112 : Cond.methodLink nGH 112 yHA_count ∈ TW := twm (by decide +kernel) (by decide +kernel)
theorem imHA_count : Cond.instanceMethod yHA_count ∈ TW := twm (by decide +kernel) (by decide +kernel)
theorem seHA_count : Cond.selects nHA yHA_count yHA_count ∈ TW := twm (by decide +kernel) (by decide +kernel)
theorem lkLW_27 : Cond.methodLink nLW 27 yGH_of ∈ TW := twm (by decide +kernel) (by decide +kernel)
theorem imGH_of : Cond.instanceMethod yGH_of ∈ TW := twm (by decide +kernel) (by decide +kernel)
theorem seGH_of : Cond.selects nGH yGH_of yGH_of ∈ TW := twm (by decide +kernel) (by decide +kernel)
theorem lkGH_121 : Cond.methodLink nGH 121 yBE_turns ∈ TW := twm (by decide +kernel) (by decide +kernel)
theorem imBE_turns : Cond.instanceMethod yBE_turns ∈ TW := twm (by decide +kernel) (by decide +kernel)
theorem seBE_turns : Cond.selects nBE yBE_turns yBE_turns ∈ TW := twm (by decide +kernel) (by decide +kernel)
theorem lkBE_33 : Cond.constant nBE 33 227874816 ∈ TW := twm (by decide +kernel) (by decide +kernel)
theorem lkBE_34 : Cond.methodLink nBE 34 yBE_times ∈ TW := twm (by decide +kernel) (by decide +kernel)
theorem lkGH_124 : Cond.methodLink nGH 124 yAS_sizeOf ∈ TW := twm (by decide +kernel) (by decide +kernel)
theorem imAS_sizeOf : Cond.instanceMethod yAS_sizeOf ∈ TW := twm (by decide +kernel) (by decide +kernel)
theorem seAS_sizeOf : Cond.selects nAS yAS_sizeOf yAS_sizeOf ∈ TW := twm (by decide +kernel) (by decide +kernel)
theorem lkLW_32 : Cond.methodLink nLW 32 yGH_product ∈ TW := twm (by decide +kernel) (by decide +kernel)
theorem imGH_product : Cond.instanceMethod yGH_product ∈ TW := twm (by decide +kernel) (by decide +kernel)
theorem seGH_product : Cond.selects nGH yGH_product yGH_product ∈ TW := twm (by decide +kernel) (by decide +kernel)
theorem lkGH_127 : Cond.methodLink nGH 127 yBE_times ∈ TW := twm (by decide +kernel) (by decide +kernel)
theorem lkGH_131 : Cond.methodLink nGH 131 yRO_indexOf ∈ TW := twm (by decide +kernel) (by decide +kernel)
theorem lkLW_36 : Cond.methodLink nLW 36 yGH_find ∈ TW := twm (by decide +kernel) (by decide +kernel)
theorem imGH_find : Cond.instanceMethod yGH_find ∈ TW := twm (by decide +kernel) (by decide +kernel)
theorem seGH_find : Cond.selects nGH yGH_find yGH_find ∈ TW := twm (by decide +kernel) (by decide +kernel)
theorem lkLW_40 : Cond.methodLink nLW 40 yGH_half ∈ TW := twm (by decide +kernel) (by decide +kernel)
theorem imGH_half : Cond.instanceMethod yGH_half ∈ TW := twm (by decide +kernel) (by decide +kernel)
theorem seGH_half : Cond.selects nGH yGH_half yGH_half ∈ TW := twm (by decide +kernel) (by decide +kernel)
theorem lkGH_134 : Cond.methodLink nGH 134 yHA_gather ∈ TW := twm (by decide +kernel) (by decide +kernel)
theorem imHA_gather : Cond.instanceMethod yHA_gather ∈ TW := twm (by decide +kernel) (by decide +kernel)
theorem seHA_gather : Cond.selects nHA yHA_gather yHA_gather ∈ TW := twm (by decide +kernel) (by decide +kernel)
theorem lkHA_55 : Cond.methodLink nHA 55 yHA_refusedBits ∈ TW := twm (by decide +kernel) (by decide +kernel)
theorem seHA_refusedBits : Cond.selects nHA yHA_refusedBits yHA_refusedBits ∈ TW := twm (by decide +kernel) (by decide +kernel)
theorem imHA_refusedBits : Cond.instanceMethod yHA_refusedBits ∈ TW := twm (by decide +kernel) (by decide +kernel)
theorem lkHA_58 : Cond.methodLink nHA 58 yRO_clear ∈ TW := twm (by decide +kernel) (by decide +kernel)
theorem lkHA_61 : Cond.methodLink nHA 61 yJI_bitCount ∈ TW := twm (by decide +kernel) (by decide +kernel)
theorem smJI_bitCount : Cond.static yJI_bitCount ∈ TW := twm (by decide +kernel) (by decide +kernel)
theorem lkJI_265 : Cond.constant nJI 265 1431655765 ∈ TW := twm (by decide +kernel) (by decide +kernel)
theorem lkJI_266 : Cond.constant nJI 266 858993459 ∈ TW := twm (by decide +kernel) (by decide +kernel)
theorem lkJI_267 : Cond.constant nJI 267 252645135 ∈ TW := twm (by decide +kernel) (by decide +kernel)
theorem lkHA_66 : Cond.methodLink nHA 66 yRO_add ∈ TW := twm (by decide +kernel) (by decide +kernel)
theorem lkLW_44 : Cond.methodLink nLW 44 yGH_both ∈ TW := twm (by decide +kernel) (by decide +kernel)
theorem imGH_both : Cond.instanceMethod yGH_both ∈ TW := twm (by decide +kernel) (by decide +kernel)
theorem seGH_both : Cond.selects nGH yGH_both yGH_both ∈ TW := twm (by decide +kernel) (by decide +kernel)
theorem lkGH_138 : Cond.methodLink nGH 138 yRO_clear ∈ TW := twm (by decide +kernel) (by decide +kernel)
theorem lkGH_141 : Cond.methodLink nGH 141 yRO_has ∈ TW := twm (by decide +kernel) (by decide +kernel)
theorem lkGH_144 : Cond.methodLink nGH 144 yRO_add ∈ TW := twm (by decide +kernel) (by decide +kernel)
theorem lkLW_48 : Cond.methodLink nLW 48 yGH_centre ∈ TW := twm (by decide +kernel) (by decide +kernel)
theorem imGH_centre : Cond.instanceMethod yGH_centre ∈ TW := twm (by decide +kernel) (by decide +kernel)
theorem seGH_centre : Cond.selects nGH yGH_centre yGH_centre ∈ TW := twm (by decide +kernel) (by decide +kernel)
theorem lkLW_53 : Cond.methodLink nLW 53 yGH_within ∈ TW := twm (by decide +kernel) (by decide +kernel)
theorem imGH_within : Cond.instanceMethod yGH_within ∈ TW := twm (by decide +kernel) (by decide +kernel)
theorem seGH_within : Cond.selects nGH yGH_within yGH_within ∈ TW := twm (by decide +kernel) (by decide +kernel)
theorem lkLW_58 : Cond.methodLink nLW 58 yGH_orbit ∈ TW := twm (by decide +kernel) (by decide +kernel)
theorem imGH_orbit : Cond.instanceMethod yGH_orbit ∈ TW := twm (by decide +kernel) (by decide +kernel)
theorem seGH_orbit : Cond.selects nGH yGH_orbit yGH_orbit ∈ TW := twm (by decide +kernel) (by decide +kernel)
theorem lkGH_147 : Cond.methodLink nGH 147 yGH_gatherOrbit ∈ TW := twm (by decide +kernel) (by decide +kernel)
theorem seGH_gatherOrbit : Cond.selects nGH yGH_gatherOrbit yGH_gatherOrbit ∈ TW := twm (by decide +kernel) (by decide +kernel)
theorem imGH_gatherOrbit : Cond.instanceMethod yGH_gatherOrbit ∈ TW := twm (by decide +kernel) (by decide +kernel)
theorem lkGH_165 : Cond.methodLink nGH 165 yBE_moved ∈ TW := twm (by decide +kernel) (by decide +kernel)
theorem imBE_moved : Cond.instanceMethod yBE_moved ∈ TW := twm (by decide +kernel) (by decide +kernel)
theorem seBE_moved : Cond.selects nBE yBE_moved yBE_moved ∈ TW := twm (by decide +kernel) (by decide +kernel)
theorem lkGH_151 : Cond.methodLink nGH 151 yGH_gatherKeepers ∈ TW := twm (by decide +kernel) (by decide +kernel)
theorem seGH_gatherKeepers : Cond.selects nGH yGH_gatherKeepers yGH_gatherKeepers ∈ TW := twm (by decide +kernel) (by decide +kernel)
theorem imGH_gatherKeepers : Cond.instanceMethod yGH_gatherKeepers ∈ TW := twm (by decide +kernel) (by decide +kernel)
theorem lkGH_154 : Cond.methodLink nGH 154 yGH_classOf ∈ TW := twm (by decide +kernel) (by decide +kernel)
theorem lkLW_62 : Cond.methodLink nLW 62 yGH_keepers ∈ TW := twm (by decide +kernel) (by decide +kernel)
theorem imGH_keepers : Cond.instanceMethod yGH_keepers ∈ TW := twm (by decide +kernel) (by decide +kernel)
theorem seGH_keepers : Cond.selects nGH yGH_keepers yGH_keepers ∈ TW := twm (by decide +kernel) (by decide +kernel)
theorem lkLW_10 : Cond.classLink nLW 10 nMO ∈ TW := twm (by decide +kernel) (by decide +kernel)
theorem insMO : Cond.instantiable nMO 24 ∈ TW := twm (by decide +kernel) (by decide +kernel)
theorem lkLW_12 : Cond.methodLink nLW 12 yMO_init ∈ TW := twm (by decide +kernel) (by decide +kernel)
theorem imMO_init : Cond.instanceMethod yMO_init ∈ TW := twm (by decide +kernel) (by decide +kernel)
theorem lkMO_1 : Cond.methodLink nMO 1 objectInit ∈ TW := twm (by decide +kernel) (by decide +kernel)
theorem lkMO_51 : Cond.constant nMO 51 36864 ∈ TW := twm (by decide +kernel) (by decide +kernel)
theorem lkMO_7 : Cond.fieldLink nMO 7 "GroupHallsModel" "ma" "[I" ∈ TW := twm (by decide +kernel) (by decide +kernel)
theorem lkMO_13 : Cond.fieldLink nMO 13 "GroupHallsModel" "sa" "[I" ∈ TW := twm (by decide +kernel) (by decide +kernel)
theorem lkMO_16 : Cond.fieldLink nMO 16 "GroupHallsModel" "mb" "[I" ∈ TW := twm (by decide +kernel) (by decide +kernel)
theorem lkMO_19 : Cond.fieldLink nMO 19 "GroupHallsModel" "sb" "[I" ∈ TW := twm (by decide +kernel) (by decide +kernel)
theorem lkMO_22 : Cond.fieldLink nMO 22 "GroupHallsModel" "chosen" "[I" ∈ TW := twm (by decide +kernel) (by decide +kernel)
theorem lkMO_92 : Cond.fieldLink nMO 92 "GroupHallsModel" "choices" "I" ∈ TW := twm (by decide +kernel) (by decide +kernel)
theorem lkMO_25 : Cond.fieldLink nMO 25 "GroupHallsModel" "member" "[I" ∈ TW := twm (by decide +kernel) (by decide +kernel)
theorem lkMO_28 : Cond.fieldLink nMO 28 "GroupHallsModel" "size" "[I" ∈ TW := twm (by decide +kernel) (by decide +kernel)
theorem lkMO_88 : Cond.fieldLink nMO 88 "GroupHallsModel" "groups" "I" ∈ TW := twm (by decide +kernel) (by decide +kernel)
theorem lkMO_31 : Cond.fieldLink nMO 31 "GroupHallsModel" "list" "[I" ∈ TW := twm (by decide +kernel) (by decide +kernel)
theorem lkMO_95 : Cond.fieldLink nMO 95 "GroupHallsModel" "listed" "I" ∈ TW := twm (by decide +kernel) (by decide +kernel)
theorem lkMO_34 : Cond.fieldLink nMO 34 "GroupHallsModel" "alikes" "[I" ∈ TW := twm (by decide +kernel) (by decide +kernel)
theorem lkMO_37 : Cond.fieldLink nMO 37 "GroupHallsModel" "alikeMany" "[I" ∈ TW := twm (by decide +kernel) (by decide +kernel)
theorem lkMO_40 : Cond.fieldLink nMO 40 "GroupHallsModel" "halves" "[I" ∈ TW := twm (by decide +kernel) (by decide +kernel)
theorem lkMO_43 : Cond.fieldLink nMO 43 "GroupHallsModel" "known" "[Z" ∈ TW := twm (by decide +kernel) (by decide +kernel)
theorem lkMO_47 : Cond.fieldLink nMO 47 "GroupHallsModel" "halfBits" "[J" ∈ TW := twm (by decide +kernel) (by decide +kernel)
theorem lkMO_52 : Cond.fieldLink nMO 52 "GroupHallsModel" "table" "[I" ∈ TW := twm (by decide +kernel) (by decide +kernel)
theorem lkMO_55 : Cond.fieldLink nMO 55 "GroupHallsModel" "mark" "[I" ∈ TW := twm (by decide +kernel) (by decide +kernel)
theorem lkMO_58 : Cond.fieldLink nMO 58 "GroupHallsModel" "generator" "[I" ∈ TW := twm (by decide +kernel) (by decide +kernel)
theorem lkMO_61 : Cond.fieldLink nMO 61 "GroupHallsModel" "orbit" "[I" ∈ TW := twm (by decide +kernel) (by decide +kernel)
theorem lkMO_64 : Cond.fieldLink nMO 64 "GroupHallsModel" "sorts" "[I" ∈ TW := twm (by decide +kernel) (by decide +kernel)
theorem lkMO_67 : Cond.fieldLink nMO 67 "GroupHallsModel" "keeper" "[I" ∈ TW := twm (by decide +kernel) (by decide +kernel)
theorem lkMO_70 : Cond.fieldLink nMO 70 "GroupHallsModel" "mc" "[I" ∈ TW := twm (by decide +kernel) (by decide +kernel)
theorem lkMO_73 : Cond.fieldLink nMO 73 "GroupHallsModel" "sc" "[I" ∈ TW := twm (by decide +kernel) (by decide +kernel)
theorem ac_boolean : Cond.arrayClass .boolean ∈ TW := twm (by decide +kernel) (by decide +kernel)
theorem ac_long : Cond.arrayClass .long ∈ TW := twm (by decide +kernel) (by decide +kernel)
theorem lkLW_17 : Cond.methodLink nLW 17 yMO_choose ∈ TW := twm (by decide +kernel) (by decide +kernel)
theorem imMO_choose : Cond.instanceMethod yMO_choose ∈ TW := twm (by decide +kernel) (by decide +kernel)
theorem seMO_choose : Cond.selects nMO yMO_choose yMO_choose ∈ TW := twm (by decide +kernel) (by decide +kernel)
theorem lkMO_76 : Cond.methodLink nMO 76 yMO_open ∈ TW := twm (by decide +kernel) (by decide +kernel)
theorem smMO_open : Cond.static yMO_open ∈ TW := twm (by decide +kernel) (by decide +kernel)
theorem lkMO_84 : Cond.methodLink nMO 84 yMO_determinant ∈ TW := twm (by decide +kernel) (by decide +kernel)
theorem smMO_determinant : Cond.static yMO_determinant ∈ TW := twm (by decide +kernel) (by decide +kernel)
theorem lkLW_22 : Cond.methodLink nLW 22 yMO_group ∈ TW := twm (by decide +kernel) (by decide +kernel)
theorem imMO_group : Cond.instanceMethod yMO_group ∈ TW := twm (by decide +kernel) (by decide +kernel)
theorem seMO_group : Cond.selects nMO yMO_group yMO_group ∈ TW := twm (by decide +kernel) (by decide +kernel)
theorem lkMO_98 : Cond.methodLink nMO 98 yMO_identity ∈ TW := twm (by decide +kernel) (by decide +kernel)
theorem smMO_identity : Cond.static yMO_identity ∈ TW := twm (by decide +kernel) (by decide +kernel)
theorem lkMO_102 : Cond.methodLink nMO 102 yMO_times ∈ TW := twm (by decide +kernel) (by decide +kernel)
theorem seMO_times : Cond.selects nMO yMO_times yMO_times ∈ TW := twm (by decide +kernel) (by decide +kernel)
theorem imMO_times : Cond.instanceMethod yMO_times ∈ TW := twm (by decide +kernel) (by decide +kernel)
theorem lkMO_80 : Cond.methodLink nMO 80 yMO_closed ∈ TW := twm (by decide +kernel) (by decide +kernel)
theorem smMO_closed : Cond.static yMO_closed ∈ TW := twm (by decide +kernel) (by decide +kernel)
theorem lkMO_106 : Cond.methodLink nMO 106 yMO_isListed ∈ TW := twm (by decide +kernel) (by decide +kernel)
theorem seMO_isListed : Cond.selects nMO yMO_isListed yMO_isListed ∈ TW := twm (by decide +kernel) (by decide +kernel)
theorem imMO_isListed : Cond.instanceMethod yMO_isListed ∈ TW := twm (by decide +kernel) (by decide +kernel)
theorem lkMO_110 : Cond.methodLink nMO 110 yMO_numbered ∈ TW := twm (by decide +kernel) (by decide +kernel)
theorem seMO_numbered : Cond.selects nMO yMO_numbered yMO_numbered ∈ TW := twm (by decide +kernel) (by decide +kernel)
theorem imMO_numbered : Cond.instanceMethod yMO_numbered ∈ TW := twm (by decide +kernel) (by decide +kernel)
theorem lkLW_26 : Cond.methodLink nLW 26 yMO_about ∈ TW := twm (by decide +kernel) (by decide +kernel)
theorem imMO_about : Cond.instanceMethod yMO_about ∈ TW := twm (by decide +kernel) (by decide +kernel)
theorem seMO_about : Cond.selects nMO yMO_about yMO_about ∈ TW := twm (by decide +kernel) (by decide +kernel)
theorem lkMO_151 : Cond.methodLink nMO 151 yMO_isGroup ∈ TW := twm (by decide +kernel) (by decide +kernel)
theorem seMO_isGroup : Cond.selects nMO yMO_isGroup yMO_isGroup ∈ TW := twm (by decide +kernel) (by decide +kernel)
theorem imMO_isGroup : Cond.instanceMethod yMO_isGroup ∈ TW := twm (by decide +kernel) (by decide +kernel)
theorem lkMO_154 : Cond.methodLink nMO 154 yMO_matrices ∈ TW := twm (by decide +kernel) (by decide +kernel)
theorem seMO_matrices : Cond.selects nMO yMO_matrices yMO_matrices ∈ TW := twm (by decide +kernel) (by decide +kernel)
theorem imMO_matrices : Cond.instanceMethod yMO_matrices ∈ TW := twm (by decide +kernel) (by decide +kernel)
theorem lkMO_158 : Cond.methodLink nMO 158 yMO_centrings ∈ TW := twm (by decide +kernel) (by decide +kernel)
theorem seMO_centrings : Cond.selects nMO yMO_centrings yMO_centrings ∈ TW := twm (by decide +kernel) (by decide +kernel)
theorem imMO_centrings : Cond.instanceMethod yMO_centrings ∈ TW := twm (by decide +kernel) (by decide +kernel)
theorem lkMO_161 : Cond.methodLink nMO 161 yMO_letterOf ∈ TW := twm (by decide +kernel) (by decide +kernel)
theorem seMO_letterOf : Cond.selects nMO yMO_letterOf yMO_letterOf ∈ TW := twm (by decide +kernel) (by decide +kernel)
theorem imMO_letterOf : Cond.instanceMethod yMO_letterOf ∈ TW := twm (by decide +kernel) (by decide +kernel)
theorem lkMO_122 : Cond.methodLink nMO 122 yMO_hasShift ∈ TW := twm (by decide +kernel) (by decide +kernel)
theorem seMO_hasShift : Cond.selects nMO yMO_hasShift yMO_hasShift ∈ TW := twm (by decide +kernel) (by decide +kernel)
theorem imMO_hasShift : Cond.instanceMethod yMO_hasShift ∈ TW := twm (by decide +kernel) (by decide +kernel)
theorem lkMO_119 : Cond.methodLink nMO 119 yMO_place ∈ TW := twm (by decide +kernel) (by decide +kernel)
theorem seMO_place : Cond.selects nMO yMO_place yMO_place ∈ TW := twm (by decide +kernel) (by decide +kernel)
theorem imMO_place : Cond.instanceMethod yMO_place ∈ TW := twm (by decide +kernel) (by decide +kernel)
theorem lkMO_164 : Cond.methodLink nMO 164 yMO_classOf ∈ TW := twm (by decide +kernel) (by decide +kernel)
theorem seMO_classOf : Cond.selects nMO yMO_classOf yMO_classOf ∈ TW := twm (by decide +kernel) (by decide +kernel)
theorem imMO_classOf : Cond.instanceMethod yMO_classOf ∈ TW := twm (by decide +kernel) (by decide +kernel)
theorem lkMO_113 : Cond.methodLink nMO 113 yMO_sortOf ∈ TW := twm (by decide +kernel) (by decide +kernel)
theorem smMO_sortOf : Cond.static yMO_sortOf ∈ TW := twm (by decide +kernel) (by decide +kernel)
theorem lkMO_116 : Cond.methodLink nMO 116 yMO_classBy ∈ TW := twm (by decide +kernel) (by decide +kernel)
theorem smMO_classBy : Cond.static yMO_classBy ∈ TW := twm (by decide +kernel) (by decide +kernel)
theorem lkMO_168 : Cond.methodLink nMO 168 yMO_know ∈ TW := twm (by decide +kernel) (by decide +kernel)
theorem seMO_know : Cond.selects nMO yMO_know yMO_know ∈ TW := twm (by decide +kernel) (by decide +kernel)
theorem imMO_know : Cond.instanceMethod yMO_know ∈ TW := twm (by decide +kernel) (by decide +kernel)
theorem lkMO_126 : Cond.methodLink nMO 126 yMO_countAlike ∈ TW := twm (by decide +kernel) (by decide +kernel)
theorem seMO_countAlike : Cond.selects nMO yMO_countAlike yMO_countAlike ∈ TW := twm (by decide +kernel) (by decide +kernel)
theorem imMO_countAlike : Cond.instanceMethod yMO_countAlike ∈ TW := twm (by decide +kernel) (by decide +kernel)
theorem lkMO_129 : Cond.methodLink nMO 129 yMO_gatherHalves ∈ TW := twm (by decide +kernel) (by decide +kernel)
theorem seMO_gatherHalves : Cond.selects nMO yMO_gatherHalves yMO_gatherHalves ∈ TW := twm (by decide +kernel) (by decide +kernel)
theorem imMO_gatherHalves : Cond.instanceMethod yMO_gatherHalves ∈ TW := twm (by decide +kernel) (by decide +kernel)
theorem lkMO_133 : Cond.methodLink nMO 133 yMO_made ∈ TW := twm (by decide +kernel) (by decide +kernel)
theorem seMO_made : Cond.selects nMO yMO_made yMO_made ∈ TW := twm (by decide +kernel) (by decide +kernel)
theorem imMO_made : Cond.instanceMethod yMO_made ∈ TW := twm (by decide +kernel) (by decide +kernel)
theorem lkMO_136 : Cond.methodLink nMO 136 yMO_isHalf ∈ TW := twm (by decide +kernel) (by decide +kernel)
theorem seMO_isHalf : Cond.selects nMO yMO_isHalf yMO_isHalf ∈ TW := twm (by decide +kernel) (by decide +kernel)
theorem imMO_isHalf : Cond.instanceMethod yMO_isHalf ∈ TW := twm (by decide +kernel) (by decide +kernel)
theorem lkMO_140 : Cond.methodLink nMO 140 yMO_keepHalf ∈ TW := twm (by decide +kernel) (by decide +kernel)
theorem seMO_keepHalf : Cond.selects nMO yMO_keepHalf yMO_keepHalf ∈ TW := twm (by decide +kernel) (by decide +kernel)
theorem imMO_keepHalf : Cond.instanceMethod yMO_keepHalf ∈ TW := twm (by decide +kernel) (by decide +kernel)
theorem lkMO_143 : Cond.methodLink nMO 143 yMO_comesAhead ∈ TW := twm (by decide +kernel) (by decide +kernel)
theorem seMO_comesAhead : Cond.selects nMO yMO_comesAhead yMO_comesAhead ∈ TW := twm (by decide +kernel) (by decide +kernel)
theorem imMO_comesAhead : Cond.instanceMethod yMO_comesAhead ∈ TW := twm (by decide +kernel) (by decide +kernel)
theorem lkMO_147 : Cond.methodLink nMO 147 yMO_isGreater ∈ TW := twm (by decide +kernel) (by decide +kernel)
theorem smMO_isGreater : Cond.static yMO_isGreater ∈ TW := twm (by decide +kernel) (by decide +kernel)
theorem lkLW_31 : Cond.methodLink nLW 31 yMO_of ∈ TW := twm (by decide +kernel) (by decide +kernel)
theorem imMO_of : Cond.instanceMethod yMO_of ∈ TW := twm (by decide +kernel) (by decide +kernel)
theorem seMO_of : Cond.selects nMO yMO_of yMO_of ∈ TW := twm (by decide +kernel) (by decide +kernel)
theorem lkMO_172 : Cond.methodLink nMO 172 yMO_isMember ∈ TW := twm (by decide +kernel) (by decide +kernel)
theorem seMO_isMember : Cond.selects nMO yMO_isMember yMO_isMember ∈ TW := twm (by decide +kernel) (by decide +kernel)
theorem imMO_isMember : Cond.instanceMethod yMO_isMember ∈ TW := twm (by decide +kernel) (by decide +kernel)
theorem lkLW_35 : Cond.methodLink nLW 35 yMO_product ∈ TW := twm (by decide +kernel) (by decide +kernel)
theorem imMO_product : Cond.instanceMethod yMO_product ∈ TW := twm (by decide +kernel) (by decide +kernel)
theorem seMO_product : Cond.selects nMO yMO_product yMO_product ∈ TW := twm (by decide +kernel) (by decide +kernel)
theorem lkLW_39 : Cond.methodLink nLW 39 yMO_find ∈ TW := twm (by decide +kernel) (by decide +kernel)
theorem imMO_find : Cond.instanceMethod yMO_find ∈ TW := twm (by decide +kernel) (by decide +kernel)
theorem seMO_find : Cond.selects nMO yMO_find yMO_find ∈ TW := twm (by decide +kernel) (by decide +kernel)
theorem lkLW_43 : Cond.methodLink nLW 43 yMO_half ∈ TW := twm (by decide +kernel) (by decide +kernel)
theorem imMO_half : Cond.instanceMethod yMO_half ∈ TW := twm (by decide +kernel) (by decide +kernel)
theorem seMO_half : Cond.selects nMO yMO_half yMO_half ∈ TW := twm (by decide +kernel) (by decide +kernel)
theorem lkLW_47 : Cond.methodLink nLW 47 yMO_both ∈ TW := twm (by decide +kernel) (by decide +kernel)
theorem imMO_both : Cond.instanceMethod yMO_both ∈ TW := twm (by decide +kernel) (by decide +kernel)
theorem seMO_both : Cond.selects nMO yMO_both yMO_both ∈ TW := twm (by decide +kernel) (by decide +kernel)
theorem lkLW_52 : Cond.methodLink nLW 52 yMO_centre ∈ TW := twm (by decide +kernel) (by decide +kernel)
theorem imMO_centre : Cond.instanceMethod yMO_centre ∈ TW := twm (by decide +kernel) (by decide +kernel)
theorem seMO_centre : Cond.selects nMO yMO_centre yMO_centre ∈ TW := twm (by decide +kernel) (by decide +kernel)
theorem lkLW_57 : Cond.methodLink nLW 57 yMO_within ∈ TW := twm (by decide +kernel) (by decide +kernel)
theorem imMO_within : Cond.instanceMethod yMO_within ∈ TW := twm (by decide +kernel) (by decide +kernel)
theorem seMO_within : Cond.selects nMO yMO_within yMO_within ∈ TW := twm (by decide +kernel) (by decide +kernel)
theorem lkLW_61 : Cond.methodLink nLW 61 yMO_orbit ∈ TW := twm (by decide +kernel) (by decide +kernel)
theorem imMO_orbit : Cond.instanceMethod yMO_orbit ∈ TW := twm (by decide +kernel) (by decide +kernel)
theorem seMO_orbit : Cond.selects nMO yMO_orbit yMO_orbit ∈ TW := twm (by decide +kernel) (by decide +kernel)
theorem lkMO_178 : Cond.methodLink nMO 178 yMO_keepersOf ∈ TW := twm (by decide +kernel) (by decide +kernel)
theorem seMO_keepersOf : Cond.selects nMO yMO_keepersOf yMO_keepersOf ∈ TW := twm (by decide +kernel) (by decide +kernel)
theorem imMO_keepersOf : Cond.instanceMethod yMO_keepersOf ∈ TW := twm (by decide +kernel) (by decide +kernel)
theorem lkMO_175 : Cond.methodLink nMO 175 yMO_taken ∈ TW := twm (by decide +kernel) (by decide +kernel)
theorem seMO_taken : Cond.selects nMO yMO_taken yMO_taken ∈ TW := twm (by decide +kernel) (by decide +kernel)
theorem imMO_taken : Cond.instanceMethod yMO_taken ∈ TW := twm (by decide +kernel) (by decide +kernel)
theorem lkMO_181 : Cond.methodLink nMO 181 yMO_orbitOf ∈ TW := twm (by decide +kernel) (by decide +kernel)
theorem seMO_orbitOf : Cond.selects nMO yMO_orbitOf yMO_orbitOf ∈ TW := twm (by decide +kernel) (by decide +kernel)
theorem imMO_orbitOf : Cond.instanceMethod yMO_orbitOf ∈ TW := twm (by decide +kernel) (by decide +kernel)
theorem lkLW_65 : Cond.methodLink nLW 65 yMO_keepers ∈ TW := twm (by decide +kernel) (by decide +kernel)
theorem imMO_keepers : Cond.instanceMethod yMO_keepers ∈ TW := twm (by decide +kernel) (by decide +kernel)
theorem seMO_keepers : Cond.selects nMO yMO_keepers yMO_keepers ∈ TW := twm (by decide +kernel) (by decide +kernel)
end
section
/-! The machine's ints as integers; rows over integers; contracts of one form. -/
def iI (z : Int) : Int32 := Int32.ofInt z
theorem iI_add (a b : Int) : iI a + iI b = iI (a + b) := (Int32.ofInt_add a b).symm
theorem iI_sub (a b : Int) : iI a - iI b = iI (a - b) := (Int32.ofInt_sub a b).symm
theorem iI_mul (a b : Int) : iI a * iI b = iI (a * b) := (Int32.ofInt_mul a b).symm
theorem iI_toInt {z : Int} (h : -2147483648 ≤ z ∧ z < 2147483648) : (iI z).toInt = z := Int32.toInt_ofInt_of_le (by omega) (by omega)
theorem iI_le {a b : Int} (ha : -2147483648 ≤ a ∧ a < 2147483648) (hb : -2147483648 ≤ b ∧ b < 2147483648) : iI a ≤ iI b ↔ a ≤ b := by
  rw [Int32.le_iff_toInt_le, iI_toInt ha, iI_toInt hb]
theorem iI_lt {a b : Int} (ha : -2147483648 ≤ a ∧ a < 2147483648) (hb : -2147483648 ≤ b ∧ b < 2147483648) : iI a < iI b ↔ a < b := by
  rw [Int32.lt_iff_toInt_lt, iI_toInt ha, iI_toInt hb]
theorem iI_eq {a b : Int} (ha : -2147483648 ≤ a ∧ a < 2147483648) (hb : -2147483648 ≤ b ∧ b < 2147483648) : iI a = iI b ↔ a = b := by
  rw [← Int32.toInt_inj, iI_toInt ha, iI_toInt hb]
theorem iI_of (x : Int32) : ∃ z : Int, (-2147483648 ≤ z ∧ z < 2147483648) ∧ x = iI z := ⟨x.toInt, ⟨by have := x.le_toInt; omega, by have := x.toInt_lt; omega⟩, (Int32.ofInt_toInt x).symm⟩
theorem iI_nI (n : Nat) : nI n = iI (n : Int) := (Int32.ofInt_eq_ofNat).symm
theorem iI_0 : iI 0 = 0 := rfl
theorem iI_div {a b : Int} (ha : 0 ≤ a ∧ a < 2147483648) (hb : 0 < b ∧ b < 2147483648) : iI a / iI b = iI (a / b) := by
  obtain ⟨n, rfl⟩ := Int.eq_ofNat_of_zero_le ha.1
  obtain ⟨d, rfl⟩ := Int.eq_ofNat_of_zero_le (Int.le_of_lt hb.1)
  have h := pk_div (a := n) (d := d) (by omega) (by omega) (by omega)
  rw [iI_nI, iI_nI, iI_nI] at h
  rw [h, Int.natCast_ediv]
theorem iI_rem {a b : Int} (ha : 0 ≤ a ∧ a < 2147483648) (hb : 0 < b ∧ b < 2147483648) : iI a - iI a / iI b * iI b = iI (a % b) := by
  rw [iI_div ha hb, iI_mul, iI_sub]
  congr 1
  have h1 := Int.mul_ediv_add_emod a b
  have h2 : a / b * b = b * (a / b) := Int.mul_comm _ _
  omega
theorem iI_ne0 {b : Int} (hb : 0 < b ∧ b < 2147483648) : ¬ iI b = 0 := by
  rw [← iI_0, iI_eq (by omega) (by omega)]
  omega
theorem iI_clamp {z : Int} (h : 0 ≤ z ∧ z < 2147483648) : (iI z).toNatClampNeg = z.toNat := by
  rw [← Int32.toNat_toInt, iI_toInt (by omega)]
theorem vp_in_iI {z : Int} {n : Nat} (h : 0 ≤ z ∧ z < (n : Int)) (h2 : z < 2147483648) : vp_in (iI z) n := by
  rw [vp_in_iff, iI_toInt (by omega)]
  exact h
def zf (f : Nat → Int) : Nat → Int32 := fun j => iI (f j)
def zu (f : Nat → Int) (k : Nat) (v : Int) : Nat → Int := fun j => if j = k then v else f j
theorem zu_s (f : Nat → Int) (k : Nat) (v : Int) : zu f k v k = v := if_pos rfl
theorem zu_n (f : Nat → Int) {k j : Nat} (v : Int) (h : j ≠ k) : zu f k v j = f j := if_neg h
theorem zf_upd (f : Nat → Int) (k : Nat) (v : Int) : upd (zf f) k (iI v) = zf (zu f k v) := by
  funext j
  unfold upd zf zu
  split <;> rfl
section LZ
variable {p : Program} {l : Launch} {e : Env} {R : Room} {s : State} {m : MethodId} {args : Array Value} {below : List Frame} {meth : Method} {c : Code} {H : Heap} {locs : List Loc} {cells slots : Nat} {Q : State → Prop}
variable {cc : ByteArray} {pc : Nat} {ls : Array Slot} {rest : List Value}
theorem lz_iadd (hexec : p.tables.exec = Jvm.exec) (hb : c.code = cc) {x y : Int} (hdg : decode cc pc = .ok (.iadd, 1)) (k : W p l e R s m args below meth c H locs cells slots Q (F0 m (pc + 1) ls (.int (iI (x + y)) :: rest))) : W p l e R s m args below meth c H locs cells slots Q (F0 m pc ls (.int (iI y) :: .int (iI x) :: rest)) :=
  lv_iadd hexec hb hdg (by rw [iI_add]; exact k)
theorem lz_isub (hexec : p.tables.exec = Jvm.exec) (hb : c.code = cc) {x y : Int} (hdg : decode cc pc = .ok (.isub, 1)) (k : W p l e R s m args below meth c H locs cells slots Q (F0 m (pc + 1) ls (.int (iI (x - y)) :: rest))) : W p l e R s m args below meth c H locs cells slots Q (F0 m pc ls (.int (iI y) :: .int (iI x) :: rest)) :=
  lv_isub hexec hb hdg (by rw [iI_sub]; exact k)
theorem lz_imul (hexec : p.tables.exec = Jvm.exec) (hb : c.code = cc) {x y : Int} (hdg : decode cc pc = .ok (.imul, 1)) (k : W p l e R s m args below meth c H locs cells slots Q (F0 m (pc + 1) ls (.int (iI (x * y)) :: rest))) : W p l e R s m args below meth c H locs cells slots Q (F0 m pc ls (.int (iI y) :: .int (iI x) :: rest)) :=
  lv_imul hexec hb hdg (by rw [iI_mul]; exact k)
theorem lz_idiv (hexec : p.tables.exec = Jvm.exec) (hb : c.code = cc) {x y : Int} (hdg : decode cc pc = .ok (.idiv, 1)) (hx : 0 ≤ x ∧ x < 2147483648) (hy : 0 < y ∧ y < 2147483648) (k : W p l e R s m args below meth c H locs cells slots Q (F0 m (pc + 1) ls (.int (iI (x / y)) :: rest))) : W p l e R s m args below meth c H locs cells slots Q (F0 m pc ls (.int (iI y) :: .int (iI x) :: rest)) :=
  lv_idiv hexec hb hdg (iI_ne0 hy) (by rw [iI_div hx hy]; exact k)
theorem lz_irem (hexec : p.tables.exec = Jvm.exec) (hb : c.code = cc) {x y : Int} (hdg : decode cc pc = .ok (.irem, 1)) (hx : 0 ≤ x ∧ x < 2147483648) (hy : 0 < y ∧ y < 2147483648) (k : W p l e R s m args below meth c H locs cells slots Q (F0 m (pc + 1) ls (.int (iI (x % y)) :: rest))) : W p l e R s m args below meth c H locs cells slots Q (F0 m pc ls (.int (iI y) :: .int (iI x) :: rest)) :=
  lv_irem hexec hb hdg (iI_ne0 hy) (by rw [iI_rem hx hy]; exact k)
theorem lz_iinc (hexec : p.tables.exec = Jvm.exec) (hb : c.code = cc) {i nL k : Nat} {n x : Int} {lv lv' : List (Nat × Value)} (hdg : decode cc pc = .ok (.iinc i n, 3)) (h : lv_has ls nL lv) (hk : lv[k]? = some (i, .int (iI x))) (hn : i < nL) (hl : (i, Value.int (iI (x + n))) :: lv.filter (fun q => !(q.1 == i) && !(q.1 + 1 == i && q.2.category == 2)) = lv')
    (kk : ∀ ls' : Array Slot, lv_has ls' nL lv' → W p l e R s m args below meth c H locs cells slots Q (F0 m (pc + 3) ls' rest)) : W p l e R s m args below meth c H locs cells slots Q (F0 m pc ls rest) :=
  lv_iinc hexec hb hdg h hk (iI_add x n) hn hl kk
theorem lz_icmp_eq (hexec : p.tables.exec = Jvm.exec) (hb : c.code = cc) {x y : Int} {off : Int} {tgt : Nat} (hdg : decode cc pc = .ok (.if_icmp .eq off, 3)) (ht : (pc : Int) + off = (tgt : Int)) (hx : -2147483648 ≤ x ∧ x < 2147483648) (hy : -2147483648 ≤ y ∧ y < 2147483648)
    (kt : x = y → W p l e R s m args below meth c H locs cells slots Q (F0 m tgt ls rest)) (kf : x ≠ y → W p l e R s m args below meth c H locs cells slots Q (F0 m (pc + 3) ls rest)) : W p l e R s m args below meth c H locs cells slots Q (F0 m pc ls (.int (iI y) :: .int (iI x) :: rest)) :=
  lv_icmp_eq hexec hb hdg ht (fun h => kt ((iI_eq hx hy).mp h)) (fun h => kf (fun q => h ((iI_eq hx hy).mpr q)))
theorem lz_icmp_ne (hexec : p.tables.exec = Jvm.exec) (hb : c.code = cc) {x y : Int} {off : Int} {tgt : Nat} (hdg : decode cc pc = .ok (.if_icmp .ne off, 3)) (ht : (pc : Int) + off = (tgt : Int)) (hx : -2147483648 ≤ x ∧ x < 2147483648) (hy : -2147483648 ≤ y ∧ y < 2147483648)
    (kt : x ≠ y → W p l e R s m args below meth c H locs cells slots Q (F0 m tgt ls rest)) (kf : x = y → W p l e R s m args below meth c H locs cells slots Q (F0 m (pc + 3) ls rest)) : W p l e R s m args below meth c H locs cells slots Q (F0 m pc ls (.int (iI y) :: .int (iI x) :: rest)) :=
  lv_icmp_ne hexec hb hdg ht (fun h => kt (fun q => h ((iI_eq hx hy).mpr q))) (fun h => kf ((iI_eq hx hy).mp h))
theorem lz_icmp_lt (hexec : p.tables.exec = Jvm.exec) (hb : c.code = cc) {x y : Int} {off : Int} {tgt : Nat} (hdg : decode cc pc = .ok (.if_icmp .lt off, 3)) (ht : (pc : Int) + off = (tgt : Int)) (hx : -2147483648 ≤ x ∧ x < 2147483648) (hy : -2147483648 ≤ y ∧ y < 2147483648)
    (kt : x < y → W p l e R s m args below meth c H locs cells slots Q (F0 m tgt ls rest)) (kf : y ≤ x → W p l e R s m args below meth c H locs cells slots Q (F0 m (pc + 3) ls rest)) : W p l e R s m args below meth c H locs cells slots Q (F0 m pc ls (.int (iI y) :: .int (iI x) :: rest)) :=
  lv_icmp_lt hexec hb hdg ht (fun h => kt ((iI_lt hx hy).mp h)) (fun h => kf (Int.not_lt.mp fun q => h ((iI_lt hx hy).mpr q)))
theorem lz_icmp_ge (hexec : p.tables.exec = Jvm.exec) (hb : c.code = cc) {x y : Int} {off : Int} {tgt : Nat} (hdg : decode cc pc = .ok (.if_icmp .ge off, 3)) (ht : (pc : Int) + off = (tgt : Int)) (hx : -2147483648 ≤ x ∧ x < 2147483648) (hy : -2147483648 ≤ y ∧ y < 2147483648)
    (kt : y ≤ x → W p l e R s m args below meth c H locs cells slots Q (F0 m tgt ls rest)) (kf : x < y → W p l e R s m args below meth c H locs cells slots Q (F0 m (pc + 3) ls rest)) : W p l e R s m args below meth c H locs cells slots Q (F0 m pc ls (.int (iI y) :: .int (iI x) :: rest)) :=
  lv_icmp_ge hexec hb hdg ht (fun h => kt ((iI_le hy hx).mp h)) (fun h => kf (Int.not_le.mp fun q => h ((iI_le hy hx).mpr q)))
theorem lz_icmp_gt (hexec : p.tables.exec = Jvm.exec) (hb : c.code = cc) {x y : Int} {off : Int} {tgt : Nat} (hdg : decode cc pc = .ok (.if_icmp .gt off, 3)) (ht : (pc : Int) + off = (tgt : Int)) (hx : -2147483648 ≤ x ∧ x < 2147483648) (hy : -2147483648 ≤ y ∧ y < 2147483648)
    (kt : y < x → W p l e R s m args below meth c H locs cells slots Q (F0 m tgt ls rest)) (kf : x ≤ y → W p l e R s m args below meth c H locs cells slots Q (F0 m (pc + 3) ls rest)) : W p l e R s m args below meth c H locs cells slots Q (F0 m pc ls (.int (iI y) :: .int (iI x) :: rest)) :=
  lv_icmp_gt hexec hb hdg ht (fun h => kt ((iI_lt hy hx).mp h)) (fun h => kf (Int.not_lt.mp fun q => h ((iI_lt hy hx).mpr q)))
theorem lz_icmp_le (hexec : p.tables.exec = Jvm.exec) (hb : c.code = cc) {x y : Int} {off : Int} {tgt : Nat} (hdg : decode cc pc = .ok (.if_icmp .le off, 3)) (ht : (pc : Int) + off = (tgt : Int)) (hx : -2147483648 ≤ x ∧ x < 2147483648) (hy : -2147483648 ≤ y ∧ y < 2147483648)
    (kt : x ≤ y → W p l e R s m args below meth c H locs cells slots Q (F0 m tgt ls rest)) (kf : y < x → W p l e R s m args below meth c H locs cells slots Q (F0 m (pc + 3) ls rest)) : W p l e R s m args below meth c H locs cells slots Q (F0 m pc ls (.int (iI y) :: .int (iI x) :: rest)) :=
  lv_icmp_le hexec hb hdg ht (fun h => kt ((iI_le hx hy).mp h)) (fun h => kf (Int.not_le.mp fun q => h ((iI_le hx hy).mpr q)))
theorem lz_if_eq (hexec : p.tables.exec = Jvm.exec) (hb : c.code = cc) {x : Int} {off : Int} {tgt : Nat} (hdg : decode cc pc = .ok (.ifCond .eq off, 3)) (ht : (pc : Int) + off = (tgt : Int)) (hx : -2147483648 ≤ x ∧ x < 2147483648)
    (kt : x = 0 → W p l e R s m args below meth c H locs cells slots Q (F0 m tgt ls rest)) (kf : x ≠ 0 → W p l e R s m args below meth c H locs cells slots Q (F0 m (pc + 3) ls rest)) : W p l e R s m args below meth c H locs cells slots Q (F0 m pc ls (.int (iI x) :: rest)) :=
  lv_if_eq hexec hb hdg ht (fun h => kt ((iI_eq (b := 0) hx (by omega)).mp h)) (fun h => kf (fun q => h ((iI_eq (b := 0) hx (by omega)).mpr q)))
theorem lz_if_ne (hexec : p.tables.exec = Jvm.exec) (hb : c.code = cc) {x : Int} {off : Int} {tgt : Nat} (hdg : decode cc pc = .ok (.ifCond .ne off, 3)) (ht : (pc : Int) + off = (tgt : Int)) (hx : -2147483648 ≤ x ∧ x < 2147483648)
    (kt : x ≠ 0 → W p l e R s m args below meth c H locs cells slots Q (F0 m tgt ls rest)) (kf : x = 0 → W p l e R s m args below meth c H locs cells slots Q (F0 m (pc + 3) ls rest)) : W p l e R s m args below meth c H locs cells slots Q (F0 m pc ls (.int (iI x) :: rest)) :=
  lv_if_ne hexec hb hdg ht (fun h => kt (fun q => h ((iI_eq (b := 0) hx (by omega)).mpr q))) (fun h => kf ((iI_eq (b := 0) hx (by omega)).mp h))
theorem lz_if_lt (hexec : p.tables.exec = Jvm.exec) (hb : c.code = cc) {x : Int} {off : Int} {tgt : Nat} (hdg : decode cc pc = .ok (.ifCond .lt off, 3)) (ht : (pc : Int) + off = (tgt : Int)) (hx : -2147483648 ≤ x ∧ x < 2147483648)
    (kt : x < 0 → W p l e R s m args below meth c H locs cells slots Q (F0 m tgt ls rest)) (kf : 0 ≤ x → W p l e R s m args below meth c H locs cells slots Q (F0 m (pc + 3) ls rest)) : W p l e R s m args below meth c H locs cells slots Q (F0 m pc ls (.int (iI x) :: rest)) :=
  lv_if_lt hexec hb hdg ht (fun h => kt ((iI_lt (b := 0) hx (by omega)).mp h)) (fun h => kf (Int.not_lt.mp fun q => h ((iI_lt (b := 0) hx (by omega)).mpr q)))
theorem lz_if_ge (hexec : p.tables.exec = Jvm.exec) (hb : c.code = cc) {x : Int} {off : Int} {tgt : Nat} (hdg : decode cc pc = .ok (.ifCond .ge off, 3)) (ht : (pc : Int) + off = (tgt : Int)) (hx : -2147483648 ≤ x ∧ x < 2147483648)
    (kt : 0 ≤ x → W p l e R s m args below meth c H locs cells slots Q (F0 m tgt ls rest)) (kf : x < 0 → W p l e R s m args below meth c H locs cells slots Q (F0 m (pc + 3) ls rest)) : W p l e R s m args below meth c H locs cells slots Q (F0 m pc ls (.int (iI x) :: rest)) :=
  lv_if_ge hexec hb hdg ht (fun h => kt ((iI_le (a := 0) (by omega) hx).mp h)) (fun h => kf (Int.not_le.mp fun q => h ((iI_le (a := 0) (by omega) hx).mpr q)))
theorem lz_if_gt (hexec : p.tables.exec = Jvm.exec) (hb : c.code = cc) {x : Int} {off : Int} {tgt : Nat} (hdg : decode cc pc = .ok (.ifCond .gt off, 3)) (ht : (pc : Int) + off = (tgt : Int)) (hx : -2147483648 ≤ x ∧ x < 2147483648)
    (kt : 0 < x → W p l e R s m args below meth c H locs cells slots Q (F0 m tgt ls rest)) (kf : x ≤ 0 → W p l e R s m args below meth c H locs cells slots Q (F0 m (pc + 3) ls rest)) : W p l e R s m args below meth c H locs cells slots Q (F0 m pc ls (.int (iI x) :: rest)) :=
  lv_if_gt hexec hb hdg ht (fun h => kt ((iI_lt (a := 0) (by omega) hx).mp h)) (fun h => kf (Int.not_lt.mp fun q => h ((iI_lt (a := 0) (by omega) hx).mpr q)))
theorem lz_if_le (hexec : p.tables.exec = Jvm.exec) (hb : c.code = cc) {x : Int} {off : Int} {tgt : Nat} (hdg : decode cc pc = .ok (.ifCond .le off, 3)) (ht : (pc : Int) + off = (tgt : Int)) (hx : -2147483648 ≤ x ∧ x < 2147483648)
    (kt : x ≤ 0 → W p l e R s m args below meth c H locs cells slots Q (F0 m tgt ls rest)) (kf : 0 < x → W p l e R s m args below meth c H locs cells slots Q (F0 m (pc + 3) ls rest)) : W p l e R s m args below meth c H locs cells slots Q (F0 m pc ls (.int (iI x) :: rest)) :=
  lv_if_le hexec hb hdg ht (fun h => kt ((iI_le (b := 0) hx (by omega)).mp h)) (fun h => kf (Int.not_le.mp fun q => h ((iI_le (b := 0) hx (by omega)).mpr q)))
variable {D : va_G} {cl : List vw_C} {A : Nat → Prop} {a : Nat} {tys : List (ClassId × FieldType)} {ws : va_W} {H0 : Heap}
theorem lz_iald (hexec : p.tables.exec = Jvm.exec) (hb : c.code = cc) (hK : va_K D cl tys s) (hP : va_P D cl ws H) (q0 t0 : Nat) {cA : ClassId} {n : Nat} {f : Nat → Int} (ha : ws[q0]? = some (a, .inl (cA, n, .inl (zf f)))) (ht : tys[t0]? = some (cA, .int)) {z : Int} (hz : (0 ≤ z ∧ z < (n : Int)) ∧ z < 2147483648) (hdg : decode cc pc = .ok (.iaload, 1))
    (kk : W p l e R s m args below meth c H locs cells slots Q (F0 m (pc + 1) ls (.int (iI (f z.toNat)) :: rest))) : W p l e R s m args below meth c H locs cells slots Q (F0 m pc ls (.int (iI z) :: .ref a :: rest)) :=
  va_iald hexec hb hK hP q0 t0 ha ht (vp_in_iI hz.1 hz.2) hdg (by rw [iI_clamp ⟨hz.1.1, hz.2⟩]; exact kk)
theorem lz_iast (hexec : p.tables.exec = Jvm.exec) (hb : c.code = cc) (hK : va_K D cl tys s) (hP : va_P D cl ws H) (hD : va_D A ws) (hS : va_S A H0 H locs) (q0 t0 : Nat) {cA : ClassId} {n : Nat} {f : Nat → Int} (ha : ws[q0]? = some (a, .inl (cA, n, .inl (zf f)))) (ht : tys[t0]? = some (cA, .int)) {z v : Int} (hz : (0 ≤ z ∧ z < (n : Int)) ∧ z < 2147483648) (hdg : decode cc pc = .ok (.iastore, 1))
    (kk : ∀ (H1 : Heap) (locs1 : List Loc), va_P D cl (ws.set q0 (a, .inl (cA, n, .inl (zf (zu f z.toNat v))))) H1 → va_D A (ws.set q0 (a, .inl (cA, n, .inl (zf (zu f z.toNat v))))) → va_S A H0 H1 locs1 → W p l e R s m args below meth c H1 locs1 cells slots Q (F0 m (pc + 1) ls rest)) : W p l e R s m args below meth c H locs cells slots Q (F0 m pc ls (.int (iI v) :: .int (iI z) :: .ref a :: rest)) :=
  va_iast hexec hb hK hP hD hS q0 t0 ha ht (vp_in_iI hz.1 hz.2) hdg (by rw [iI_clamp ⟨hz.1.1, hz.2⟩, zf_upd]; exact kk)
theorem lz_alen (hexec : p.tables.exec = Jvm.exec) (hb : c.code = cc) (hK : va_K D cl tys s) (hP : va_P D cl ws H) (q0 t0 : Nat) {cA : ClassId} {x : vp_A} (ha : ws[q0]? = some (a, .inl (cA, x))) {ty : FieldType} (ht : tys[t0]? = some (cA, ty)) (hdg : decode cc pc = .ok (.arraylength, 1))
    (kk : W p l e R s m args below meth c H locs cells slots Q (F0 m (pc + 1) ls (.int (iI (x.1 : Int)) :: rest))) : W p l e R s m args below meth c H locs cells slots Q (F0 m pc ls (.ref a :: rest)) :=
  va_alen hexec hb hK hP q0 t0 ha ht (iI_nI x.1) hdg kk
theorem lz_newa (hexec : p.tables.exec = Jvm.exec) (hb : c.code = cc) (harr : (Cond.arrayClass .int).before args s = true) (hK : va_K D cl tys s) (hP : va_P D cl ws H) (hD : va_D A ws) (hS : va_S A H0 H locs) (hA : ∀ q, H0.size ≤ q → A q) (t0 : Nat) {cI : ClassId} (ht : tys[t0]? = some (cI, .int))
    {z : Int} {N : Nat} (hz : z = (N : Int)) (hN : N ≤ 100000) (hcells : cells + 1 ≤ R.cells) (hslots : slots + N ≤ R.slots) (hdg : decode cc pc = .ok (.newarray .int, 2))
    (kk : ∀ (q : Nat) (H1 : Heap), va_P D cl (ws ++ [(q, .inl (cI, N, .inl (zf fun _ => 0)))]) H1 → va_D A (ws ++ [(q, .inl (cI, N, .inl (zf fun _ => 0)))]) → va_S A H0 H1 locs →
      W p l e R s m args below meth c H1 locs (cells + 1) (slots + N) Q (F0 m (pc + 2) ls (.ref q :: rest))) : W p l e R s m args below meth c H locs cells slots Q (F0 m pc ls (.int (iI z) :: rest)) := by
  subst hz
  refine va_newa (atype := .int) hexec hb (ty := .int) (n := iI (N : Int)) (N' := N) (a0 := (N, .inl (zf fun _ => 0))) harr rfl hK hP hD hS hA (fun cA => congrArg (arrV cA N) (funext fun j => congrArg Value.int iI_0)) ?_ ?_ ?_ hcells hslots hdg (fun q cA H1 hK1 hP1 hD1 hS1 => ?_)
  · rw [← iI_0, iI_lt (by omega) (by omega)]; omega
  · rw [iI_clamp (by omega)]; omega
  · simp only [componentBytes]; omega
  · have e1 : s.vm.findClass ("[" ++ FieldType.int.toString) = some cA := (hK1.2 tys.length (cA, .int) (by simp)).2
    have e2 : s.vm.findClass ("[" ++ FieldType.int.toString) = some cI := (hK.2 t0 (cI, .int) ht).2
    have e3 : cA = cI := Option.some.inj (e1.symm.trans e2)
    subst e3
    exact kk q H1 hP1 hD1 hS1
theorem lz_as {x y : Int} (h : x = y) (k : W p l e R s m args below meth c H locs cells slots Q (F0 m pc ls (.int (iI y) :: rest))) : W p l e R s m args below meth c H locs cells slots Q (F0 m pc ls (.int (iI x) :: rest)) := by subst h; exact k
theorem lz_ishl (hexec : p.tables.exec = Jvm.exec) (hb : c.code = cc) {x y : Int32} {z : Int} (hdg : decode cc pc = .ok (.ishl, 1)) (hz : x <<< (y &&& 31) = iI z) (k : W p l e R s m args below meth c H locs cells slots Q (F0 m (pc + 1) ls (.int (iI z) :: rest))) : W p l e R s m args below meth c H locs cells slots Q (F0 m pc ls (.int y :: .int x :: rest)) :=
  lv_ishl hexec hb hdg (by rw [hz]; exact k)
theorem lz_iand (hexec : p.tables.exec = Jvm.exec) (hb : c.code = cc) {x y : Int32} {z : Int} (hdg : decode cc pc = .ok (.iand, 1)) (hz : x &&& y = iI z) (k : W p l e R s m args below meth c H locs cells slots Q (F0 m (pc + 1) ls (.int (iI z) :: rest))) : W p l e R s m args below meth c H locs cells slots Q (F0 m pc ls (.int y :: .int x :: rest)) :=
  lv_iand hexec hb hdg (by rw [hz]; exact k)
theorem lz_ior (hexec : p.tables.exec = Jvm.exec) (hb : c.code = cc) {x y : Int32} {z : Int} (hdg : decode cc pc = .ok (.ior, 1)) (hz : x ||| y = iI z) (k : W p l e R s m args below meth c H locs cells slots Q (F0 m (pc + 1) ls (.int (iI z) :: rest))) : W p l e R s m args below meth c H locs cells slots Q (F0 m pc ls (.int y :: .int x :: rest)) :=
  lv_ior hexec hb hdg (by rw [hz]; exact k)
end LZ
end
section
/-! Contracts of one form: what is there before, what is there behind; the statics that nobody writes go along. -/
def st_sorts : List Int := [2, 3, 4, 6, 1]
def st_rows : List Int := [0, 10000, 100000000, 1000, 100011000, 300000000, 100002000, 300013000, 102000000, 100000020, 102011020, 502000000, 102004000, 300002020, 502015020, 20000000, 20010200, 320000000, 20003000, 320013200, 120200000, 20001002, 120211202, 720200000, 120206000, 320004002, 720217202, 380000000, 380013800, 986000000, 380006060, 986019860]
def stT (xs : List Int) : Nat → Value := fun j => .int (iI (xs.getD j 0))
def stW (U : State) : Prop := va_Nw (.methodLinkNest nGH 28 yBE_init nGH) U ∧ va_Nw (.methodLinkNest nGR 54 yGH_classOf nGH) U ∧ va_Nw (.fieldLinkNest nBE 26 "GroupHalls" "SORTS" "[I" nGH) U
theorem stW.warm {s U : State} (hW : s.WarmedH U.vm) (h : stW s) : stW U := ⟨h.1.warmM hW, h.2.1.warmM hW, h.2.2.warmF hW⟩
theorem stW.same {s U : State} (hv : s.vm = U.vm) (h : stW s) : stW U := ⟨h.1.same rfl hv, h.2.1.same rfl hv, h.2.2.same rfl hv⟩
def stF (A : Nat → Prop) (U : State) (H : Heap) : Prop := ∃ tS tC : Nat, va_Z "GroupHalls" "SORTS" "[I" (.ref tS) A U H ∧ va_T .int tS 5 (stT st_sorts) A U H ∧ va_Z "GroupHalls" "CLASS_ROWS" "[I" (.ref tC) A U H ∧ va_T .int tC 32 (stT st_rows) A U H ∧ stW U
theorem stF.warm {A : Nat → Prop} {u U : State} {H : Heap} (hW : u.WarmedH U.vm) (h : stF A u H) : stF A U H := by
  obtain ⟨tS, tC, h1, h2, h3, h4, h5⟩ := h
  exact ⟨tS, tC, h1.moved hW.alike, h2.moved hW.alike, h3.moved hW.alike, h4.moved hW.alike, h5.warm hW⟩
theorem stF.same {A : Nat → Prop} {u U : State} {H : Heap} (hv : u.vm = U.vm) (h : stF A u H) : stF A U H := by
  have ha : u.vm.Alike U.vm := by rw [hv]; exact Vm.Alike.refl _
  obtain ⟨tS, tC, h1, h2, h3, h4, h5⟩ := h
  exact ⟨tS, tC, h1.moved ha, h2.moved ha, h3.moved ha, h4.moved ha, h5.same hv⟩
theorem stF.kept {A : Nat → Prop} {U : State} {H H1 : Heap} (h : stF A U H) (hq : ∀ a : Nat, a < H.size → ¬ A a → H1[a]? = H[a]?) : stF A U H1 := by
  obtain ⟨tS, tC, h1, h2, h3, h4, h5⟩ := h
  exact ⟨tS, tC, h1.kept hq, h2.kept hq, h3.kept hq, h4.kept hq, h5⟩
theorem stF.narrow {A B : Nat → Prop} {U : State} {H : Heap} (h : stF A U H) (hAB : ∀ q, B q → A q) : stF B U H := by
  obtain ⟨tS, tC, h1, h2, h3, h4, h5⟩ := h
  exact ⟨tS, tC, h1.narrow hAB, h2.narrow hAB, h3.narrow hAB, h4.narrow hAB, h5⟩
def zPre (D : va_G) (cl : List vw_C) (tys : List (ClassId × FieldType)) (wc : va_W) (sz : Nat) (U : State) : Prop := U.heap.size = sz ∧ va_P D cl wc U.heap ∧ va_K D cl tys U ∧ va_D (fun _ => True) wc ∧ stF (va_A wc sz) U U.heap
def zPost {S : Type} (D : va_G) (cl : List vw_C) (tys : List (ClassId × FieldType)) (A : Nat → Prop) (w1 : S → va_W) (u : S) (t : State) : Prop := va_P D cl (w1 u) t.heap ∧ va_D A (w1 u)
theorem zPre_blind {av : List Value} {D : va_G} {cl : List vw_C} {tys : List (ClassId × FieldType)} {wc : va_W} {sz : Nat} : FrameBlind (va_Pc av (zPre D cl tys wc sz)) := fun a U g mk q => by
  obtain ⟨q0, q1, qP, qK, qD, qX⟩ := q
  exact ⟨q0, q1, qP, va_K.moved (u := U) (U := U.calling g mk a) (Vm.Alike.refl U.vm) qK, qD, stF.same (u := U) (U := U.calling g mk a) rfl qX⟩
def zRd (D : va_G) (cl : List vw_C) (tys : List (ClassId × FieldType)) (wc : va_W) (U : State) : Prop := va_P D cl wc U.heap ∧ va_K D cl tys U ∧ stF (fun _ => False) U U.heap
theorem zRd_blind {av : List Value} {D : va_G} {cl : List vw_C} {tys : List (ClassId × FieldType)} {wc : va_W} : FrameBlind (va_Pc av (zRd D cl tys wc)) := fun a U g mk q => by
  obtain ⟨q0, qP, qK, qX⟩ := q
  exact ⟨q0, qP, va_K.moved (u := U) (U := U.calling g mk a) (Vm.Alike.refl U.vm) qK, stF.same (u := U) (U := U.calling g mk a) rfl qX⟩
/-- an int comes back; the cells wc become w1 -/
def zI (l : Launch) (y : MethodName) (ws : List Cond) (rm : Room) (D : va_G) (cl : List vw_C) (tys : List (ClassId × FieldType)) (av : List Value) (wc : va_W) {S : Type} (post : Int → S → Prop) (w1 : S → va_W) : Prop :=
  ∀ sz : Nat, Met l y ws rm (va_Pc av (zPre D cl tys wc sz)) (va_Qi (fun r u => ∃ z : Int, r = iI z ∧ post z u) (zPost D cl tys (va_A wc sz) w1) (va_A wc sz)) rm.cells rm.slots (va_A wc sz)
/-- nothing comes back; the cells wc become w1 -/
def zV (l : Launch) (y : MethodName) (ws : List Cond) (rm : Room) (D : va_G) (cl : List vw_C) (tys : List (ClassId × FieldType)) (av : List Value) (wc : va_W) {S : Type} (post : S → Prop) (w1 : S → va_W) : Prop :=
  ∀ sz : Nat, Met l y ws rm (va_Pc av (zPre D cl tys wc sz)) (va_Qv post (zPost D cl tys (va_A wc sz) w1) (va_A wc sz)) rm.cells rm.slots (va_A wc sz)
/-- a reference (or null) comes back; the cells wc become w1 -/
def zQ (l : Launch) (y : MethodName) (ws : List Cond) (rm : Room) (D : va_G) (cl : List vw_C) (tys : List (ClassId × FieldType)) (av : List Value) (wc : va_W) {S : Type} (post : Option Nat → S → Prop) (w1 : S → va_W) : Prop :=
  ∀ sz : Nat, Met l y ws rm (va_Pc av (zPre D cl tys wc sz)) (va_Qq post (zPost D cl tys (va_A wc sz) w1) (va_A wc sz)) rm.cells rm.slots (va_A wc sz)
/-- an int comes back; nothing changes -/
def zRI (l : Launch) (y : MethodName) (ws : List Cond) (rm : Room) (D : va_G) (cl : List vw_C) (tys : List (ClassId × FieldType)) (av : List Value) (wc : va_W) (post : Int → Prop) : Prop :=
  Met l y ws rm (va_Pc av (zRd D cl tys wc)) (vp_Si (fun r => ∃ z : Int, r = iI z ∧ post z)) 0 0 (fun _ => False)
/-- a reference (or null) comes back; nothing changes -/
def zRQ (l : Launch) (y : MethodName) (ws : List Cond) (rm : Room) (D : va_G) (cl : List vw_C) (tys : List (ClassId × FieldType)) (av : List Value) (wc : va_W) (post : Option Nat → Prop) : Prop :=
  Met l y ws rm (va_Pc av (zRd D cl tys wc)) (va_Sq post) 0 0 (fun _ => False)
section ZOF
variable {l : Launch} {y : MethodName} {ws ws' : List Cond} {rm : Room} {D : va_G} {cl : List vw_C} {tys : List (ClassId × FieldType)} {av : List Value} {wc : va_W} {S : Type} {cc : ByteArray} {maxL : Nat}
theorem zI.of {post : Int → S → Prop} {w1 : S → va_W} {rt : FieldType} (hy : plainName y.cls = true) (hw : ws = Cond.code y cc maxL (some rt) :: ws') (hlen : (lg_sl av).length ≤ maxL) (hnar : ∀ z u, post z u → narrow rt (.int (iI z)) = .int (iI z))
    (body : ∀ (p : Program) (e : Env) (s : State) (m : MethodId) (args : Array Value) (below : List Frame) (meth : Method) (c : Code) (A : Nat → Prop) (ls : Array Slot) (Q : State → Prop), p.tables.exec = Jvm.exec → c.code = cc → c.maxLocals = maxL → s.vm.findClass y.cls = some m.cls → (∀ w ∈ ws, w.before args s = true) → meth.name = y.name → va_K D cl tys s → va_D A wc → (∀ q, s.heap.size ≤ q → A q) → A = va_A wc s.heap.size → stF A s s.heap → lv_has ls maxL (lv_args 0 av) →
      (∀ (H : Heap) (locs : List Loc) (cells slots pc : Nat) (ls : Array Slot) (z : Int) (u : S), post z u → va_P D cl (w1 u) H → va_D A (w1 u) → va_S A s.heap H locs → cells ≤ rm.cells → slots ≤ rm.slots → decode cc pc = .ok (.ireturn, 1) → W p l e (headSpec ws rm).room s m args below meth c H locs cells slots Q (F0 m pc ls [.int (iI z)])) →
      ∀ (H : Heap) (locs : List Loc), va_P D cl wc H → va_S A s.heap H locs → W p l e (headSpec ws rm).room s m args below meth c H locs 0 0 Q (F0 m 0 ls [])) : zI l y ws rm D cl tys av wc post w1 := by
  intro sz
  refine Met.ofW (cc := cc) (maxL := maxL) (ret := some rt) hy hw ?_
  intro p e s m args below meth c s₁ B hml hv
  obtain ⟨hav, hsz, hP, hK, hD0, hX⟩ := hv
  have hx := B.exec
  have hb := B.bytes
  have hr := B.returns
  have hts := atoms_spec (ws := ws) B.pre
  have hown : s.vm.findClass y.cls = some m.cls := findClass_of_methodNamed B.named
  have hlocks := B.notSynchronized
  have hnm : meth.name = y.name := (name_of_methodNamed B.named B.method).1
  subst hsz
  have hl := lv_entry av (n := maxL) hlen
  rw [show entryFrame m args maxL = F0 m 0 ((lg_sl av ++ List.replicate (maxL - (lg_sl av).length) Slot.unset).toArray) [] by rw [hav]; exact lg_entry_eq m av maxL]
  refine body p e s m args below meth c _ _ _ hx hb hml hown hts hnm hK (hD0.self (sz := s.heap.size)) (fun q h => Or.inr h) rfl hX hl ?_ s.heap [] hP va_S.rf
  intro H locs cells slots pc ls z u hpost hP1 hD1 hS hc hs hdg
  refine W.widen hc hs ?_
  exact W.zret (v := iI z) hx hb hr (hnar z u hpost) (fun t ht hW => ⟨⟨iI z, u, rfl, ⟨z, rfl, hpost⟩, by rw [ht]; exact hP1, hD1⟩, hS.F ht⟩) hS.2.2 hdg
theorem zV.of {post : S → Prop} {w1 : S → va_W} (hy : plainName y.cls = true) (hw : ws = Cond.code y cc maxL none :: ws') (hlen : (lg_sl av).length ≤ maxL)
    (body : ∀ (p : Program) (e : Env) (s : State) (m : MethodId) (args : Array Value) (below : List Frame) (meth : Method) (c : Code) (A : Nat → Prop) (ls : Array Slot) (Q : State → Prop), p.tables.exec = Jvm.exec → c.code = cc → c.maxLocals = maxL → s.vm.findClass y.cls = some m.cls → (∀ w ∈ ws, w.before args s = true) → meth.name = y.name → va_K D cl tys s → va_D A wc → (∀ q, s.heap.size ≤ q → A q) → A = va_A wc s.heap.size → stF A s s.heap → lv_has ls maxL (lv_args 0 av) →
      (∀ (H : Heap) (locs : List Loc) (cells slots pc : Nat) (ls : Array Slot) (u : S), post u → va_P D cl (w1 u) H → va_D A (w1 u) → va_S A s.heap H locs → cells ≤ rm.cells → slots ≤ rm.slots → decode cc pc = .ok (.return_, 1) → W p l e (headSpec ws rm).room s m args below meth c H locs cells slots Q (F0 m pc ls [])) →
      ∀ (H : Heap) (locs : List Loc), va_P D cl wc H → va_S A s.heap H locs → W p l e (headSpec ws rm).room s m args below meth c H locs 0 0 Q (F0 m 0 ls [])) : zV l y ws rm D cl tys av wc post w1 := by
  intro sz
  refine Met.ofW (cc := cc) (maxL := maxL) (ret := none) hy hw ?_
  intro p e s m args below meth c s₁ B hml hv
  obtain ⟨hav, hsz, hP, hK, hD0, hX⟩ := hv
  have hx := B.exec
  have hb := B.bytes
  have hr := B.returns
  have hts := atoms_spec (ws := ws) B.pre
  have hown : s.vm.findClass y.cls = some m.cls := findClass_of_methodNamed B.named
  have hlocks := B.notSynchronized
  have hnm : meth.name = y.name := (name_of_methodNamed B.named B.method).1
  subst hsz
  have hl := lv_entry av (n := maxL) hlen
  rw [show entryFrame m args maxL = F0 m 0 ((lg_sl av ++ List.replicate (maxL - (lg_sl av).length) Slot.unset).toArray) [] by rw [hav]; exact lg_entry_eq m av maxL]
  refine body p e s m args below meth c _ _ _ hx hb hml hown hts hnm hK (hD0.self (sz := s.heap.size)) (fun q h => Or.inr h) rfl hX hl ?_ s.heap [] hP va_S.rf
  intro H locs cells slots pc ls u hpost hP1 hD1 hS hc hs hdg
  refine W.widen hc hs ?_
  exact W.vret hx hb hr (fun t ht hW => ⟨⟨u, rfl, hpost, by rw [ht]; exact hP1, hD1⟩, hS.F ht⟩) hS.2.2 hdg
theorem zQ.of {post : Option Nat → S → Prop} {w1 : S → va_W} {rt : FieldType} (hy : plainName y.cls = true) (hw : ws = Cond.code y cc maxL (some rt) :: ws') (hlen : (lg_sl av).length ≤ maxL) (hrt : (∃ n, rt = .object n) ∨ ∃ t, rt = .array t)
    (body : ∀ (p : Program) (e : Env) (s : State) (m : MethodId) (args : Array Value) (below : List Frame) (meth : Method) (c : Code) (A : Nat → Prop) (ls : Array Slot) (Q : State → Prop), p.tables.exec = Jvm.exec → c.code = cc → c.maxLocals = maxL → s.vm.findClass y.cls = some m.cls → (∀ w ∈ ws, w.before args s = true) → meth.name = y.name → va_K D cl tys s → va_D A wc → (∀ q, s.heap.size ≤ q → A q) → A = va_A wc s.heap.size → stF A s s.heap → lv_has ls maxL (lv_args 0 av) →
      (∀ (H : Heap) (locs : List Loc) (cells slots pc : Nat) (ls : Array Slot) (r : Option Nat) (u : S), post r u → va_P D cl (w1 u) H → va_D A (w1 u) → va_S A s.heap H locs → cells ≤ rm.cells → slots ≤ rm.slots → decode cc pc = .ok (.areturn, 1) → W p l e (headSpec ws rm).room s m args below meth c H locs cells slots Q (F0 m pc ls [va_rf r])) →
      ∀ (H : Heap) (locs : List Loc), va_P D cl wc H → va_S A s.heap H locs → W p l e (headSpec ws rm).room s m args below meth c H locs 0 0 Q (F0 m 0 ls [])) : zQ l y ws rm D cl tys av wc post w1 := by
  intro sz
  refine Met.ofW (cc := cc) (maxL := maxL) (ret := some rt) hy hw ?_
  intro p e s m args below meth c s₁ B hml hv
  obtain ⟨hav, hsz, hP, hK, hD0, hX⟩ := hv
  have hx := B.exec
  have hb := B.bytes
  have hr := B.returns
  have hts := atoms_spec (ws := ws) B.pre
  have hown : s.vm.findClass y.cls = some m.cls := findClass_of_methodNamed B.named
  have hlocks := B.notSynchronized
  have hnm : meth.name = y.name := (name_of_methodNamed B.named B.method).1
  subst hsz
  have hl := lv_entry av (n := maxL) hlen
  rw [show entryFrame m args maxL = F0 m 0 ((lg_sl av ++ List.replicate (maxL - (lg_sl av).length) Slot.unset).toArray) [] by rw [hav]; exact lg_entry_eq m av maxL]
  refine body p e s m args below meth c _ _ _ hx hb hml hown hts hnm hK (hD0.self (sz := s.heap.size)) (fun q h => Or.inr h) rfl hX hl ?_ s.heap [] hP va_S.rf
  intro H locs cells slots pc ls r u hpost hP1 hD1 hS hc hs hdg
  refine W.widen hc hs ?_
  exact W.aret (v := va_rf r) hx hb hr hrt (by cases r with | none => exact Or.inl rfl | some a => exact Or.inr ⟨a, rfl⟩) (fun t ht hW => ⟨⟨r, u, rfl, hpost, by rw [ht]; exact hP1, hD1⟩, hS.F ht⟩) hS.2.2 hdg
theorem zRI.of {post : Int → Prop} {rt : FieldType} (hy : plainName y.cls = true) (hw : ws = Cond.code y cc maxL (some rt) :: ws') (hlen : (lg_sl av).length ≤ maxL) (hnar : ∀ z, post z → narrow rt (.int (iI z)) = .int (iI z))
    (body : ∀ (p : Program) (e : Env) (s : State) (m : MethodId) (args : Array Value) (below : List Frame) (meth : Method) (c : Code) (ls : Array Slot) (Q : State → Prop), p.tables.exec = Jvm.exec → c.code = cc → c.maxLocals = maxL → s.vm.findClass y.cls = some m.cls → (∀ w ∈ ws, w.before args s = true) → va_K D cl tys s → va_P D cl wc s.heap → stF (fun _ => False) s s.heap → lv_has ls maxL (lv_args 0 av) →
      (∀ (pc : Nat) (ls : Array Slot) (z : Int), post z → decode cc pc = .ok (.ireturn, 1) → W p l e (headSpec ws rm).room s m args below meth c s.heap [] 0 0 Q (F0 m pc ls [.int (iI z)])) →
      W p l e (headSpec ws rm).room s m args below meth c s.heap [] 0 0 Q (F0 m 0 ls [])) : zRI l y ws rm D cl tys av wc post := by
  refine Met.ofW (cc := cc) (maxL := maxL) (ret := some rt) hy hw ?_
  intro p e s m args below meth c s₁ B hml hv
  obtain ⟨hav, hP, hK, hX⟩ := hv
  have hx := B.exec
  have hb := B.bytes
  have hr := B.returns
  have hts := atoms_spec (ws := ws) B.pre
  have hown : s.vm.findClass y.cls = some m.cls := findClass_of_methodNamed B.named
  have hlocks := B.notSynchronized
  have hl := lv_entry av (n := maxL) hlen
  rw [show entryFrame m args maxL = F0 m 0 ((lg_sl av ++ List.replicate (maxL - (lg_sl av).length) Slot.unset).toArray) [] by rw [hav]; exact lg_entry_eq m av maxL]
  refine body p e s m args below meth c _ _ hx hb hml hown hts hK hP hX hl ?_
  intro pc ls z hpost hdg
  exact W.zret (v := iI z) hx hb hr (hnar z hpost) (fun t ht hW => ⟨iI z, rfl, ⟨z, rfl, hpost⟩, ht⟩) (fun _ h => by cases h) hdg
theorem zRQ.of {post : Option Nat → Prop} {rt : FieldType} (hy : plainName y.cls = true) (hw : ws = Cond.code y cc maxL (some rt) :: ws') (hlen : (lg_sl av).length ≤ maxL) (hrt : (∃ n, rt = .object n) ∨ ∃ t, rt = .array t)
    (body : ∀ (p : Program) (e : Env) (s : State) (m : MethodId) (args : Array Value) (below : List Frame) (meth : Method) (c : Code) (ls : Array Slot) (Q : State → Prop), p.tables.exec = Jvm.exec → c.code = cc → c.maxLocals = maxL → s.vm.findClass y.cls = some m.cls → (∀ w ∈ ws, w.before args s = true) → va_K D cl tys s → va_P D cl wc s.heap → stF (fun _ => False) s s.heap → lv_has ls maxL (lv_args 0 av) →
      (∀ (pc : Nat) (ls : Array Slot) (r : Option Nat), post r → decode cc pc = .ok (.areturn, 1) → W p l e (headSpec ws rm).room s m args below meth c s.heap [] 0 0 Q (F0 m pc ls [va_rf r])) →
      W p l e (headSpec ws rm).room s m args below meth c s.heap [] 0 0 Q (F0 m 0 ls [])) : zRQ l y ws rm D cl tys av wc post := by
  refine Met.ofW (cc := cc) (maxL := maxL) (ret := some rt) hy hw ?_
  intro p e s m args below meth c s₁ B hml hv
  obtain ⟨hav, hP, hK, hX⟩ := hv
  have hx := B.exec
  have hb := B.bytes
  have hr := B.returns
  have hts := atoms_spec (ws := ws) B.pre
  have hown : s.vm.findClass y.cls = some m.cls := findClass_of_methodNamed B.named
  have hlocks := B.notSynchronized
  have hl := lv_entry av (n := maxL) hlen
  rw [show entryFrame m args maxL = F0 m 0 ((lg_sl av ++ List.replicate (maxL - (lg_sl av).length) Slot.unset).toArray) [] by rw [hav]; exact lg_entry_eq m av maxL]
  refine body p e s m args below meth c _ _ hx hb hml hown hts hK hP hX hl ?_
  intro pc ls r hpost hdg
  exact W.aret (v := va_rf r) hx hb hr hrt (by cases r with | none => exact Or.inl rfl | some a => exact Or.inr ⟨a, rfl⟩) (fun t ht hW => ⟨r, rfl, hpost, ht⟩) (fun _ h => by cases h) hdg
end ZOF
section ZCALL
variable {p : Program} {l : Launch} {e : Env} {R : Room} {s : State} {m : MethodId} {args : Array Value} {below : List Frame} {meth : Method} {c : Code} {H H0 : Heap} {locs : List Loc} {cells slots : Nat} {Q : State → Prop}
variable {pc : Nat} {ls : Array Slot} {rest st0 : List Value} {A : Nat → Prop} {D : va_G} {cl : List vw_C} {tys : List (ClassId × FieldType)} {W0 wc wr : va_W} {av : List Value} {a : Array Value} {mc ms : Nat}
/-- the callee's start, out of the caller's world -/
theorem zPre.at (hK : va_K D cl tys s) (hP : va_P D cl W0 H) (hD : va_D A W0) (hS : va_S A s.heap H locs) (hA : ∀ q, s.heap.size ≤ q → A q) (hX : stF A s s.heap) (isC : List Nat) (hn : va_nd isC = true) (hC : isC.map (fun i => W0[i]?) = wc.map some) : ∀ U : State, U.heap = H → s.WarmedH U.vm → va_Pc av (zPre D cl tys wc H.size) av.toArray U := by
  intro U hU hW
  have hF := va_free hD hS hA isC hC
  have hDc := (hD.sub (ws' := wc) isC hn hC).weaken (B := fun _ => True) (fun _ _ _ _ => trivial)
  have hPc : va_P D cl wc H := by
    intro k q hk
    have h1 : (wc.map some)[k]? = some (some q) := by simp [hk]
    rw [← hC] at h1
    obtain ⟨i, hi, h2⟩ : ∃ i, isC[k]? = some i ∧ W0[i]? = some q := by
      rw [List.getElem?_map] at h1
      cases h3 : isC[k]? with
      | none => rw [h3] at h1; cases h1
      | some i => rw [h3] at h1; exact ⟨i, rfl, Option.some.inj h1⟩
    exact hP i q h2
  refine ⟨rfl, by rw [hU], by rw [hU]; exact hPc, va_K.moved hW.alike hK, hDc, ?_⟩
  rw [hU]
  exact ((hX.kept (H1 := H) (fun q h1 h2 => hS.2.1 q h1 h2)).narrow hF).warm hW
theorem zRd.at (hK : va_K D cl tys s) (hPc : va_P D cl wc H) (hX : stF (fun _ => False) s H) : ∀ U : State, U.heap = H → s.WarmedH U.vm → va_Pc av (zRd D cl tys wc) av.toArray U := by
  intro U hU hW
  exact ⟨rfl, by rw [hU]; exact hPc, va_K.moved hW.alike hK, by rw [hU]; exact hX.warm hW⟩
theorem stF.now (hX : stF A s s.heap) (hS : va_S A s.heap H locs) : stF (fun _ => False) s H := (hX.kept (H1 := H) (fun q h1 h2 => hS.2.1 q h1 h2)).narrow (fun _ h => h.elim)
/-- behind a call that gives an int -/
theorem zI.back {S : Type} {post : Int → S → Prop} {w1 : S → va_W} (hr : va_Run p l e R s m args below meth c H locs cells slots mc ms (F0 m pc ls st0) rest (va_Qi (fun r u => ∃ z : Int, r = iI z ∧ post z u) (zPost D cl tys (va_A wc H.size) w1) (va_A wc H.size) a) (va_A wc H.size))
    (hP : va_P D cl W0 H) (hD : va_D A W0) (hS : va_S A H0 H locs) (hA : ∀ q, H0.size ≤ q → A q) (isC isR : List Nat) (hC : isC.map (fun i => W0[i]?) = wc.map some) (hR : isR.map (fun i => W0[i]?) = wr.map some) (hn : va_nd isR = true) (hdis : ∀ i ∈ isR, i ∉ isC)
    (kk : ∀ (z : Int) (u : S) (H1 : Heap) (locs1 : List Loc), post z u → va_P D cl (wr ++ w1 u) H1 → va_D A (wr ++ w1 u) → va_S A H0 H1 locs1 → H.size ≤ H1.size → (∀ q : Nat, q < H.size → ¬ va_A wc H.size q → H1[q]? = H[q]?) → W p l e R s m args below meth c H1 locs1 (cells + mc) (slots + ms) Q (F0 m (pc + 3) ls (.int (iI z) :: rest))) : W p l e R s m args below meth c H locs cells slots Q (F0 m pc ls st0) := by
  have hF := va_free hD hS hA isC hC
  refine va_calli hr hS (fun q _ h => hF q h) hF (fun r u t H1 locs1 ht hvm hw hB hz1 hk1 hS1 => ?_)
  obtain ⟨z, rfl, hp⟩ := hw
  obtain ⟨hP1, hD1⟩ := hB
  rw [ht] at hP1
  obtain ⟨hP2, hD2⟩ := va_join hP hD isC isR hC hR hn hdis hk1 hF hP1 hD1
  exact kk z u H1 locs1 hp hP2 hD2 hS1 hz1 hk1
theorem zV.back {S : Type} {post : S → Prop} {w1 : S → va_W} (hr : va_Run p l e R s m args below meth c H locs cells slots mc ms (F0 m pc ls st0) rest (va_Qv post (zPost D cl tys (va_A wc H.size) w1) (va_A wc H.size) a) (va_A wc H.size))
    (hP : va_P D cl W0 H) (hD : va_D A W0) (hS : va_S A H0 H locs) (hA : ∀ q, H0.size ≤ q → A q) (isC isR : List Nat) (hC : isC.map (fun i => W0[i]?) = wc.map some) (hR : isR.map (fun i => W0[i]?) = wr.map some) (hn : va_nd isR = true) (hdis : ∀ i ∈ isR, i ∉ isC)
    (kk : ∀ (u : S) (H1 : Heap) (locs1 : List Loc), post u → va_P D cl (wr ++ w1 u) H1 → va_D A (wr ++ w1 u) → va_S A H0 H1 locs1 → H.size ≤ H1.size → (∀ q : Nat, q < H.size → ¬ va_A wc H.size q → H1[q]? = H[q]?) → W p l e R s m args below meth c H1 locs1 (cells + mc) (slots + ms) Q (F0 m (pc + 3) ls rest)) : W p l e R s m args below meth c H locs cells slots Q (F0 m pc ls st0) := by
  have hF := va_free hD hS hA isC hC
  refine va_callv hr hS (fun q _ h => hF q h) hF (fun u t H1 locs1 ht hvm hw hB hz1 hk1 hS1 => ?_)
  obtain ⟨hP1, hD1⟩ := hB
  rw [ht] at hP1
  obtain ⟨hP2, hD2⟩ := va_join hP hD isC isR hC hR hn hdis hk1 hF hP1 hD1
  exact kk u H1 locs1 hw hP2 hD2 hS1 hz1 hk1
theorem zQ.back {S : Type} {post : Option Nat → S → Prop} {w1 : S → va_W} (hr : va_Run p l e R s m args below meth c H locs cells slots mc ms (F0 m pc ls st0) rest (va_Qq post (zPost D cl tys (va_A wc H.size) w1) (va_A wc H.size) a) (va_A wc H.size))
    (hP : va_P D cl W0 H) (hD : va_D A W0) (hS : va_S A H0 H locs) (hA : ∀ q, H0.size ≤ q → A q) (isC isR : List Nat) (hC : isC.map (fun i => W0[i]?) = wc.map some) (hR : isR.map (fun i => W0[i]?) = wr.map some) (hn : va_nd isR = true) (hdis : ∀ i ∈ isR, i ∉ isC)
    (kk : ∀ (r : Option Nat) (u : S) (H1 : Heap) (locs1 : List Loc), post r u → va_P D cl (wr ++ w1 u) H1 → va_D A (wr ++ w1 u) → va_S A H0 H1 locs1 → H.size ≤ H1.size → (∀ q : Nat, q < H.size → ¬ va_A wc H.size q → H1[q]? = H[q]?) → W p l e R s m args below meth c H1 locs1 (cells + mc) (slots + ms) Q (F0 m (pc + 3) ls (va_rf r :: rest))) : W p l e R s m args below meth c H locs cells slots Q (F0 m pc ls st0) := by
  have hF := va_free hD hS hA isC hC
  refine va_callq hr hS (fun q _ h => hF q h) hF (fun r u t H1 locs1 ht hvm hw hB hz1 hk1 hS1 => ?_)
  obtain ⟨hP1, hD1⟩ := hB
  rw [ht] at hP1
  obtain ⟨hP2, hD2⟩ := va_join hP hD isC isR hC hR hn hdis hk1 hF hP1 hD1
  exact kk r u H1 locs1 hw hP2 hD2 hS1 hz1 hk1
/-- behind a reading call that gives an int -/
theorem zRI.back {post : Int → Prop} (hr : CallRun p l e R s m args below meth c H locs cells slots 0 0 (F0 m pc ls st0) rest (vp_Si (fun r => ∃ z : Int, r = iI z ∧ post z) a) (fun _ => False))
    (kk : ∀ z : Int, post z → W p l e R s m args below meth c H locs cells slots Q (F0 m (pc + 3) ls (.int (iI z) :: rest))) : W p l e R s m args below meth c H locs cells slots Q (F0 m pc ls st0) :=
  vp_callSi hr (fun r h => by obtain ⟨z, rfl, hp⟩ := h; exact kk z hp)
theorem zRQ.back {post : Option Nat → Prop} (hr : CallRun p l e R s m args below meth c H locs cells slots 0 0 (F0 m pc ls st0) rest (va_Sq post a) (fun _ => False))
    (kk : ∀ r : Option Nat, post r → W p l e R s m args below meth c H locs cells slots Q (F0 m (pc + 3) ls (va_rf r :: rest))) : W p l e R s m args below meth c H locs cells slots Q (F0 m pc ls st0) := va_csq hr kk
end ZCALL
end
section
/-! Worlds as bags of cells: any order, a part and the rest. -/
theorem zP_iff {D : va_G} {cl : List vw_C} {ws : va_W} {H : Heap} : va_P D cl ws H ↔ ∀ q ∈ ws, va_at D cl q H := by
  constructor
  · intro h q hq
    obtain ⟨k, hk⟩ := List.getElem?_of_mem hq
    exact h k q hk
  · intro h k q hk
    exact h q (List.mem_of_getElem? hk)
theorem zP_mem {D : va_G} {cl : List vw_C} {ws ws' : va_W} {H : Heap} (h : va_P D cl ws H) (hs : ∀ q ∈ ws', q ∈ ws) : va_P D cl ws' H := zP_iff.mpr fun q hq => zP_iff.mp h q (hs q hq)
theorem zD_iff {A : Nat → Prop} {ws : va_W} : va_D A ws ↔ (ws.map (fun q => q.1)).Nodup ∧ ∀ q ∈ ws, A q.1 := by
  constructor
  · rintro ⟨h1, h2⟩
    refine ⟨?_, fun q hq => ?_⟩
    · rw [List.nodup_iff_pairwise_ne, List.pairwise_iff_getElem]
      intro i j hi hj hij hE
      rw [List.length_map] at hi hj
      rw [List.getElem_map, List.getElem_map] at hE
      have := h1 i j _ _ (List.getElem?_eq_getElem hi) (List.getElem?_eq_getElem hj) hE
      omega
    · obtain ⟨k, hk⟩ := List.getElem?_of_mem hq
      exact h2 k q hk
  · rintro ⟨h1, h2⟩
    refine ⟨fun i j p q hi hj hE => ?_, fun k q hk => h2 q (List.mem_of_getElem? hk)⟩
    rw [List.nodup_iff_pairwise_ne, List.pairwise_iff_getElem] at h1
    obtain ⟨li, ei⟩ := List.getElem?_eq_some_iff.mp hi
    obtain ⟨lj, ej⟩ := List.getElem?_eq_some_iff.mp hj
    rcases Nat.lt_trichotomy i j with h | h | h
    · refine absurd ?_ (h1 i j (by rw [List.length_map]; exact li) (by rw [List.length_map]; exact lj) h)
      rw [List.getElem_map, List.getElem_map, ei, ej, hE]
    · exact h
    · refine absurd ?_ (h1 j i (by rw [List.length_map]; exact lj) (by rw [List.length_map]; exact li) h)
      rw [List.getElem_map, List.getElem_map, ei, ej, hE]
theorem zD_perm {A : Nat → Prop} {ws ws' : va_W} (hp : ws.Perm ws') (h : va_D A ws) : va_D A ws' := by
  rw [zD_iff] at h ⊢
  exact ⟨((hp.map _).nodup_iff).mp h.1, fun q hq => h.2 q (hp.mem_iff.mpr hq)⟩
theorem zP_perm {D : va_G} {cl : List vw_C} {ws ws' : va_W} {H : Heap} (hp : ws.Perm ws') (h : va_P D cl ws H) : va_P D cl ws' H := zP_mem h fun q hq => hp.mem_iff.mpr hq
theorem zA_iff {ws : va_W} {sz q : Nat} : va_A ws sz q ↔ q ∈ ws.map (fun c => c.1) ∨ sz ≤ q := by
  constructor
  · rintro (⟨k, e, h⟩ | h)
    · exact Or.inl (List.mem_map.mpr ⟨(q, e), List.mem_of_getElem? h, rfl⟩)
    · exact Or.inr h
  · rintro (h | h)
    · obtain ⟨⟨a, e⟩, h1, rfl⟩ := List.mem_map.mp h
      obtain ⟨k, hk⟩ := List.getElem?_of_mem h1
      exact Or.inl ⟨k, e, hk⟩
    · exact Or.inr h
theorem zA_perm {ws ws' : va_W} (hp : ws.Perm ws') (sz : Nat) : va_A ws sz = va_A ws' sz := by
  funext q
  exact propext (by rw [zA_iff, zA_iff, (hp.map _).mem_iff])
/-- the part becomes w1, the rest stays -/
theorem zframe {A : Nat → Prop} {D : va_G} {cl : List vw_C} {wc wr w1 : va_W} {H H1 : Heap} (hP : va_P D cl (wc ++ wr) H) (hD : va_D A (wc ++ wr)) (hk : ∀ q : Nat, q < H.size → ¬ va_A wc H.size q → H1[q]? = H[q]?) (hF : ∀ q, va_A wc H.size q → A q) (hP1 : va_P D cl w1 H1) (hD1 : va_D (va_A wc H.size) w1) : va_P D cl (w1 ++ wr) H1 ∧ va_D A (w1 ++ wr) := by
  rw [zP_iff] at hP hP1
  rw [zD_iff] at hD hD1
  have hno : ∀ q ∈ wr, ¬ va_A wc H.size q.1 := by
    intro q hq hA
    rw [zA_iff] at hA
    rcases hA with h | h
    · rw [List.map_append, List.nodup_append] at hD
      exact hD.1.2.2 _ h _ (List.mem_map.mpr ⟨q, hq, rfl⟩) rfl
    · have := (hP q (List.mem_append_right _ hq)).lt
      omega
  constructor
  · rw [zP_iff]
    intro q hq
    rcases List.mem_append.mp hq with h | h
    · exact hP1 q h
    · exact (hP q (List.mem_append_right _ h)).kept (hk q.1 (hP q (List.mem_append_right _ h)).lt (hno q h))
  · rw [zD_iff]
    refine ⟨?_, fun q hq => ?_⟩
    · rw [List.map_append, List.nodup_append] at hD ⊢
      refine ⟨hD1.1, hD.1.2.1, ?_⟩
      intro a ha b hb hab
      obtain ⟨x, hx, rfl⟩ := List.mem_map.mp ha
      obtain ⟨y, hy, rfl⟩ := List.mem_map.mp hb
      have h1 := hD1.2 x hx
      rw [hab] at h1
      exact hno y hy h1
    · rcases List.mem_append.mp hq with h | h
      · exact hF _ (hD1.2 q h)
      · exact hD.2 q (List.mem_append_right _ h)
end
section
/-! more rows over integers -/
theorem kcJO_init : Cond.code objectInit ⟨#[0xb1]⟩ 1 none ∈ TW := twm (by decide +kernel) (by decide +kernel)
abbrev zT (cI cG : ClassId) : List (ClassId × FieldType) := [(cI, .int), (cG, .object "GroupHalls$Group")]
theorem iI_ushr1 {s : Int} (h : 0 ≤ s ∧ s < 2147483648) : ((iI s).toUInt32 >>> ((iI 1).toUInt32 &&& Int32.toUInt32 31)).toInt32 = iI (s / 2) := by
  obtain ⟨n, rfl⟩ := Int.eq_ofNat_of_zero_le h.1
  have e := pk_ushrN (n := n) (by omega) (iI 1) 1 (by decide)
  rw [iI_nI, iI_nI] at e
  rw [e]
  congr 1
section LZ2
variable {p : Program} {l : Launch} {e : Env} {R : Room} {s : State} {m : MethodId} {args : Array Value} {below : List Frame} {meth : Method} {c : Code} {H : Heap} {locs : List Loc} {cells slots : Nat} {Q : State → Prop}
variable {cc : ByteArray} {pc : Nat} {ls : Array Slot} {rest : List Value} {A : Nat → Prop}
theorem lz_ldc (hexec : p.tables.exec = Jvm.exec) (hb : c.code = cc) {own : String} {index : Nat} {v : Int32} {z : Int} (hown : s.vm.findClass own = some m.cls) (hconst : (Jvm.Cond.constant own index v).before args s = true) (hv : v = iI z) (hdg : decode cc pc = .ok (.ldc index, 2)) (k : W p l e R s m args below meth c H locs cells slots Q (F0 m (pc + 2) ls (.int (iI z) :: rest))) : W p l e R s m args below meth c H locs cells slots Q (F0 m pc ls rest) := by
  subst hv
  exact lv_ldc hexec hb hown hconst hdg k
theorem lz_max (hexec : p.tables.exec = Jvm.exec) (hb : c.code = cc) (hml : c.maxLocals = ls.size) {own : String} {index : Nat} (hown : s.vm.findClass own = some m.cls) (hlink : (Cond.methodLink own index Lib.Math.max.name).before args s = true) (hstat : (Cond.static Lib.Math.max.name).before args s = true) (hini : (Cond.initialized "java/lang/Math").before args s = true) (hcode : (Cond.code Lib.Math.max.name Lib.Math.max.code 2 (some .int)).before args s = true)
    (hframes : 1 ≤ R.frames) (hlocals : (rest.map fun v => v.category).sum + 13 ≤ R.locals) (hc : cells ≤ R.cells) (hs : slots ≤ R.slots) {x y z : Int} (hx : -2147483648 ≤ x ∧ x < 2147483648) (hy : -2147483648 ≤ y ∧ y < 2147483648) (hz : (if x < y then y else x) = z) (hdg : decode cc pc = .ok (.invokestatic index, 3))
    (kk : W p l e R s m args below meth c H locs cells slots Q (F0 m (pc + 3) ls (.int (iI z) :: rest))) : W p l e R s m args below meth c H locs cells slots Q (F0 m pc ls (.int (iI y) :: .int (iI x) :: rest)) := by
  refine va_mmax hexec hb hml hown hlink hstat hini hcode hframes hlocals hc hs hdg ?_
  have e : (if iI x < iI y then iI y else iI x) = iI z := by
    rw [← hz]
    by_cases h : x < y
    · rw [if_pos h, if_pos ((iI_lt hx hy).mpr h)]
    · rw [if_neg h, if_neg (fun q => h ((iI_lt hx hy).mp q))]
  rw [e]
  exact kk
/-- a static table of ints is read -/
theorem lz_tab (hexec : p.tables.exec = Jvm.exec) (hb : c.code = cc) {t N : Nat} {xs : List Int} (hT : va_T .int t N (stT xs) A s s.heap) (hS : va_S A s.heap H locs) {z : Int} (hz : (0 ≤ z ∧ z < (N : Int)) ∧ z < 2147483648) (hdg : decode cc pc = .ok (.iaload, 1))
    (kk : W p l e R s m args below meth c H locs cells slots Q (F0 m (pc + 1) ls (.int (iI (xs.getD z.toNat 0)) :: rest))) : W p l e R s m args below meth c H locs cells slots Q (F0 m pc ls (.int (iI z) :: .ref t :: rest)) := by
  refine va_ti hexec hb hT hS (vp_in_iI hz.1 hz.2) (v := .int (iI (xs.getD z.toNat 0))) ?_ hdg kk
  rw [iI_clamp ⟨hz.1.1, hz.2⟩]
  rfl
variable {D : va_G} {cl : List vw_C} {a : Nat} {tys : List (ClassId × FieldType)} {ws : va_W} {H0 : Heap}
theorem zf_cpy (f g : Nat → Int) (a b n : Nat) : va_cpy (zf f) (zf g) a b n = zf (va_cpy f g a b n) := by
  funext j
  by_cases h : b ≤ j ∧ j < b + n
  · simp only [va_cpy, zf, if_pos h]
  · simp only [va_cpy, zf, if_neg h]
theorem lz_copy {cc : ByteArray} (hexec : p.tables.exec = Jvm.exec) (hb : c.code = cc) (hml : c.maxLocals = ls.size) {own : String} {index : Nat} (hown : s.vm.findClass own = some m.cls) (hlink : (Cond.methodLink own index arraycopyName).before args s = true) (hnat : (Cond.native arraycopyName).before args s = true) (hstat : (Cond.static arraycopyName).before args s = true) (hini : (Cond.initialized "java/lang/System").before args s = true)
    (hK : va_K D cl tys s) (hP : va_P D cl ws H) (hD : va_D A ws) (hS : va_S A H0 H locs) (q0 t0 : Nat) {c0 : ClassId} {n0 : Nat} {f : Nat → Int} (ha0 : ws[q0]? = some (a, .inl (c0, n0, .inl (zf f)))) (ht0 : tys[t0]? = some (c0, .int))
    {sp dp n : Int} (h1 : 0 ≤ sp) (h2 : 0 ≤ dp) (h3 : 0 ≤ n) (h4 : sp + n ≤ n0) (h5 : dp + n ≤ n0) (h6 : n0 ≤ 100000)
    (hframes : 1 ≤ R.frames) (hlocals : (rest.map fun v => v.category).sum + (nativeFrameWords "java/lang/System" "arraycopy" 5 + 11) ≤ R.locals) (hdg : decode cc pc = .ok (.invokestatic index, 3))
    (kk : ∀ (H1 : Heap) (locs1 : List Loc), va_P D cl (ws.set q0 (a, .inl (c0, n0, .inl (zf (va_cpy f f sp.toNat dp.toNat n.toNat))))) H1 → va_D A (ws.set q0 (a, .inl (c0, n0, .inl (zf (va_cpy f f sp.toNat dp.toNat n.toNat))))) → va_S A H0 H1 locs1 → W p l e R s m args below meth c H1 locs1 cells slots Q (F0 m (pc + 3) ls rest)) : W p l e R s m args below meth c H locs cells slots Q (F0 m pc ls (.int (iI n) :: .int (iI dp) :: .ref a :: .int (iI sp) :: .ref a :: rest)) := by
  have nn : ∀ z : Int, 0 ≤ z → z ≤ 100000 → ¬ iI z < 0 := fun z a b q => by
    rw [← iI_0, iI_lt (by omega) (by omega)] at q
    omega
  have cs : (iI sp).toNatClampNeg = sp.toNat := iI_clamp (by omega)
  have cd : (iI dp).toNatClampNeg = dp.toNat := iI_clamp (by omega)
  have cn : (iI n).toNatClampNeg = n.toNat := iI_clamp (by omega)
  refine va_copyi hexec hb hml hown hlink hnat hstat hini hK hP hD hS q0 q0 t0 t0 (ty := .int) ha0 ha0 ht0 ht0 rfl (nn sp h1 (by omega)) (nn dp h2 (by omega)) (nn n h3 (by omega)) (by rw [cs, cn]; omega) (by rw [cd, cn]; omega) (fun i _ => rfl) hframes hlocals hdg ?_
  rw [cs, cd, cn, zf_cpy]
  exact kk
theorem lz_ialk (hexec : p.tables.exec = Jvm.exec) (hb : c.code = cc) (hK : va_K D cl tys s) (hP : va_P D cl ws H) (q0 t0 : Nat) {cA : ClassId} {n : Nat} {f : Nat → Int} (ha : ws[q0]? = some (a, .inl (cA, n, .inl (zf f)))) (ht : tys[t0]? = some (cA, .int)) {z : Int} (k : Nat) (hz : z = (k : Int)) (hk : k < n ∧ k < 2147483648) (hdg : decode cc pc = .ok (.iaload, 1))
    (kk : W p l e R s m args below meth c H locs cells slots Q (F0 m (pc + 1) ls (.int (iI (f k)) :: rest))) : W p l e R s m args below meth c H locs cells slots Q (F0 m pc ls (.int (iI z) :: .ref a :: rest)) := by
  subst hz
  exact lz_iald hexec hb hK hP q0 t0 ha ht (by omega) hdg kk
theorem lz_iask (hexec : p.tables.exec = Jvm.exec) (hb : c.code = cc) (hK : va_K D cl tys s) (hP : va_P D cl ws H) (hD : va_D A ws) (hS : va_S A H0 H locs) (q0 t0 : Nat) {cA : ClassId} {n : Nat} {f : Nat → Int} (ha : ws[q0]? = some (a, .inl (cA, n, .inl (zf f)))) (ht : tys[t0]? = some (cA, .int)) {z v : Int} (k : Nat) (hz : z = (k : Int)) (hk : k < n ∧ k < 2147483648) (hdg : decode cc pc = .ok (.iastore, 1))
    (kk : ∀ (H1 : Heap) (locs1 : List Loc), va_P D cl (ws.set q0 (a, .inl (cA, n, .inl (zf (zu f k v))))) H1 → va_D A (ws.set q0 (a, .inl (cA, n, .inl (zf (zu f k v))))) → va_S A H0 H1 locs1 → W p l e R s m args below meth c H1 locs1 cells slots Q (F0 m (pc + 1) ls rest)) : W p l e R s m args below meth c H locs cells slots Q (F0 m pc ls (.int (iI v) :: .int (iI z) :: .ref a :: rest)) := by
  subst hz
  exact lz_iast hexec hb hK hP hD hS q0 t0 ha ht (by omega) hdg kk
theorem lz_tlen (hexec : p.tables.exec = Jvm.exec) (hb : c.code = cc) {t N : Nat} {f : Nat → Value} {ty : FieldType} (hT : va_T ty t N f A s s.heap) (hS : va_S A s.heap H locs) (hdg : decode cc pc = .ok (.arraylength, 1))
    (kk : W p l e R s m args below meth c H locs cells slots Q (F0 m (pc + 1) ls (.int (iI (N : Int)) :: rest))) : W p l e R s m args below meth c H locs cells slots Q (F0 m pc ls (.ref t :: rest)) := va_tlen hexec hb hT hS (iI_nI N) hdg kk
end LZ2
end
section
/-! Keys: an OPERATION as one number; what it does to PLACES. -/
def p3 (j : Nat) : Int := ([6561, 2187, 729, 243, 81, 27, 9, 3, 1] : List Int).getD j 1
def mdg (k : Int) (j : Nat) : Int := k / 13824 / p3 j % 3 - 1
theorem mdg_in (k : Int) (j : Nat) : -1 ≤ mdg k j ∧ mdg k j ≤ 1 := by unfold mdg; omega
def detF (g : Nat → Int) : Int := g 0 * (g 4 * g 8 - g 5 * g 7) - g 1 * (g 3 * g 8 - g 5 * g 6) + g 2 * (g 3 * g 7 - g 4 * g 6)
def pX (x : Int) : Int := x / 576
def pY (x : Int) : Int := x / 24 % 24
def pZ (x : Int) : Int := x % 24
def isPl (x : Int) : Prop := 0 ≤ x ∧ x < 13824
def mk3 (a b c : Int) : Int := (a * 24 + b) * 24 + c
def movF (g : Nat → Int) (sh x : Int) : Int :=
  mk3 ((g 0 * pX x + g 1 * pY x + g 2 * pZ x + pX sh + 72) % 24) ((g 3 * pX x + g 4 * pY x + g 5 * pZ x + pY sh + 72) % 24) ((g 6 * pX x + g 7 * pY x + g 8 * pZ x + pZ sh + 72) % 24)
def movK (k x : Int) : Int := movF (mdg k) (k % 13824) x
def kOK (k : Int) : Prop := 0 ≤ k ∧ k < 272097792
def vOK (k : Int) : Prop := kOK k ∧ ∀ x y, isPl x → isPl y → movK k x = movK k y → x = y
theorem pX_mk {a b c : Int} (ha : 0 ≤ a ∧ a < 24) (hb : 0 ≤ b ∧ b < 24) (hc : 0 ≤ c ∧ c < 24) : pX (mk3 a b c) = a ∧ pY (mk3 a b c) = b ∧ pZ (mk3 a b c) = c ∧ isPl (mk3 a b c) := by
  unfold pX pY pZ mk3 isPl; omega
theorem mk3_p {x : Int} (h : isPl x) : mk3 (pX x) (pY x) (pZ x) = x ∧ (0 ≤ pX x ∧ pX x < 24) ∧ (0 ≤ pY x ∧ pY x < 24) ∧ (0 ≤ pZ x ∧ pZ x < 24) := by
  unfold pX pY pZ mk3 isPl at *; omega
theorem movF_at (g : Nat → Int) (sh x : Int) : pX (movF g sh x) = (g 0 * pX x + g 1 * pY x + g 2 * pZ x + pX sh + 72) % 24 ∧ pY (movF g sh x) = (g 3 * pX x + g 4 * pY x + g 5 * pZ x + pY sh + 72) % 24 ∧ pZ (movF g sh x) = (g 6 * pX x + g 7 * pY x + g 8 * pZ x + pZ sh + 72) % 24 ∧ isPl (movF g sh x) :=
  pX_mk (by omega) (by omega) (by omega)
theorem movK_pl (k x : Int) : isPl (movK k x) := (movF_at _ _ _).2.2.2
def prodD (p q : Int) (t : Nat) : Int := mdg p (t / 3 * 3) * mdg q (t % 3) + mdg p (t / 3 * 3 + 1) * mdg q (t % 3 + 3) + mdg p (t / 3 * 3 + 2) * mdg q (t % 3 + 6)
def nineP (p q : Int) : Nat → Int
  | 0 => 0
  | t + 1 => nineP p q t * 3 + prodD p q t + 1
def prodIn (p q : Int) (n : Nat) : Prop := ∀ t, t < n → -1 ≤ prodD p q t ∧ prodD p q t ≤ 1
def timesK (p q : Int) : Int := if (∀ t, t < 9 → -1 ≤ prodD p q t ∧ prodD p q t ≤ 1) then nineP p q 9 * 13824 + movF (mdg p) (p % 13824) (q % 13824) else -1
theorem nine_digits {d0 d1 d2 d3 d4 d5 d6 d7 d8 sh : Int} (h0 : 0 ≤ d0 ∧ d0 < 3) (h1 : 0 ≤ d1 ∧ d1 < 3) (h2 : 0 ≤ d2 ∧ d2 < 3) (h3 : 0 ≤ d3 ∧ d3 < 3) (h4 : 0 ≤ d4 ∧ d4 < 3) (h5 : 0 ≤ d5 ∧ d5 < 3) (h6 : 0 ≤ d6 ∧ d6 < 3) (h7 : 0 ≤ d7 ∧ d7 < 3) (h8 : 0 ≤ d8 ∧ d8 < 3) (hs : 0 ≤ sh ∧ sh < 13824) :
    ∀ n, n = ((((((((d0 * 3 + d1) * 3 + d2) * 3 + d3) * 3 + d4) * 3 + d5) * 3 + d6) * 3 + d7) * 3 + d8) → (n * 13824 + sh) / 13824 = n ∧ (n * 13824 + sh) % 13824 = sh ∧ 0 ≤ n ∧ n < 19683 ∧ n / 6561 % 3 = d0 ∧ n / 2187 % 3 = d1 ∧ n / 729 % 3 = d2 ∧ n / 243 % 3 = d3 ∧ n / 81 % 3 = d4 ∧ n / 27 % 3 = d5 ∧ n / 9 % 3 = d6 ∧ n / 3 % 3 = d7 ∧ n / 1 % 3 = d8 := by
  intro n hn
  refine ⟨by omega, by omega, by omega, by omega, by omega, by omega, by omega, by omega, by omega, by omega, by omega, by omega, by omega⟩
/-- what a product's digits and SHIFT are -/
theorem times_in {p q : Int} (hin : ∀ t, t < 9 → -1 ≤ prodD p q t ∧ prodD p q t ≤ 1) : kOK (timesK p q) ∧ (∀ j, j < 9 → mdg (timesK p q) j = prodD p q j) ∧ timesK p q % 13824 = movF (mdg p) (p % 13824) (q % 13824) := by
  unfold timesK
  rw [if_pos hin]
  have hs := (movF_at (mdg p) (p % 13824) (q % 13824)).2.2.2
  generalize movF (mdg p) (p % 13824) (q % 13824) = sh at hs ⊢
  have e : nineP p q 9 = ((((((((0 * 3 + prodD p q 0 + 1) * 3 + prodD p q 1 + 1) * 3 + prodD p q 2 + 1) * 3 + prodD p q 3 + 1) * 3 + prodD p q 4 + 1) * 3 + prodD p q 5 + 1) * 3 + prodD p q 6 + 1) * 3 + prodD p q 7 + 1) * 3 + prodD p q 8 + 1 := rfl
  have b0 := hin 0 (by omega)
  have b1 := hin 1 (by omega)
  have b2 := hin 2 (by omega)
  have b3 := hin 3 (by omega)
  have b4 := hin 4 (by omega)
  have b5 := hin 5 (by omega)
  have b6 := hin 6 (by omega)
  have b7 := hin 7 (by omega)
  have b8 := hin 8 (by omega)
  unfold isPl at hs
  obtain ⟨g1, g2, g3, g4, k0, k1, k2, k3, k4, k5, k6, k7, k8⟩ := nine_digits (d0 := prodD p q 0 + 1) (d1 := prodD p q 1 + 1) (d2 := prodD p q 2 + 1) (d3 := prodD p q 3 + 1) (d4 := prodD p q 4 + 1) (d5 := prodD p q 5 + 1) (d6 := prodD p q 6 + 1) (d7 := prodD p q 7 + 1) (d8 := prodD p q 8 + 1) (sh := sh) (by omega) (by omega) (by omega) (by omega) (by omega) (by omega) (by omega) (by omega) (by omega) hs (nineP p q 9) (by rw [e]; omega)
  refine ⟨by unfold kOK; omega, ?_, g2⟩
  intro j hj
  unfold mdg
  rw [g1]
  rcases (show j = 0 ∨ j = 1 ∨ j = 2 ∨ j = 3 ∨ j = 4 ∨ j = 5 ∨ j = 6 ∨ j = 7 ∨ j = 8 by omega) with rfl | rfl | rfl | rfl | rfl | rfl | rfl | rfl | rfl <;> simp only [p3, List.getD_cons_zero, List.getD_cons_succ] <;> omega
theorem times_ne {p q : Int} : timesK p q ≠ -1 ↔ ∀ t, t < 9 → -1 ≤ prodD p q t ∧ prodD p q t ≤ 1 := by
  constructor
  · intro h
    by_cases hin : ∀ t, t < 9 → -1 ≤ prodD p q t ∧ prodD p q t ≤ 1
    · exact hin
    · unfold timesK at h
      rw [if_neg hin] at h
      exact absurd rfl h
  · intro h
    have := (times_in h).1.1
    omega
theorem times_digits {p q : Int} (h : timesK p q ≠ -1) : kOK (timesK p q) ∧ (∀ j, j < 9 → mdg (timesK p q) j = prodD p q j) ∧ timesK p q % 13824 = movF (mdg p) (p % 13824) (q % 13824) := times_in (times_ne.mp h)
theorem emod24 {a b : Int} (c : Int) (h : a - b = 24 * c) : a % 24 = b % 24 := by omega
theorem mod_comp (a0 a1 a2 b0 b1 b2 b3 b4 b5 b6 b7 b8 X Y Z s1 s2 s3 t : Int) : ((a0 * b0 + a1 * b3 + a2 * b6) * X + (a0 * b1 + a1 * b4 + a2 * b7) * Y + (a0 * b2 + a1 * b5 + a2 * b8) * Z + (a0 * s1 + a1 * s2 + a2 * s3 + t + 72) % 24 + 72) % 24 = (a0 * ((b0 * X + b1 * Y + b2 * Z + s1 + 72) % 24) + a1 * ((b3 * X + b4 * Y + b5 * Z + s2 + 72) % 24) + a2 * ((b6 * X + b7 * Y + b8 * Z + s3 + 72) % 24) + t + 72) % 24 := by
  obtain ⟨k0, h0⟩ : ∃ k, (a0 * s1 + a1 * s2 + a2 * s3 + t + 72) % 24 = (a0 * s1 + a1 * s2 + a2 * s3 + t + 72) - 24 * k := ⟨_, Int.emod_def _ _⟩
  obtain ⟨k1, h1⟩ : ∃ k, (b0 * X + b1 * Y + b2 * Z + s1 + 72) % 24 = (b0 * X + b1 * Y + b2 * Z + s1 + 72) - 24 * k := ⟨_, Int.emod_def _ _⟩
  obtain ⟨k2, h2⟩ : ∃ k, (b3 * X + b4 * Y + b5 * Z + s2 + 72) % 24 = (b3 * X + b4 * Y + b5 * Z + s2 + 72) - 24 * k := ⟨_, Int.emod_def _ _⟩
  obtain ⟨k3, h3⟩ : ∃ k, (b6 * X + b7 * Y + b8 * Z + s3 + 72) % 24 = (b6 * X + b7 * Y + b8 * Z + s3 + 72) - 24 * k := ⟨_, Int.emod_def _ _⟩
  rw [h0, h1, h2, h3]
  exact emod24 (3 - k0 - 3 * (a0 + a1 + a2) + (a0 * k1 + a1 * k2 + a2 * k3)) (by grind)
/-- the product does both, one behind the other -/
theorem times_act {p q : Int} (x : Int) (h : timesK p q ≠ -1) : movK (timesK p q) x = movK p (movK q x) := by
  obtain ⟨-, hd, hs⟩ := times_digits h
  obtain ⟨s1, s2, s3, -⟩ := movF_at (mdg p) (p % 13824) (q % 13824)
  obtain ⟨y1, y2, y3, -⟩ := movF_at (mdg q) (q % 13824) x
  have e0 : mdg (timesK p q) 0 = mdg p 0 * mdg q 0 + mdg p 1 * mdg q 3 + mdg p 2 * mdg q 6 := hd 0 (by omega)
  have e1 : mdg (timesK p q) 1 = mdg p 0 * mdg q 1 + mdg p 1 * mdg q 4 + mdg p 2 * mdg q 7 := hd 1 (by omega)
  have e2 : mdg (timesK p q) 2 = mdg p 0 * mdg q 2 + mdg p 1 * mdg q 5 + mdg p 2 * mdg q 8 := hd 2 (by omega)
  have e3 : mdg (timesK p q) 3 = mdg p 3 * mdg q 0 + mdg p 4 * mdg q 3 + mdg p 5 * mdg q 6 := hd 3 (by omega)
  have e4 : mdg (timesK p q) 4 = mdg p 3 * mdg q 1 + mdg p 4 * mdg q 4 + mdg p 5 * mdg q 7 := hd 4 (by omega)
  have e5 : mdg (timesK p q) 5 = mdg p 3 * mdg q 2 + mdg p 4 * mdg q 5 + mdg p 5 * mdg q 8 := hd 5 (by omega)
  have e6 : mdg (timesK p q) 6 = mdg p 6 * mdg q 0 + mdg p 7 * mdg q 3 + mdg p 8 * mdg q 6 := hd 6 (by omega)
  have e7 : mdg (timesK p q) 7 = mdg p 6 * mdg q 1 + mdg p 7 * mdg q 4 + mdg p 8 * mdg q 7 := hd 7 (by omega)
  have e8 : mdg (timesK p q) 8 = mdg p 6 * mdg q 2 + mdg p 7 * mdg q 5 + mdg p 8 * mdg q 8 := hd 8 (by omega)
  have g1 : movK (timesK p q) x = movF (mdg (timesK p q)) (movF (mdg p) (p % 13824) (q % 13824)) x := by rw [← hs]; rfl
  have g2 : movK p (movK q x) = movF (mdg p) (p % 13824) (movF (mdg q) (q % 13824) x) := rfl
  rw [g1, g2]
  rw [movF.eq_def (mdg (timesK p q)), movF.eq_def (mdg p) _ (movF (mdg q) (q % 13824) x)]
  rw [s1, s2, s3, y1, y2, y3, e0, e1, e2, e3, e4, e5, e6, e7, e8]
  rw [mod_comp, mod_comp, mod_comp]
theorem key_ext {p q : Int} (hp : kOK p) (hq : kOK q) (hd : ∀ j, j < 9 → mdg p j = mdg q j) (hs : p % 13824 = q % 13824) : p = q := by
  have e0 : p / 13824 / 6561 % 3 - 1 = q / 13824 / 6561 % 3 - 1 := hd 0 (by omega)
  have e1 : p / 13824 / 2187 % 3 - 1 = q / 13824 / 2187 % 3 - 1 := hd 1 (by omega)
  have e2 : p / 13824 / 729 % 3 - 1 = q / 13824 / 729 % 3 - 1 := hd 2 (by omega)
  have e3 : p / 13824 / 243 % 3 - 1 = q / 13824 / 243 % 3 - 1 := hd 3 (by omega)
  have e4 : p / 13824 / 81 % 3 - 1 = q / 13824 / 81 % 3 - 1 := hd 4 (by omega)
  have e5 : p / 13824 / 27 % 3 - 1 = q / 13824 / 27 % 3 - 1 := hd 5 (by omega)
  have e6 : p / 13824 / 9 % 3 - 1 = q / 13824 / 9 % 3 - 1 := hd 6 (by omega)
  have e7 : p / 13824 / 3 % 3 - 1 = q / 13824 / 3 % 3 - 1 := hd 7 (by omega)
  have e8 : p / 13824 / 1 % 3 - 1 = q / 13824 / 1 % 3 - 1 := hd 8 (by omega)
  obtain ⟨hp0, hp1⟩ := hp
  obtain ⟨hq0, hq1⟩ := hq
  have hn : 0 ≤ p / 13824 ∧ p / 13824 < 19683 := by omega
  have hm : 0 ≤ q / 13824 ∧ q / 13824 < 19683 := by omega
  have hpn : p = p / 13824 * 13824 + p % 13824 := by omega
  have hqm : q = q / 13824 * 13824 + q % 13824 := by omega
  rw [hpn, hqm, hs]
  clear hpn hqm hs hp0 hp1 hq0 hq1 hd
  generalize p / 13824 = n at *
  generalize q / 13824 = m at *
  have f0 : n / 6561 = m / 6561 := by omega
  have f1 : n / 2187 = m / 2187 := by clear e2 e3 e4 e5 e6 e7 e8; omega
  have f2 : n / 729 = m / 729 := by clear f0 e0 e1 e3 e4 e5 e6 e7 e8; omega
  have f3 : n / 243 = m / 243 := by clear f0 f1 e0 e1 e2 e4 e5 e6 e7 e8; omega
  have f4 : n / 81 = m / 81 := by clear f0 f1 f2 e0 e1 e2 e3 e5 e6 e7 e8; omega
  have f5 : n / 27 = m / 27 := by clear f0 f1 f2 f3 e0 e1 e2 e3 e4 e6 e7 e8; omega
  have f6 : n / 9 = m / 9 := by clear f0 f1 f2 f3 f4 e0 e1 e2 e3 e4 e5 e7 e8; omega
  have f7 : n / 3 = m / 3 := by clear f0 f1 f2 f3 f4 f5 e0 e1 e2 e3 e4 e5 e6 e8; omega
  have f8 : n = m := by clear f0 f1 f2 f3 f4 f5 f6 e0 e1 e2 e3 e4 e5 e6 e7; omega
  rw [f8]
/-- what it does tells the key -/
theorem key_act {p q : Int} (hp : kOK p) (hq : kOK q) (h : ∀ x, isPl x → movK p x = movK q x) : p = q := by
  have a0 := h 0 (by unfold isPl; omega)
  have a1 := h 576 (by unfold isPl; omega)
  have a2 := h 24 (by unfold isPl; omega)
  have a3 := h 1 (by unfold isPl; omega)
  have hs : p % 13824 = q % 13824 := by
    have p1 := mk3_p (x := p % 13824) (by unfold isPl; omega)
    have q1 := mk3_p (x := q % 13824) (by unfold isPl; omega)
    have c1 := congrArg pX a0
    have c2 := congrArg pY a0
    have c3 := congrArg pZ a0
    unfold movK at c1 c2 c3
    rw [(movF_at _ _ _).1, (movF_at _ _ _).1] at c1
    rw [(movF_at _ _ _).2.1, (movF_at _ _ _).2.1] at c2
    rw [(movF_at _ _ _).2.2.1, (movF_at _ _ _).2.2.1] at c3
    rw [show pX 0 = 0 from rfl, show pY 0 = 0 from rfl, show pZ 0 = 0 from rfl] at c1 c2 c3
    simp only [Int.mul_zero, Int.zero_add] at c1 c2 c3
    rw [← p1.1, ← q1.1]
    rw [show pX (p % 13824) = pX (q % 13824) by omega, show pY (p % 13824) = pY (q % 13824) by omega, show pZ (p % 13824) = pZ (q % 13824) by omega]
  have col : ∀ (x : Int) (i : Nat), (pX x = 1 ∧ pY x = 0 ∧ pZ x = 0 ∧ i = 0) ∨ (pX x = 0 ∧ pY x = 1 ∧ pZ x = 0 ∧ i = 1) ∨ (pX x = 0 ∧ pY x = 0 ∧ pZ x = 1 ∧ i = 2) → movK p x = movK q x → mdg p i = mdg q i ∧ mdg p (i + 3) = mdg q (i + 3) ∧ mdg p (i + 6) = mdg q (i + 6) := by
    intro x i hx ha
    have c1 := congrArg pX ha
    have c2 := congrArg pY ha
    have c3 := congrArg pZ ha
    unfold movK at c1 c2 c3
    rw [(movF_at _ _ _).1, (movF_at _ _ _).1, hs] at c1
    rw [(movF_at _ _ _).2.1, (movF_at _ _ _).2.1, hs] at c2
    rw [(movF_at _ _ _).2.2.1, (movF_at _ _ _).2.2.1, hs] at c3
    have b1 := mdg_in p i
    have b2 := mdg_in p (i + 3)
    have b3 := mdg_in p (i + 6)
    have b4 := mdg_in q i
    have b5 := mdg_in q (i + 3)
    have b6 := mdg_in q (i + 6)
    rcases hx with ⟨x1, x2, x3, rfl⟩ | ⟨x1, x2, x3, rfl⟩ | ⟨x1, x2, x3, rfl⟩ <;>
    · rw [x1, x2, x3] at c1 c2 c3
      simp only [Int.mul_zero, Int.mul_one, Int.zero_add, Int.add_zero] at c1 c2 c3
      simp only [Nat.zero_add, Nat.reduceAdd] at b1 b2 b3 b4 b5 b6 ⊢
      refine ⟨?_, ?_, ?_⟩ <;> omega
  obtain ⟨g0, g3, g6⟩ := col 576 0 (by decide) a1
  obtain ⟨g1, g4, g7⟩ := col 24 1 (by decide) a2
  obtain ⟨g2, g5, g8⟩ := col 1 2 (by decide) a3
  refine key_ext hp hq (fun j hj => ?_) hs
  rcases (show j = 0 ∨ j = 1 ∨ j = 2 ∨ j = 3 ∨ j = 4 ∨ j = 5 ∨ j = 6 ∨ j = 7 ∨ j = 8 by omega) with rfl | rfl | rfl | rfl | rfl | rfl | rfl | rfl | rfl <;> assumption
theorem emod24' {a b : Int} (h : a % 24 = b % 24) : ∃ c, a - b = 24 * c := ⟨a / 24 - b / 24, by omega⟩
theorem adj1 (a b c d e f g h i x y z : Int) : (a * (e * i - f * h) - b * (d * i - f * g) + c * (d * h - e * g)) * x = (e * i - f * h) * (a * x + b * y + c * z) + (c * h - b * i) * (d * x + e * y + f * z) + (b * f - c * e) * (g * x + h * y + i * z) := by grind
theorem adj2 (a b c d e f g h i x y z : Int) : (a * (e * i - f * h) - b * (d * i - f * g) + c * (d * h - e * g)) * y = (f * g - d * i) * (a * x + b * y + c * z) + (a * i - c * g) * (d * x + e * y + f * z) + (c * d - a * f) * (g * x + h * y + i * z) := by grind
theorem adj3 (a b c d e f g h i x y z : Int) : (a * (e * i - f * h) - b * (d * i - f * g) + c * (d * h - e * g)) * z = (d * h - e * g) * (a * x + b * y + c * z) + (b * g - a * h) * (d * x + e * y + f * z) + (a * e - b * d) * (g * x + h * y + i * z) := by grind
theorem mul24 (a b c k1 k2 k3 : Int) : a * (24 * k1) + b * (24 * k2) + c * (24 * k3) = 24 * (a * k1 + b * k2 + c * k3) := by grind
/-- determinant 1 or -1: no two PLACES are taken to one -/
theorem det_inj {g : Nat → Int} {sh x y : Int} (hd : detF g = 1 ∨ detF g = -1) (hx : isPl x) (hy : isPl y) (h : movF g sh x = movF g sh y) : x = y := by
  have c1 := congrArg pX h
  have c2 := congrArg pY h
  have c3 := congrArg pZ h
  rw [(movF_at _ _ _).1, (movF_at _ _ _).1] at c1
  rw [(movF_at _ _ _).2.1, (movF_at _ _ _).2.1] at c2
  rw [(movF_at _ _ _).2.2.1, (movF_at _ _ _).2.2.1] at c3
  obtain ⟨k1, h1⟩ := emod24' c1
  obtain ⟨k2, h2⟩ := emod24' c2
  obtain ⟨k3, h3⟩ := emod24' c3
  obtain ⟨ex, x1, x2, x3⟩ := mk3_p hx
  obtain ⟨ey, y1, y2, y3⟩ := mk3_p hy
  have r1 : g 0 * (pX x - pX y) + g 1 * (pY x - pY y) + g 2 * (pZ x - pZ y) = 24 * k1 := by rw [Int.mul_sub, Int.mul_sub, Int.mul_sub]; omega
  have r2 : g 3 * (pX x - pX y) + g 4 * (pY x - pY y) + g 5 * (pZ x - pZ y) = 24 * k2 := by rw [Int.mul_sub, Int.mul_sub, Int.mul_sub]; omega
  have r3 : g 6 * (pX x - pX y) + g 7 * (pY x - pY y) + g 8 * (pZ x - pZ y) = 24 * k3 := by rw [Int.mul_sub, Int.mul_sub, Int.mul_sub]; omega
  have i1 := adj1 (g 0) (g 1) (g 2) (g 3) (g 4) (g 5) (g 6) (g 7) (g 8) (pX x - pX y) (pY x - pY y) (pZ x - pZ y)
  have i2 := adj2 (g 0) (g 1) (g 2) (g 3) (g 4) (g 5) (g 6) (g 7) (g 8) (pX x - pX y) (pY x - pY y) (pZ x - pZ y)
  have i3 := adj3 (g 0) (g 1) (g 2) (g 3) (g 4) (g 5) (g 6) (g 7) (g 8) (pX x - pX y) (pY x - pY y) (pZ x - pZ y)
  rw [r1, r2, r3] at i1 i2 i3
  rw [mul24] at i1 i2 i3
  generalize (g 4 * g 8 - g 5 * g 7) * k1 + (g 2 * g 7 - g 1 * g 8) * k2 + (g 1 * g 5 - g 2 * g 4) * k3 = m1 at i1
  generalize (g 5 * g 6 - g 3 * g 8) * k1 + (g 0 * g 8 - g 2 * g 6) * k2 + (g 2 * g 3 - g 0 * g 5) * k3 = m2 at i2
  generalize (g 3 * g 7 - g 4 * g 6) * k1 + (g 1 * g 6 - g 0 * g 7) * k2 + (g 0 * g 4 - g 1 * g 3) * k3 = m3 at i3
  unfold detF at hd
  generalize g 0 * (g 4 * g 8 - g 5 * g 7) - g 1 * (g 3 * g 8 - g 5 * g 6) + g 2 * (g 3 * g 7 - g 4 * g 6) = dd at hd i1 i2 i3
  have j1 : pX x = pX y := by rcases hd with e | e <;> rw [e] at i1 <;> omega
  have j2 : pY x = pY y := by rcases hd with e | e <;> rw [e] at i2 <;> omega
  have j3 : pZ x = pZ y := by rcases hd with e | e <;> rw [e] at i3 <;> omega
  rw [← ex, ← ey, j1, j2, j3]
theorem vOK_det {k : Int} (hk : kOK k) (hd : detF (mdg k) = 1 ∨ detF (mdg k) = -1) : vOK k := ⟨hk, fun x y hx hy h => det_inj hd hx hy h⟩
theorem vOK_times {p q : Int} (hp : vOK p) (hq : vOK q) (h : timesK p q ≠ -1) : vOK (timesK p q) := by
  refine ⟨(times_digits h).1, fun x y hx hy e => ?_⟩
  rw [times_act x h, times_act y h] at e
  exact hq.2 x y hx hy (hp.2 _ _ (movK_pl _ _) (movK_pl _ _) e)
theorem times_lcancel {p q r : Int} (hp : vOK p) (hq : kOK q) (hr : kOK r) (h : timesK p q ≠ -1) (e : timesK p q = timesK p r) : q = r := by
  refine key_act hq hr fun x hx => ?_
  have h2 : timesK p r ≠ -1 := by rw [← e]; exact h
  have := times_act x h
  rw [e, times_act x h2] at this
  exact (hp.2 _ _ (movK_pl _ _) (movK_pl _ _) this).symm
theorem prodD_assoc {p q r : Int} (h1 : timesK p q ≠ -1) (h2 : timesK q r ≠ -1) : ∀ t, t < 9 → prodD (timesK p q) r t = prodD p (timesK q r) t := by
  obtain ⟨-, hd, -⟩ := times_digits h1
  obtain ⟨-, hd2, -⟩ := times_digits h2
  intro t ht
  have hr3 : t / 3 < 3 := by omega
  have hc3 : t % 3 < 3 := by omega
  unfold prodD
  rw [hd (t / 3 * 3) (by omega), hd (t / 3 * 3 + 1) (by omega), hd (t / 3 * 3 + 2) (by omega), hd2 (t % 3) (by omega), hd2 (t % 3 + 3) (by omega), hd2 (t % 3 + 6) (by omega)]
  unfold prodD
  generalize t / 3 = a at *
  generalize t % 3 = b at *
  rw [show a * 3 / 3 = a by omega, show (a * 3 + 1) / 3 = a by omega, show (a * 3 + 2) / 3 = a by omega, show a * 3 % 3 = 0 by omega, show (a * 3 + 1) % 3 = 1 by omega, show (a * 3 + 2) % 3 = 2 by omega, show b / 3 = 0 by omega, show (b + 3) / 3 = 1 by omega, show (b + 6) / 3 = 2 by omega, show b % 3 = b by omega, show (b + 3) % 3 = b by omega, show (b + 6) % 3 = b by omega]
  simp only [Nat.zero_mul, Nat.zero_add, Nat.one_mul, Nat.reduceMul, Nat.reduceAdd]
  grind
theorem nineP_congr {p q p' q' : Int} : ∀ n, (∀ t, t < n → prodD p q t = prodD p' q' t) → nineP p q n = nineP p' q' n
  | 0, _ => rfl
  | n + 1, h => by
    show nineP p q n * 3 + prodD p q n + 1 = nineP p' q' n * 3 + prodD p' q' n + 1
    rw [nineP_congr n (fun t ht => h t (by omega)), h n (by omega)]
theorem times_assoc {p q r : Int} (h1 : timesK p q ≠ -1) (h2 : timesK q r ≠ -1) : timesK (timesK p q) r = timesK p (timesK q r) := by
  have hd := prodD_assoc h1 h2
  have hs : movF (mdg (timesK p q)) (timesK p q % 13824) (r % 13824) = movF (mdg p) (p % 13824) (timesK q r % 13824) := by
    rw [(times_digits h2).2.2]
    exact times_act (r % 13824) h1
  have hc : (∀ t, t < 9 → -1 ≤ prodD (timesK p q) r t ∧ prodD (timesK p q) r t ≤ 1) ↔ (∀ t, t < 9 → -1 ≤ prodD p (timesK q r) t ∧ prodD p (timesK q r) t ≤ 1) := by
    constructor
    · intro h t ht
      rw [← hd t ht]; exact h t ht
    · intro h t ht
      rw [hd t ht]; exact h t ht
  rw [timesK.eq_def (timesK p q) r, timesK.eq_def p (timesK q r), hs, nineP_congr 9 hd]
  by_cases h : (∀ t, t < 9 → -1 ≤ prodD p (timesK q r) t ∧ prodD p (timesK q r) t ≤ 1)
  · rw [if_pos h, if_pos (hc.mpr h)]
  · rw [if_neg h, if_neg (fun g => h (hc.mp g))]
/-- the OPERATION that leaves all PLACES -/
def u0 : Int := 227874816
theorem u0_ok : kOK u0 := by unfold kOK u0; omega
theorem u0_mdg : mdg u0 0 = 1 ∧ mdg u0 1 = 0 ∧ mdg u0 2 = 0 ∧ mdg u0 3 = 0 ∧ mdg u0 4 = 1 ∧ mdg u0 5 = 0 ∧ mdg u0 6 = 0 ∧ mdg u0 7 = 0 ∧ mdg u0 8 = 1 ∧ u0 % 13824 = 0 := by decide
theorem u0_act {x : Int} (hx : isPl x) : movK u0 x = x := by
  obtain ⟨a0, a1, a2, a3, a4, a5, a6, a7, a8, a9⟩ := u0_mdg
  obtain ⟨e, h1, h2, h3⟩ := mk3_p hx
  unfold movK movF
  rw [a0, a1, a2, a3, a4, a5, a6, a7, a8, a9, show pX 0 = 0 from rfl, show pY 0 = 0 from rfl, show pZ 0 = 0 from rfl]
  rw [show (1 * pX x + 0 * pY x + 0 * pZ x + 0 + 72) % 24 = pX x by omega, show (0 * pX x + 1 * pY x + 0 * pZ x + 0 + 72) % 24 = pY x by omega, show (0 * pX x + 0 * pY x + 1 * pZ x + 0 + 72) % 24 = pZ x by omega]
  exact e
theorem u0_v : vOK u0 := ⟨u0_ok, fun x y hx hy h => by rw [u0_act hx, u0_act hy] at h; exact h⟩
theorem u0_prod (p : Int) : (∀ t, t < 9 → prodD u0 p t = mdg p t) ∧ (∀ t, t < 9 → prodD p u0 t = mdg p t) := by
  obtain ⟨a0, a1, a2, a3, a4, a5, a6, a7, a8, a9⟩ := u0_mdg
  constructor <;> intro t ht <;> rcases (show t = 0 ∨ t = 1 ∨ t = 2 ∨ t = 3 ∨ t = 4 ∨ t = 5 ∨ t = 6 ∨ t = 7 ∨ t = 8 by omega) with rfl | rfl | rfl | rfl | rfl | rfl | rfl | rfl | rfl <;> simp [prodD, a0, a1, a2, a3, a4, a5, a6, a7, a8]
theorem u0_l {p : Int} (hp : kOK p) : timesK u0 p = p := by
  have h : timesK u0 p ≠ -1 := times_ne.mpr fun t ht => by rw [(u0_prod p).1 t ht]; exact mdg_in p t
  exact key_act (times_digits h).1 hp fun x hx => by rw [times_act x h, u0_act (movK_pl p x)]
theorem u0_r {p : Int} (hp : kOK p) : timesK p u0 = p := by
  have h : timesK p u0 ≠ -1 := times_ne.mpr fun t ht => by rw [(u0_prod p).2 t ht]; exact mdg_in p t
  exact key_act (times_digits h).1 hp fun x hx => by rw [times_act x h, u0_act hx]
end
section
/-! Finite closed sets of keys are groups. -/
theorem len_sub : ∀ (a b : List Int), a.Nodup → (∀ x ∈ a, x ∈ b) → a.length ≤ b.length
  | [], _, _, _ => Nat.zero_le _
  | x :: a, b, hn, hs => by
    rw [List.nodup_cons] at hn
    have hx : x ∈ b := hs x List.mem_cons_self
    have h := len_sub a (b.erase x) hn.2 (fun y hy => by
      have hne : y ≠ x := fun e => hn.1 (by rw [← e]; exact hy)
      exact (List.mem_erase_of_ne hne).mpr (hs y (List.mem_cons_of_mem _ hy)))
    rw [List.length_erase_of_mem hx] at h
    have : 0 < b.length := List.length_pos_of_mem hx
    simp only [List.length_cons]
    omega
theorem full_sub {a b : List Int} (hn : a.Nodup) (hs : ∀ x ∈ a, x ∈ b) (hl : b.length ≤ a.length) : ∀ x ∈ b, x ∈ a := by
  intro x hx
  by_cases h : x ∈ a
  · exact h
  · have := len_sub (x :: a) b (List.nodup_cons.mpr ⟨h, hn⟩) (fun y hy => by
      rcases List.mem_cons.mp hy with rfl | hy
      · exact hx
      · exact hs y hy)
    simp only [List.length_cons] at this
    omega
theorem nodup_map_on {f : Int → Int} : ∀ {a : List Int}, a.Nodup → (∀ x ∈ a, ∀ y ∈ a, f x = f y → x = y) → (a.map f).Nodup
  | [], _, _ => List.nodup_nil
  | x :: a, hn, hi => by
    rw [List.nodup_cons] at hn
    rw [List.map_cons, List.nodup_cons]
    refine ⟨fun h => ?_, nodup_map_on hn.2 fun y hy z hz => hi y (List.mem_cons_of_mem _ hy) z (List.mem_cons_of_mem _ hz)⟩
    obtain ⟨y, hy, e⟩ := List.mem_map.mp h
    exact hn.1 (hi y (List.mem_cons_of_mem _ hy) x List.mem_cons_self e ▸ hy)
theorem nodup_lt {a : List Int} (h : a.Pairwise (· < ·)) : a.Nodup := h.imp fun h => Int.ne_of_lt h
theorem lt_ext : ∀ {a b : List Int}, a.Pairwise (· < ·) → b.Pairwise (· < ·) → (∀ x, x ∈ a ↔ x ∈ b) → a = b
  | [], [], _, _, _ => rfl
  | [], y :: b, _, _, h => absurd ((h y).mpr List.mem_cons_self) List.not_mem_nil
  | x :: a, [], _, _, h => absurd ((h x).mp List.mem_cons_self) List.not_mem_nil
  | x :: a, y :: b, ha, hb, h => by
    rw [List.pairwise_cons] at ha hb
    have e : x = y := by
      rcases List.mem_cons.mp ((h x).mp List.mem_cons_self) with e | e
      · exact e
      · rcases List.mem_cons.mp ((h y).mpr List.mem_cons_self) with e2 | e2
        · exact e2.symm
        · have := hb.1 x e
          have := ha.1 y e2
          omega
    subst e
    rw [lt_ext ha.2 hb.2 fun z => ?_]
    constructor
    · intro hz
      rcases List.mem_cons.mp ((h z).mp (List.mem_cons_of_mem _ hz)) with e | e
      · have := ha.1 z hz
        omega
      · exact e
    · intro hz
      rcases List.mem_cons.mp ((h z).mpr (List.mem_cons_of_mem _ hz)) with e | e
      · have := hb.1 z hz
        omega
      · exact e
/-- a set of keys, without order, that is a group -/
def isG (ks : List Int) : Prop := ks.Nodup ∧ u0 ∈ ks ∧ (∀ x ∈ ks, vOK x) ∧ ∀ x ∈ ks, ∀ y ∈ ks, timesK x y ∈ ks
theorem isG.ne {ks : List Int} (h : isG ks) {x : Int} (hx : x ∈ ks) : x ≠ -1 := by
  have := (h.2.2.1 x hx).1.1
  omega
theorem isG.tne {ks : List Int} (h : isG ks) {x y : Int} (hx : x ∈ ks) (hy : y ∈ ks) : timesK x y ≠ -1 := h.ne (h.2.2.2 x hx y hy)
theorem isG.assoc {ks : List Int} (h : isG ks) {x y z : Int} (hx : x ∈ ks) (hy : y ∈ ks) (hz : z ∈ ks) : timesK (timesK x y) z = timesK x (timesK y z) := times_assoc (h.tne hx hy) (h.tne hy hz)
theorem isG.lc {ks : List Int} (h : isG ks) {a x y : Int} (ha : a ∈ ks) (hx : x ∈ ks) (hy : y ∈ ks) (e : timesK a x = timesK a y) : x = y := times_lcancel (h.2.2.1 a ha) (h.2.2.1 x hx).1 (h.2.2.1 y hy).1 (h.tne ha hx) e
theorem isG.rinv {ks : List Int} (h : isG ks) {a : Int} (ha : a ∈ ks) : ∃ b ∈ ks, timesK a b = u0 := by
  have h1 := nodup_map_on (f := timesK a) h.1 fun x hx y hy e => h.lc ha hx hy e
  have h2 := full_sub (b := ks) h1 (fun x hx => by
    obtain ⟨y, hy, rfl⟩ := List.mem_map.mp hx
    exact h.2.2.2 a ha y hy) (by rw [List.length_map]; exact Nat.le_refl _) u0 h.2.1
  obtain ⟨b, hb, e⟩ := List.mem_map.mp h2
  exact ⟨b, hb, e⟩
theorem isG.ul {ks : List Int} (h : isG ks) {a : Int} (ha : a ∈ ks) : timesK u0 a = a := u0_l (h.2.2.1 a ha).1
theorem isG.ur {ks : List Int} (h : isG ks) {a : Int} (ha : a ∈ ks) : timesK a u0 = a := u0_r (h.2.2.1 a ha).1
theorem isG.inv {ks : List Int} (h : isG ks) {a : Int} (ha : a ∈ ks) : ∃ b ∈ ks, timesK a b = u0 ∧ timesK b a = u0 := by
  obtain ⟨b, hb, e⟩ := h.rinv ha
  obtain ⟨c, hc, e2⟩ := h.rinv hb
  have e3 : a = c := by
    have := h.assoc ha hb hc
    rw [e, e2, h.ul hc, h.ur ha] at this
    exact this.symm
  subst e3
  exact ⟨b, hb, e, e2⟩
theorem isG.rc {ks : List Int} (h : isG ks) {a x y : Int} (ha : a ∈ ks) (hx : x ∈ ks) (hy : y ∈ ks) (e : timesK x a = timesK y a) : x = y := by
  obtain ⟨b, hb, e1, e2⟩ := h.inv ha
  have h1 := h.assoc hx ha hb
  have h2 := h.assoc hy ha hb
  rw [e1, h.ur hx] at h1
  rw [e1, h.ur hy] at h2
  rw [← h1, ← h2, e]
/-- what comes of the chosen ones, one behind the other -/
def Reach (g : List Int) (x : Int) : Prop := ∀ S : Int → Prop, S u0 → (∀ y a, S y → a ∈ g → timesK y a ≠ -1 → S (timesK y a)) → S x
theorem Reach.u (g : List Int) : Reach g u0 := fun _ h _ => h
theorem Reach.step {g : List Int} {x a : Int} (h : Reach g x) (ha : a ∈ g) (hn : timesK x a ≠ -1) : Reach g (timesK x a) := fun S h0 h1 => h1 x a (h S h0 h1) ha hn
/-- ks are the OPERATIONS of the GROUP of g -/
def genOK (g ks : List Int) : Prop := ks.Pairwise (· < ·) ∧ ks.length ≤ 192 ∧ (∀ x, x ∈ ks ↔ Reach g x) ∧ ∀ x ∈ ks, ∀ a ∈ g, timesK x a ≠ -1
theorem genOK.uniq {g a b : List Int} (ha : genOK g a) (hb : genOK g b) : a = b := lt_ext ha.1 hb.1 fun x => (ha.2.2.1 x).trans (hb.2.2.1 x).symm
theorem genOK.v {g ks : List Int} (h : genOK g ks) (hg : ∀ a ∈ g, vOK a) : ∀ x ∈ ks, vOK x := fun x hx => (h.2.2.1 x).mp hx vOK u0_v fun y a hy ha hn => vOK_times hy (hg a ha) hn
theorem genOK.isG {g ks : List Int} (h : genOK g ks) (hg : ∀ a ∈ g, vOK a) : isG ks := by
  refine ⟨nodup_lt h.1, (h.2.2.1 u0).mpr (Reach.u g), h.v hg, fun x hx y hy => ?_⟩
  have hv := h.v hg
  refine (((h.2.2.1 y).mp hy) (fun y => y ∈ ks ∧ timesK x y ∈ ks) ⟨(h.2.2.1 u0).mpr (Reach.u g), by rw [u0_r (hv x hx).1]; exact hx⟩ fun y a hy ha hn => ?_).2
  have h1 : timesK x y ≠ -1 := by
    have := (hv _ hy.2).1.1
    omega
  have h2 := times_assoc h1 hn
  have h3 := h.2.2.2 _ hy.2 a ha
  refine ⟨(h.2.2.1 _).mpr (Reach.step ((h.2.2.1 y).mp hy.1) ha hn), ?_⟩
  rw [← h2]
  exact (h.2.2.1 _).mpr (Reach.step ((h.2.2.1 _).mp hy.2) ha h3)
end
section
/-! A Row: different numbers, the lowest first, at the front of an array. -/
def lat (ks : List Int) (k : Int) : Int := if 0 ≤ k then ks.getD k.toNat (-1) else -1
def rowOK (n : Nat) (f : Nat → Int) (ks : List Int) : Prop := ks.length ≤ n ∧ n ≤ 1000 ∧ (∀ j, j < ks.length → f j = ks.getD j (-1)) ∧ ks.Pairwise (· < ·) ∧ ∀ x ∈ ks, 0 ≤ x ∧ x < 2147483648
theorem getD_mem {ks : List Int} {j : Nat} (h : j < ks.length) : ks.getD j (-1) ∈ ks := by
  rw [List.getD_eq_getElem?_getD, List.getElem?_eq_getElem h]
  exact List.getElem_mem h
theorem getD_out {ks : List Int} {j : Nat} (h : ks.length ≤ j) : ks.getD j (-1) = -1 := by
  rw [List.getD_eq_getElem?_getD, List.getElem?_eq_none h]
  rfl
theorem mem_getD {ks : List Int} {x : Int} (h : x ∈ ks) : ∃ j, j < ks.length ∧ ks.getD j (-1) = x := by
  obtain ⟨j, hj, e⟩ := List.getElem_of_mem h
  exact ⟨j, hj, by rw [List.getD_eq_getElem?_getD, List.getElem?_eq_getElem hj]; exact e⟩
theorem getD_mono {ks : List Int} (hs : ks.Pairwise (· < ·)) {i j : Nat} (hij : i < j) (hj : j < ks.length) : ks.getD i (-1) < ks.getD j (-1) := by
  have hi : i < ks.length := Nat.lt_trans hij hj
  rw [List.getD_eq_getElem?_getD, List.getD_eq_getElem?_getD, List.getElem?_eq_getElem hi, List.getElem?_eq_getElem hj]
  exact List.pairwise_iff_getElem.mp hs i j hi hj hij
theorem getD_le {ks : List Int} (hs : ks.Pairwise (· < ·)) {i j : Nat} (hij : i ≤ j) (hj : j < ks.length) : ks.getD i (-1) ≤ ks.getD j (-1) := by
  rcases Nat.lt_or_eq_of_le hij with h | rfl
  · exact Int.le_of_lt (getD_mono hs h hj)
  · exact Int.le_refl _
theorem getD_inj {ks : List Int} (hs : ks.Pairwise (· < ·)) {i j : Nat} (hi : i < ks.length) (hj : j < ks.length) (e : ks.getD i (-1) = ks.getD j (-1)) : i = j := by
  rcases Nat.lt_trichotomy i j with h | h | h
  · have := getD_mono hs h hj; omega
  · exact h
  · have := getD_mono hs h hi; omega
theorem lat_in {ks : List Int} {k : Int} (h0 : 0 ≤ k) (h : k < ks.length) : lat ks k = ks.getD k.toNat (-1) ∧ lat ks k ∈ ks := by
  unfold lat
  rw [if_pos h0]
  exact ⟨rfl, getD_mem (by omega)⟩
theorem lat_out {ks : List Int} {k : Int} (h : k < 0 ∨ (ks.length : Int) ≤ k) : lat ks k = -1 := by
  unfold lat
  by_cases h0 : 0 ≤ k
  · rw [if_pos h0, getD_out (by omega)]
  · rw [if_neg h0]
theorem rowOK.rng {n : Nat} {f : Nat → Int} {ks : List Int} (h : rowOK n f ks) {j : Nat} (hj : j < ks.length) : 0 ≤ ks.getD j (-1) ∧ ks.getD j (-1) < 2147483648 := h.2.2.2.2 _ (getD_mem hj)
theorem rowOK.latr {n : Nat} {f : Nat → Int} {ks : List Int} (h : rowOK n f ks) (k : Int) : -1 ≤ lat ks k ∧ lat ks k < 2147483648 := by
  by_cases hk : 0 ≤ k ∧ k < ks.length
  · have h1 := lat_in hk.1 hk.2
    have := h.2.2.2.2 _ h1.2
    omega
  · rw [lat_out (by omega)]; omega
def fnbI (ks : List Int) (x lo hi : Int) : Prop := 0 ≤ lo ∧ lo ≤ hi ∧ hi ≤ ks.length ∧ (∀ j : Nat, (j : Int) < lo → ks.getD j (-1) < x) ∧ ∀ j : Nat, hi ≤ (j : Int) → j < ks.length → x ≤ ks.getD j (-1)
theorem fnbI.up {ks : List Int} {x lo hi mid : Int} (h : fnbI ks x lo hi) (hs : ks.Pairwise (· < ·)) (hm : lo ≤ mid ∧ mid < hi) (hx : ks.getD mid.toNat (-1) < x) : fnbI ks x (mid + 1) hi := by
  obtain ⟨h1, h2, h3, h4, h5⟩ := h
  refine ⟨by omega, by omega, h3, fun j hj => ?_, h5⟩
  have := getD_le hs (i := j) (j := mid.toNat) (by omega) (by omega)
  omega
theorem fnbI.dn {ks : List Int} {x lo hi mid : Int} (h : fnbI ks x lo hi) (hs : ks.Pairwise (· < ·)) (hm : lo ≤ mid ∧ mid < hi) (hx : x ≤ ks.getD mid.toNat (-1)) : fnbI ks x lo mid := by
  obtain ⟨h1, h2, h3, h4, h5⟩ := h
  refine ⟨h1, by omega, by omega, h4, fun j hj hl => ?_⟩
  have := getD_le hs (i := mid.toNat) (j := j) (by omega) hl
  omega
/-- where x stands, or would stand -/
def fnb (ks : List Int) (x z : Int) : Prop := fnbI ks x z z
theorem fnb.mem {ks : List Int} {x z : Int} (h : fnb ks x z) (hs : ks.Pairwise (· < ·)) (hx : 0 ≤ x) : (lat ks z = x ↔ x ∈ ks) := by
  obtain ⟨h1, h2, h3, h4, h5⟩ := h
  constructor
  · intro e
    by_cases hz : z < ks.length
    · rw [← e]; exact (lat_in h1 hz).2
    · rw [lat_out (by omega)] at e; omega
  · intro hm
    obtain ⟨j, hj, e⟩ := mem_getD hm
    have a1 : ¬ (j : Int) < z := fun q => by have := h4 j q; omega
    by_cases hjz : (j : Int) = z
    · rw [(lat_in h1 (by omega)).1, show z.toNat = j by omega, e]
    · have a2 := h5 z.toNat (by omega) (by omega)
      have a3 := getD_mono hs (i := z.toNat) (j := j) (by omega) hj
      omega
/-- the search's width, step by step -/
def hbs : Nat → Int
  | 0 => 1024
  | k + 1 => hbs k / 2
theorem hbs_32 : hbs 32 = 0 := by decide
/-- a row with one number more -/
def rowIns (ks ks' : List Int) (x : Int) : Prop := (∀ y, y ∈ ks' ↔ y ∈ ks ∨ y = x) ∧ ks'.length = ks.length + 1
theorem getD_app {a b : List Int} {j : Nat} : (a ++ b).getD j (-1) = if j < a.length then a.getD j (-1) else b.getD (j - a.length) (-1) := by
  simp only [List.getD_eq_getElem?_getD]
  by_cases h : j < a.length
  · rw [if_pos h, List.getElem?_append_left h]
  · rw [if_neg h, List.getElem?_append_right (by omega)]
theorem rowOK.ins {n : Nat} {f g : Nat → Int} {ks : List Int} {x z : Int} (h : rowOK n f ks) (hz : fnb ks x z) (hx : 0 ≤ x ∧ x < 2147483648) (hm : x ∉ ks) (hl : ks.length < n) (hg : ∀ j, j ≤ ks.length → g j = if (j : Int) < z then f j else if (j : Int) = z then x else f (j - 1)) : ∃ ks', rowOK n g ks' ∧ rowIns ks ks' x := by
  obtain ⟨h1, h2, h3, h4, h5⟩ := h
  obtain ⟨z1, z2, z3, z4, z5⟩ := hz
  have hlt : (ks.take z.toNat).length = z.toNat := by rw [List.length_take]; omega
  refine ⟨ks.take z.toNat ++ x :: ks.drop z.toNat, ⟨?_, h2, ?_, ?_, ?_⟩, ?_, ?_⟩
  · simp; omega
  · intro j hj
    have hj2 : j ≤ ks.length := by simp at hj; omega
    rw [hg j hj2, getD_app, hlt]
    by_cases a : (j : Int) < z
    · rw [if_pos a, if_pos (by omega), h3 j (by omega)]
      simp only [List.getD_eq_getElem?_getD]
      rw [List.getElem?_take, if_pos (by omega)]
    · rw [if_neg a, if_neg (show ¬ j < z.toNat by omega)]
      by_cases b : (j : Int) = z
      · rw [if_pos b, show j - z.toNat = 0 by omega]
        rfl
      · rw [if_neg b, h3 (j - 1) (by omega), show j - z.toNat = (j - 1 - z.toNat) + 1 by omega]
        simp only [List.getD_eq_getElem?_getD, List.getElem?_cons_succ]
        rw [List.getElem?_drop, show z.toNat + (j - 1 - z.toNat) = j - 1 by omega]
  · rw [List.pairwise_append]
    refine ⟨h4.sublist (List.take_sublist _ _), ?_, ?_⟩
    · rw [List.pairwise_cons]
      refine ⟨fun y hy => ?_, h4.sublist (List.drop_sublist _ _)⟩
      obtain ⟨i, hi, e⟩ := List.getElem_of_mem hy
      rw [List.getElem_drop] at e
      rw [List.length_drop] at hi
      have := z5 (z.toNat + i) (by omega) (by omega)
      rw [List.getD_eq_getElem?_getD, List.getElem?_eq_getElem (by omega)] at this
      have e2 : (some ks[z.toNat + i]).getD (-1) = y := e
      rw [e2] at this
      have : y ≠ x := fun q => hm (by rw [← q]; exact List.mem_of_mem_drop hy)
      omega
    · intro y hy w hw
      obtain ⟨i, hi, e⟩ := List.getElem_of_mem hy
      rw [hlt] at hi
      have hyx := z4 i (by omega)
      rw [List.getD_eq_getElem?_getD, List.getElem?_eq_getElem (by omega)] at hyx
      rw [List.getElem_take] at e
      have e2 : (some ks[i]).getD (-1) = y := e
      rw [e2] at hyx
      rcases List.mem_cons.mp hw with rfl | hw
      · exact hyx
      · obtain ⟨i2, hi2, e3⟩ := List.getElem_of_mem hw
        rw [List.getElem_drop] at e3
        rw [List.length_drop] at hi2
        have := z5 (z.toNat + i2) (by omega) (by omega)
        rw [List.getD_eq_getElem?_getD, List.getElem?_eq_getElem (by omega)] at this
        have e4 : (some ks[z.toNat + i2]).getD (-1) = w := e3
        rw [e4] at this
        omega
  · intro y hy
    rcases List.mem_append.mp hy with q | q
    · exact h5 y (List.mem_of_mem_take q)
    · rcases List.mem_cons.mp q with rfl | q
      · exact hx
      · exact h5 y (List.mem_of_mem_drop q)
  · intro y
    constructor
    · intro hy
      rcases List.mem_append.mp hy with q | q
      · exact Or.inl (List.mem_of_mem_take q)
      · rcases List.mem_cons.mp q with rfl | q
        · exact Or.inr rfl
        · exact Or.inl (List.mem_of_mem_drop q)
    · rintro (q | rfl)
      · rw [← List.take_append_drop z.toNat ks] at q
        rcases List.mem_append.mp q with q | q
        · exact List.mem_append_left _ q
        · exact List.mem_append_right _ (List.mem_cons_of_mem _ q)
      · exact List.mem_append_right _ List.mem_cons_self
  · simp; omega
def lix (ks : List Int) (x z : Int) : Prop := (x ∈ ks ∧ 0 ≤ z ∧ z < ks.length ∧ ks.getD z.toNat (-1) = x) ∨ (x ∉ ks ∧ z = -1)
theorem list_eq_getD : ∀ {a b : List Int}, a.length = b.length → (∀ j, j < a.length → a.getD j (-1) = b.getD j (-1)) → a = b := by
  intro a b hl h
  apply List.ext_getElem hl
  intro i h1 h2
  have := h i h1
  rw [List.getD_eq_getElem?_getD, List.getD_eq_getElem?_getD, List.getElem?_eq_getElem h1, List.getElem?_eq_getElem h2] at this
  exact this
end
section
/-! What the bench reads and reckons. -/
def rd (k : Int) (g : Nat → Int) : Nat → Int := fun j => if j < 9 then mdg k j else g j
def nnT (k : Int) : Nat → Int
  | 0 => k / 13824
  | t + 1 => nnT k t / 3
theorem nnT_mdg {k : Int} {t : Nat} (ht : t < 9) : nnT k t % 3 - 1 = mdg k (8 - t) := by
  rcases (show t = 0 ∨ t = 1 ∨ t = 2 ∨ t = 3 ∨ t = 4 ∨ t = 5 ∨ t = 6 ∨ t = 7 ∨ t = 8 by omega) with rfl | rfl | rfl | rfl | rfl | rfl | rfl | rfl | rfl <;> simp only [nnT, mdg, p3, Nat.reduceSub, List.getD_cons_zero, List.getD_cons_succ] <;> omega
theorem nnT_rng {k : Int} (h : 0 ≤ k ∧ k < 2147483648) : ∀ t, 0 ≤ nnT k t ∧ nnT k t < 2147483648
  | 0 => by unfold nnT; omega
  | t + 1 => by
    have := nnT_rng h t
    unfold nnT
    omega
def rdT (k : Int) (g : Nat → Int) (t : Nat) : Nat → Int := fun j => if 9 - t ≤ j ∧ j < 9 then mdg k j else g j
theorem rdT_0 (k : Int) (g : Nat → Int) : rdT k g 0 = g := by
  funext j
  unfold rdT
  rw [if_neg (by omega)]
theorem rdT_9 (k : Int) (g : Nat → Int) : rdT k g 9 = rd k g := by
  funext j
  unfold rdT rd
  by_cases h : j < 9
  · rw [if_pos h, if_pos (by omega)]
  · rw [if_neg h, if_neg (by omega)]
theorem rdT_s {k : Int} {g : Nat → Int} {t : Nat} (ht : t < 9) : zu (rdT k g t) (8 - (t : Int)).toNat (nnT k t % 3 - 1) = rdT k g (t + 1) := by
  funext j
  rw [nnT_mdg ht, show (8 - (t : Int)).toNat = 8 - t by omega]
  unfold zu rdT
  by_cases h : j = 8 - t
  · rw [if_pos h, if_pos (by omega), h]
  · rw [if_neg h]
    by_cases h2 : 9 - t ≤ j ∧ j < 9
    · rw [if_pos h2, if_pos (by omega)]
    · rw [if_neg h2, if_neg (by omega)]
theorem mul_in1 {a b : Int} (ha : -1 ≤ a ∧ a ≤ 1) (hb : -1 ≤ b ∧ b ≤ 1) : -1 ≤ a * b ∧ a * b ≤ 1 := by
  rcases (show a = -1 ∨ a = 0 ∨ a = 1 by omega) with rfl | rfl | rfl <;> omega
theorem mul_in2 {a b n : Int} (ha : -1 ≤ a ∧ a ≤ 1) (hb : -n ≤ b ∧ b ≤ n) : -n ≤ a * b ∧ a * b ≤ n := by
  rcases (show a = -1 ∨ a = 0 ∨ a = 1 by omega) with rfl | rfl | rfl <;> omega
theorem det_rng (k : Int) : -6 ≤ detF (mdg k) ∧ detF (mdg k) ≤ 6 := by
  unfold detF
  have a := mul_in2 (n := 2) (mdg_in k 0) (b := mdg k 4 * mdg k 8 - mdg k 5 * mdg k 7) (by have := mul_in1 (mdg_in k 4) (mdg_in k 8); have := mul_in1 (mdg_in k 5) (mdg_in k 7); omega)
  have b := mul_in2 (n := 2) (mdg_in k 1) (b := mdg k 3 * mdg k 8 - mdg k 5 * mdg k 6) (by have := mul_in1 (mdg_in k 3) (mdg_in k 8); have := mul_in1 (mdg_in k 5) (mdg_in k 6); omega)
  have c := mul_in2 (n := 2) (mdg_in k 2) (b := mdg k 3 * mdg k 7 - mdg k 4 * mdg k 6) (by have := mul_in1 (mdg_in k 3) (mdg_in k 7); have := mul_in1 (mdg_in k 4) (mdg_in k 6); omega)
  omega
def trK (k : Int) : Int := mdg k 0 + mdg k 4 + mdg k 8
theorem tr_rng (k : Int) : -3 ≤ trK k ∧ trK k ≤ 3 := by
  unfold trK
  have := mdg_in k 0
  have := mdg_in k 4
  have := mdg_in k 8
  omega
/-- the SORT of a key's MATRIX -/
def sortK (k : Int) : Int := if detF (mdg k) = 1 ∨ detF (mdg k) = -1 then (if 0 ≤ detF (mdg k) * trK k + 1 ∧ detF (mdg k) * trK k + 1 < 5 then detF (mdg k) * st_sorts.getD (detF (mdg k) * trK k + 1).toNat 0 else 0) else 0
theorem prodD_rng (p q : Int) (t : Nat) : -3 ≤ prodD p q t ∧ prodD p q t ≤ 3 := by
  unfold prodD
  have := mul_in1 (mdg_in p (t / 3 * 3)) (mdg_in q (t % 3))
  have := mul_in1 (mdg_in p (t / 3 * 3 + 1)) (mdg_in q (t % 3 + 3))
  have := mul_in1 (mdg_in p (t / 3 * 3 + 2)) (mdg_in q (t % 3 + 6))
  omega
/-- one of the three numbers that a PLACE is taken to, before the remainder -/
theorem line_rng {a b c x y z s : Int} (ha : -1 ≤ a ∧ a ≤ 1) (hb : -1 ≤ b ∧ b ≤ 1) (hc : -1 ≤ c ∧ c ≤ 1) (hx : 0 ≤ x ∧ x < 24) (hy : 0 ≤ y ∧ y < 24) (hz : 0 ≤ z ∧ z < 24) (hs : 0 ≤ s ∧ s < 24) : -69 ≤ a * x + b * y + c * z + s ∧ a * x + b * y + c * z + s ≤ 92 := by
  have := mul_in2 (n := 23) ha (b := x) (by omega)
  have := mul_in2 (n := 23) hb (b := y) (by omega)
  have := mul_in2 (n := 23) hc (b := z) (by omega)
  omega
theorem rd_in (k : Int) (g : Nat → Int) : ∀ j, j < 9 → -1 ≤ rd k g j ∧ rd k g j ≤ 1 := fun j hj => by
  unfold rd
  rw [if_pos hj]
  exact mdg_in k j
theorem rd_at {k : Int} {g : Nat → Int} {j : Nat} (hj : j < 9) : rd k g j = mdg k j := if_pos hj
theorem prod_at {p q : Int} {gl gr : Nat → Int} {rr c : Nat} (hr : rr < 3) (hc : c < 3) : rd p gl (3 * (rr : Int)).toNat * rd q gr c + rd p gl (3 * (rr : Int) + 1).toNat * rd q gr ((c : Int) + 3).toNat + rd p gl (3 * (rr : Int) + 2).toNat * rd q gr ((c : Int) + 6).toNat = prodD p q (3 * rr + c) := by
  rw [show (3 * (rr : Int)).toNat = 3 * rr by omega, show (3 * (rr : Int) + 1).toNat = 3 * rr + 1 by omega, show (3 * (rr : Int) + 2).toNat = 3 * rr + 2 by omega, show ((c : Int) + 3).toNat = c + 3 by omega, show ((c : Int) + 6).toNat = c + 6 by omega]
  rw [rd_at (by omega), rd_at (by omega), rd_at (by omega), rd_at (by omega), rd_at (by omega), rd_at (by omega)]
  unfold prodD
  rw [show (3 * rr + c) / 3 * 3 = 3 * rr by omega, show (3 * rr + c) % 3 = c by omega]
/-- powers -/
def powK (k : Int) : Nat → Int
  | 0 => u0
  | 1 => k
  | n + 2 => timesK (powK k (n + 1)) k
theorem powK_s {k : Int} {n : Nat} (h : 1 ≤ n) : powK k (n + 1) = timesK (powK k n) k := by
  cases n with
  | zero => omega
  | succ n => rfl
/-- how often it is done until all PLACES are left, if that is so within 192 -/
def trn (k z : Int) : Prop := (1 ≤ z ∧ z ≤ 192 ∧ powK k z.toNat = u0 ∧ ∀ j : Nat, 1 ≤ j → (j : Int) < z → powK k j ≠ u0) ∨ (z = -1 ∧ ((∃ j : Nat, 1 ≤ j ∧ j ≤ 193 ∧ powK k j = -1) ∨ ∀ j : Nat, 1 ≤ j → j ≤ 192 → powK k j ≠ u0))
theorem times_rng {p q : Int} : timesK p q = -1 ∨ kOK (timesK p q) := by
  by_cases h : timesK p q = -1
  · exact Or.inl h
  · exact Or.inr (times_digits h).1
end
section
/-! Closing by cosets. -/
def plL : List Int := (List.range 13824).map (fun (n : Nat) => (n : Int))
theorem mem_plL {x : Int} : x ∈ plL ↔ isPl x := by
  unfold plL isPl
  constructor
  · intro h
    obtain ⟨n, hn, rfl⟩ := List.mem_map.mp h
    have := List.mem_range.mp hn
    omega
  · intro h
    exact List.mem_map.mpr ⟨x.toNat, List.mem_range.mpr (by omega), by omega⟩
theorem plL_nodup : plL.Nodup := by
  unfold plL
  rw [List.nodup_iff_pairwise_ne, List.pairwise_map]
  have h : (List.range 13824).Pairwise (· ≠ ·) := List.nodup_range
  exact h.imp fun h e => h (by omega)
theorem act_surj {k y : Int} (hk : vOK k) (hy : isPl y) : ∃ x, isPl x ∧ movK k x = y := by
  have h1 := nodup_map_on (f := movK k) plL_nodup fun x hx y hy e => hk.2 x y (mem_plL.mp hx) (mem_plL.mp hy) e
  have h2 := full_sub (b := plL) h1 (fun x hx => by
    obtain ⟨z, hz, rfl⟩ := List.mem_map.mp hx
    exact mem_plL.mpr (movK_pl k z)) (by rw [List.length_map]; exact Nat.le_refl _) y (mem_plL.mpr hy)
  obtain ⟨x, hx, e⟩ := List.mem_map.mp h2
  exact ⟨x, mem_plL.mp hx, e⟩
theorem times_rcancel {p q x : Int} (hx : vOK x) (hp : kOK p) (hq : kOK q) (h : timesK p x ≠ -1) (e : timesK p x = timesK q x) : p = q := by
  have h2 : timesK q x ≠ -1 := by rw [← e]; exact h
  refine key_act hp hq fun y hy => ?_
  obtain ⟨z, -, rfl⟩ := act_surj hx hy
  rw [← times_act z h, ← times_act z h2, e]
theorem isG.back {H : List Int} (h : isG H) {a x : Int} (ha : a ∈ H) (hx : kOK x) (hne : timesK a x ≠ -1) : ∃ b ∈ H, timesK b (timesK a x) = x := by
  obtain ⟨b, hb, -, e⟩ := h.inv ha
  refine ⟨b, hb, ?_⟩
  have hba : timesK b a ≠ -1 := by rw [e]; unfold u0; omega
  rw [← times_assoc hba hne, e, u0_l hx]
def cosets (H rs : List Int) : List Int := rs.flatMap (fun r => H.map (fun h => timesK h r))
theorem mem_cosets {H rs : List Int} {x : Int} : x ∈ cosets H rs ↔ ∃ r ∈ rs, ∃ h ∈ H, timesK h r = x := by
  unfold cosets
  rw [List.mem_flatMap]
  constructor
  · rintro ⟨r, hr, hx⟩
    obtain ⟨h, hh, e⟩ := List.mem_map.mp hx
    exact ⟨r, hr, h, hh, e⟩
  · rintro ⟨r, hr, h, hh, e⟩
    exact ⟨r, hr, List.mem_map.mpr ⟨h, hh, e⟩⟩
theorem cosets_add (H rs : List Int) (x : Int) : cosets H (rs ++ [x]) = cosets H rs ++ H.map (fun h => timesK h x) := by
  unfold cosets
  rw [List.flatMap_append]
  simp
theorem cosets_len (H : List Int) : ∀ rs : List Int, (cosets H rs).length = H.length * rs.length
  | [] => by simp [cosets]
  | r :: rs => by
    have := cosets_len H rs
    unfold cosets at *
    rw [List.flatMap_cons, List.length_append, this, List.length_map, List.length_cons, Nat.mul_succ]
    omega
theorem cosets_at (H : List Int) (hH : 0 < H.length) : ∀ (rs : List Int) (i : Nat), i < rs.length → (cosets H rs).getD (H.length * i) (-1) = timesK (H.getD 0 (-1)) (rs.getD i (-1))
  | [], i, h => absurd h (Nat.not_lt_zero _)
  | r :: rs, i, h => by
    have e : cosets H (r :: rs) = H.map (fun h => timesK h r) ++ cosets H rs := by unfold cosets; rw [List.flatMap_cons]
    rw [e, getD_app, List.length_map]
    cases i with
    | zero =>
      rw [Nat.mul_zero, if_pos hH]
      simp only [List.getD_eq_getElem?_getD, List.getElem?_map, List.getElem?_eq_getElem hH, List.getElem?_cons_zero]
      rfl
    | succ i =>
      rw [if_neg (by rw [Nat.mul_succ]; omega), show H.length * (i + 1) - H.length = H.length * i by rw [Nat.mul_succ]; omega, cosets_at H hH rs i (by simpa using h)]
      simp only [List.getD_eq_getElem?_getD, List.getElem?_cons_succ]
def DI (H g ks rs : List Int) : Prop := isG H ∧ H.getD 0 (-1) = u0 ∧ rs.getD 0 (-1) = u0 ∧ (∀ r ∈ rs, vOK r) ∧ (∀ r ∈ rs, ∀ h ∈ H, timesK h r ≠ -1 ∧ Reach g (timesK h r)) ∧ (cosets H rs).Nodup ∧ ∀ x, x ∈ ks ↔ x ∈ cosets H rs
theorem DI.v {H g ks rs : List Int} (h : DI H g ks rs) {x : Int} (hx : x ∈ ks) : vOK x := by
  obtain ⟨r, hr, a, ha, rfl⟩ := mem_cosets.mp ((h.2.2.2.2.2.2 x).mp hx)
  exact vOK_times (h.1.2.2.1 a ha) (h.2.2.2.1 r hr) (h.2.2.2.2.1 r hr a ha).1
theorem DI.fresh {H g ks rs : List Int} (h : DI H g ks rs) {x : Int} (hv : kOK x) (hx : x ∉ ks) {a : Int} (ha : a ∈ H) (hne : timesK a x ≠ -1) : timesK a x ∉ ks := by
  intro hm
  obtain ⟨r, hr, c, hc, e⟩ := mem_cosets.mp ((h.2.2.2.2.2.2 _).mp hm)
  obtain ⟨b, hb, eb⟩ := h.1.back ha hv hne
  have hcr := (h.2.2.2.2.1 r hr c hc).1
  apply hx
  rw [h.2.2.2.2.2.2 x, ← eb, ← e, ← times_assoc (h.1.tne hb hc) hcr]
  exact mem_cosets.mpr ⟨r, hr, timesK b c, h.1.2.2.2 b hb c hc, rfl⟩
theorem DI.blk {H g ks rs : List Int} (h : DI H g ks rs) {x : Int} (hv : vOK x) (hne : ∀ a ∈ H, timesK a x ≠ -1) : (H.map (fun a => timesK a x)).Nodup :=
  nodup_map_on h.1.1 fun a ha b hb e => times_rcancel hv (h.1.2.2.1 a ha).1 (h.1.2.2.1 b hb).1 (hne a ha) e
theorem DI.dis {H g ks rs : List Int} (h : DI H g ks rs) {x : Int} (hv : vOK x) (hx : x ∉ ks) (hne : ∀ a ∈ H, timesK a x ≠ -1) : (cosets H rs ++ H.map (fun a => timesK a x)).Nodup := by
  rw [List.nodup_append]
  refine ⟨h.2.2.2.2.2.1, h.blk hv hne, fun a ha b hb e => ?_⟩
  obtain ⟨c, hc, rfl⟩ := List.mem_map.mp hb
  exact h.fresh hv.1 hx hc (hne c hc) ((h.2.2.2.2.2.2 _).mpr (e ▸ ha))
theorem DI.add {H g ks ks' rs : List Int} (h : DI H g ks rs) {x : Int} (hv : vOK x) (hx : x ∉ ks) (hne : ∀ a ∈ H, timesK a x ≠ -1) (hre : ∀ a ∈ H, Reach g (timesK a x)) (hk : ∀ y, y ∈ ks' ↔ y ∈ ks ∨ y ∈ H.map (fun a => timesK a x)) : DI H g ks' (rs ++ [x]) := by
  have hnd := h.dis hv hx hne
  obtain ⟨h1, h2, h3, h4, h5, h6, h7⟩ := h
  refine ⟨h1, h2, ?_, ?_, ?_, ?_, ?_⟩
  · rw [getD_app]
    by_cases h0 : 0 < rs.length
    · rw [if_pos h0]; exact h3
    · exfalso
      have : rs = [] := List.length_eq_zero_iff.mp (by omega)
      rw [this] at h3
      exact absurd h3 (by decide)
  · intro r hr
    rcases List.mem_append.mp hr with q | q
    · exact h4 r q
    · rw [List.mem_singleton.mp q]; exact hv
  · intro r hr a ha
    rcases List.mem_append.mp hr with q | q
    · exact h5 r q a ha
    · rw [List.mem_singleton.mp q]; exact ⟨hne a ha, hre a ha⟩
  · rw [cosets_add]; exact hnd
  · intro y
    rw [cosets_add, List.mem_append, ← h7, hk]
theorem DI.next {H g ks rs : List Int} (h : DI H g ks rs) {r a : Int} (hr : r ∈ rs) (ha : a ∈ g) (hv : vOK a) (hne : timesK r a ≠ -1) : vOK (timesK r a) ∧ ∀ c ∈ H, timesK c (timesK r a) ≠ -1 → Reach g (timesK c (timesK r a)) := by
  refine ⟨vOK_times (h.2.2.2.1 r hr) hv hne, fun c hc hn => ?_⟩
  have h5 := h.2.2.2.2.1 r hr c hc
  rw [← times_assoc h5.1 hne] at hn ⊢
  exact Reach.step h5.2 ha hn
theorem DI.u {H g ks rs : List Int} (h : DI H g ks rs) : u0 ∈ rs := by
  have h0 : 0 < rs.length := by
    rcases Nat.eq_zero_or_pos rs.length with q | q
    · have : rs = [] := List.length_eq_zero_iff.mp q
      have h3 := h.2.2.1
      rw [this] at h3
      exact absurd h3 (by decide)
    · exact q
  rw [← h.2.2.1]
  exact getD_mem h0
theorem DI.rs_in {H g ks rs : List Int} (h : DI H g ks rs) {r : Int} (hr : r ∈ rs) : r ∈ ks := by
  rw [h.2.2.2.2.2.2]
  exact mem_cosets.mpr ⟨r, hr, u0, h.1.2.1, u0_l (h.2.2.2.1 r hr).1⟩
theorem DI.H_in {H g ks rs : List Int} (h : DI H g ks rs) {a : Int} (ha : a ∈ H) : a ∈ ks := by
  rw [h.2.2.2.2.2.2]
  exact mem_cosets.mpr ⟨u0, h.u, a, ha, u0_r (h.1.2.2.1 a ha).1⟩
theorem DI.closed {H g ks rs : List Int} (h : DI H g ks rs) (hc : ∀ r ∈ rs, ∀ a ∈ g, timesK r a ∈ ks) {x a : Int} (hx : x ∈ ks) (ha : a ∈ g) : timesK x a ∈ ks := by
  obtain ⟨r, hr, c, hcc, rfl⟩ := mem_cosets.mp ((h.2.2.2.2.2.2 x).mp hx)
  have h1 := hc r hr a ha
  have hne : timesK r a ≠ -1 := by have := (h.v h1).1.1; omega
  rw [times_assoc (h.2.2.2.2.1 r hr c hcc).1 hne]
  obtain ⟨r2, hr2, c2, hc2, e⟩ := mem_cosets.mp ((h.2.2.2.2.2.2 _).mp h1)
  rw [← e, ← times_assoc (h.1.tne hcc hc2) (h.2.2.2.2.1 r2 hr2 c2 hc2).1, h.2.2.2.2.2.2]
  exact mem_cosets.mpr ⟨r2, hr2, timesK c c2, h.1.2.2.2 c hcc c2 hc2, rfl⟩
theorem DI.gen {H g ks rs : List Int} (h : DI H g ks rs) (hc : ∀ r ∈ rs, ∀ a ∈ g, timesK r a ∈ ks) (hs : ks.Pairwise (· < ·)) (hl : ks.length ≤ 192) : genOK g ks := by
  refine ⟨hs, hl, fun x => ⟨fun hx => ?_, fun hx => ?_⟩, fun x hx a ha => ?_⟩
  · obtain ⟨r, hr, c, hcc, rfl⟩ := mem_cosets.mp ((h.2.2.2.2.2.2 x).mp hx)
    exact (h.2.2.2.2.1 r hr c hcc).2
  · exact hx (fun x => x ∈ ks) (h.rs_in h.u) fun y a hy ha _ => h.closed hc hy ha
  · have := (h.v (h.closed hc hx ha)).1.1
    omega
theorem DI.in_gen {H g ks rs G : List Int} (h : DI H g ks rs) (hG : genOK g G) {x : Int} (hx : x ∈ ks) : x ∈ G := by
  obtain ⟨r, hr, c, hcc, rfl⟩ := mem_cosets.mp ((h.2.2.2.2.2.2 x).mp hx)
  exact (hG.2.2.1 _).mpr (h.2.2.2.2.1 r hr c hcc).2
theorem DI.fit {H g ks rs G : List Int} (h : DI H g ks rs) (hG : genOK g G) (hg : ∀ a ∈ g, vOK a) {x : Int} (hxG : x ∈ G) (hx : x ∉ ks) : (∀ a ∈ H, timesK a x ≠ -1) ∧ (cosets H rs).length + H.length ≤ 192 := by
  have gG := hG.isG hg
  have h1 : ∀ a ∈ H, timesK a x ∈ G := fun a ha => gG.2.2.2 a (h.in_gen hG (h.H_in ha)) x hxG
  have hne : ∀ a ∈ H, timesK a x ≠ -1 := fun a ha => gG.ne (h1 a ha)
  refine ⟨hne, ?_⟩
  have hnd := h.dis (gG.2.2.1 x hxG) hx hne
  have hl := len_sub _ G hnd fun y hy => by
    rcases List.mem_append.mp hy with q | q
    · exact h.in_gen hG ((h.2.2.2.2.2.2 y).mpr q)
    · obtain ⟨a, ha, rfl⟩ := List.mem_map.mp q
      exact h1 a ha
  rw [List.length_append, List.length_map] at hl
  have := hG.2.1
  omega
/-- at rest: the group of the generators -/
def CIv (ks cm gs : List Int) : Prop := isG cm ∧ cm.getD 0 (-1) = u0 ∧ genOK gs ks ∧ (∀ x, x ∈ ks ↔ x ∈ cm) ∧ 2 ^ gs.length ≤ cm.length ∧ (∀ a ∈ gs, vOK a) ∧ cm.length = ks.length
theorem Reach.mono {g g' : List Int} (hs : ∀ a ∈ g, a ∈ g') {x : Int} (h : Reach g x) : Reach g' x := fun S h0 h1 => h S h0 fun y a hy ha hn => h1 y a hy (hs a ha) hn
theorem CIv.DI {ks cm gs : List Int} (h : CIv ks cm gs) (key : Int) : DI cm (gs ++ [key]) ks [u0] := by
  obtain ⟨h1, h2, h3, h4, h5, h6, h7⟩ := h
  have e : cosets cm [u0] = cm := by
    unfold cosets
    simp only [List.flatMap_cons, List.flatMap_nil, List.append_nil]
    have e2 : cm.map (fun h => timesK h u0) = cm.map id := List.map_congr_left fun a ha => u0_r (h1.2.2.1 a ha).1
    rw [e2, List.map_id]
  refine ⟨h1, h2, rfl, ?_, ?_, ?_, ?_⟩
  · intro r hr
    rw [List.mem_singleton.mp hr]; exact u0_v
  · intro r hr a ha
    rw [List.mem_singleton.mp hr, u0_r (h1.2.2.1 a ha).1]
    refine ⟨h1.ne ha, ?_⟩
    exact Reach.mono (fun b hb => List.mem_append_left _ hb) ((h3.2.2.1 a).mp ((h4 a).mpr ha))
  · rw [e]; exact h1.1
  · rw [e]; exact h4
theorem CIv.start : CIv [u0] [u0] [] := by
  have hg : genOK [] [u0] := by
    refine ⟨List.pairwise_singleton _ _, by decide, fun x => ⟨fun hx => ?_, fun hx => ?_⟩, fun x hx a ha => absurd ha List.not_mem_nil⟩
    · rw [List.mem_singleton.mp hx]; exact Reach.u _
    · exact hx (fun x => x ∈ [u0]) List.mem_cons_self fun y a _ ha _ => absurd ha List.not_mem_nil
  exact ⟨hg.isG (fun a ha => absurd ha List.not_mem_nil), rfl, hg, fun x => Iff.rfl, by decide, fun a ha => absurd ha List.not_mem_nil, rfl⟩
theorem genOK.sub {g ch ks : List Int} (h : genOK ch ks) (hv : ∀ a ∈ ch, vOK a) (hs : ∀ a ∈ g, a ∈ ks) : ∃ ks', genOK g ks' := by
  have gG := h.isG hv
  have hd : ∀ x, Decidable (Reach g x) := fun x => Classical.propDecidable _
  refine ⟨ks.filter (fun x => @decide (Reach g x) (hd x)), h.1.sublist List.filter_sublist, Nat.le_trans (List.length_filter_le _ _) h.2.1, fun x => ?_, fun x hx a ha => ?_⟩
  · rw [List.mem_filter]
    constructor
    · intro q; exact @of_decide_eq_true _ (hd x) q.2
    · intro q
      refine ⟨?_, @decide_eq_true _ (hd x) q⟩
      exact q (fun x => x ∈ ks) gG.2.1 fun y a hy ha _ => gG.2.2.2 y hy a (hs a ha)
  · exact gG.tne (List.mem_filter.mp hx).1 (hs a ha)
theorem genOK.more {g ch ks : List Int} (h : genOK g ks) (hv : ∀ a ∈ g, vOK a) (h1 : ∀ a ∈ g, a ∈ ch) (h2 : ∀ a ∈ ch, a ∈ ks) : genOK ch ks := by
  have gG := h.isG hv
  refine ⟨h.1, h.2.1, fun x => ⟨fun hx => Reach.mono h1 ((h.2.2.1 x).mp hx), fun hx => ?_⟩, fun x hx a ha => gG.tne hx (h2 a ha)⟩
  exact hx (fun x => x ∈ ks) gG.2.1 fun y a hy ha _ => gG.2.2.2 y hy a (h2 a ha)
end
section
/-! The closure's cells and what they hold. -/
abbrev CS : Type := Int × (Nat → Int) × (Nat → Int) × Int × (Nat → Int) × Int × (Nat → Int) × (Nat → Int)
def CSt (fs : Int) (ff fc : Nat → Int) (cc : Int) (fg : Nat → Int) (gc : Int) (ks cm gs : List Int) : Prop :=
  rowOK 192 ff ks ∧ fs = (ks.length : Int) ∧ (∀ j, j < cm.length → fc j = cm.getD j (-1)) ∧ cc = (cm.length : Int) ∧ cm.length ≤ 192 ∧ (∀ j, j < gs.length → fg j = gs.getD j (-1)) ∧ gc = (gs.length : Int) ∧ gs.length ≤ 10 ∧ cm.length = ks.length
theorem times_bd (p q : Int) : -1 ≤ timesK p q ∧ timesK p q < 272097792 := by
  rcases times_rng (p := p) (q := q) with h | h
  · omega
  · unfold kOK at h; omega
theorem getD_snoc {a : List Int} {x : Int} {j : Nat} : (a ++ [x]).getD j (-1) = if j < a.length then a.getD j (-1) else if j = a.length then x else -1 := by
  rw [getD_app]
  by_cases h : j < a.length
  · rw [if_pos h, if_pos h]
  · rw [if_neg h, if_neg h]
    by_cases h2 : j = a.length
    · rw [if_pos h2, h2, Nat.sub_self]
      rfl
    · rw [if_neg h2, getD_out (by simp; omega)]
theorem cst_step {fs : Int} {ff fc : Nat → Int} {cc : Int} {fg : Nat → Int} {gc : Int} {ks cm gs : List Int} (h : CSt fs ff fc cc fg gc ks cm gs) (hl : cm.length < 192) {x : Int} {ff2 : Nat → Int} {ks2 : List Int} (h2 : rowOK 192 ff2 ks2) (hi : rowIns ks ks2 x) : CSt (ks2.length : Int) ff2 (zu fc cm.length x) (cc + 1) fg gc ks2 (cm ++ [x]) gs := by
  obtain ⟨h1, -, h3, h4, h5, h6, h7, h8, h9⟩ := h
  refine ⟨h2, rfl, fun j hj => ?_, ?_, ?_, h6, h7, h8, ?_⟩
  · rw [getD_snoc]
    unfold zu
    rw [List.length_append, List.length_singleton] at hj
    by_cases a : j < cm.length
    · rw [if_neg (by omega), if_pos a, h3 j a]
    · rw [if_pos (by omega), if_neg a, if_pos (by omega)]
  · rw [h4, List.length_append, List.length_singleton]; omega
  · rw [List.length_append, List.length_singleton]; omega
  · rw [List.length_append, List.length_singleton, hi.2]; omega
/-- the coset, as far as it has come -/
def cmI (cm : List Int) (key : Int) (i : Nat) : List Int := cm ++ (cm.take i).map (fun h => timesK h key)
theorem cmI_0 (cm : List Int) (key : Int) : cmI cm key 0 = cm := by simp [cmI]
theorem cmI_s {cm : List Int} {key : Int} {i : Nat} (h : i < cm.length) : cmI cm key (i + 1) = cmI cm key i ++ [timesK (cm.getD i (-1)) key] := by
  unfold cmI
  rw [List.take_succ_eq_append_getElem h, List.map_append, List.append_assoc]
  simp [h]
theorem cmI_len {cm : List Int} {key : Int} {i : Nat} (h : i ≤ cm.length) : (cmI cm key i).length = cm.length + i := by
  unfold cmI
  rw [List.length_append, List.length_map, List.length_take]
  omega
theorem cmI_at {cm : List Int} {key : Int} {i j : Nat} (h : j < cm.length) : (cmI cm key i).getD j (-1) = cm.getD j (-1) := by
  unfold cmI
  rw [getD_app, if_pos h]
theorem mem_take_getD {cm : List Int} {n : Nat} {x : Int} : x ∈ cm.take n ↔ ∃ j, j < n ∧ j < cm.length ∧ cm.getD j (-1) = x := by
  constructor
  · intro h
    obtain ⟨j, hj, e⟩ := List.getElem_of_mem h
    rw [List.length_take] at hj
    rw [List.getElem_take] at e
    refine ⟨j, by omega, by omega, ?_⟩
    rw [List.getD_eq_getElem?_getD, List.getElem?_eq_getElem (by omega)]
    exact e
  · rintro ⟨j, h1, h2, rfl⟩
    rw [List.getD_eq_getElem?_getD, List.getElem?_eq_getElem h2]
    have : (cm.take n)[j]? = some cm[j] := by rw [List.getElem?_take, if_pos h1, List.getElem?_eq_getElem h2]
    exact List.mem_of_getElem? this
/-- what is new of a coset -/
def newAt (cm : List Int) (key : Int) (i : Nat) (x : Int) : Prop := ∃ j, j < i ∧ j < cm.length ∧ timesK (cm.getD j (-1)) key = x
theorem mem_new {cm : List Int} {key x : Int} {i : Nat} : x ∈ (cm.take i).map (fun h => timesK h key) ↔ newAt cm key i x := by
  rw [List.mem_map]
  constructor
  · rintro ⟨a, ha, e⟩
    obtain ⟨j, h1, h2, rfl⟩ := mem_take_getD.mp ha
    exact ⟨j, h1, h2, e⟩
  · rintro ⟨j, h1, h2, e⟩
    exact ⟨_, mem_take_getD.mpr ⟨j, h1, h2, rfl⟩, e⟩
end
section
/-! decode rows: written by wip/whole/names.py -/
theorem dRO_init_0 : decode cRO_init 0 = .ok (.aload_n 0, 1) := by decide +kernel
theorem dRO_init_1 : decode cRO_init 1 = .ok (.invokespecial 3, 3) := by decide +kernel
theorem dRO_init_4 : decode cRO_init 4 = .ok (.aload_n 0, 1) := by decide +kernel
theorem dRO_init_5 : decode cRO_init 5 = .ok (.iconst 0, 1) := by decide +kernel
theorem dRO_init_6 : decode cRO_init 6 = .ok (.putfield 9, 3) := by decide +kernel
theorem dRO_init_9 : decode cRO_init 9 = .ok (.aload_n 0, 1) := by decide +kernel
theorem dRO_init_10 : decode cRO_init 10 = .ok (.iload_n 1, 1) := by decide +kernel
theorem dRO_init_11 : decode cRO_init 11 = .ok (.iconst 0, 1) := by decide +kernel
theorem dRO_init_12 : decode cRO_init 12 = .ok (.invokestatic 15, 3) := by decide +kernel
theorem dRO_init_15 : decode cRO_init 15 = .ok (.newarray .int, 2) := by decide +kernel
theorem dRO_init_17 : decode cRO_init 17 = .ok (.putfield 21, 3) := by decide +kernel
theorem dRO_init_20 : decode cRO_init 20 = .ok (.return_, 1) := by decide +kernel
theorem dRO_clear_0 : decode cRO_clear 0 = .ok (.aload_n 0, 1) := by decide +kernel
theorem dRO_clear_1 : decode cRO_clear 1 = .ok (.iconst 0, 1) := by decide +kernel
theorem dRO_clear_2 : decode cRO_clear 2 = .ok (.putfield 9, 3) := by decide +kernel
theorem dRO_clear_5 : decode cRO_clear 5 = .ok (.return_, 1) := by decide +kernel
theorem dRO_add_0 : decode cRO_add 0 = .ok (.aload_n 0, 1) := by decide +kernel
theorem dRO_add_1 : decode cRO_add 1 = .ok (.iload_n 1, 1) := by decide +kernel
theorem dRO_add_2 : decode cRO_add 2 = .ok (.invokevirtual 29, 3) := by decide +kernel
theorem dRO_add_5 : decode cRO_add 5 = .ok (.istore_n 2, 1) := by decide +kernel
theorem dRO_add_6 : decode cRO_add 6 = .ok (.aload_n 0, 1) := by decide +kernel
theorem dRO_add_7 : decode cRO_add 7 = .ok (.iload_n 2, 1) := by decide +kernel
theorem dRO_add_8 : decode cRO_add 8 = .ok (.invokevirtual 32, 3) := by decide +kernel
theorem dRO_add_11 : decode cRO_add 11 = .ok (.iload_n 1, 1) := by decide +kernel
theorem dRO_add_12 : decode cRO_add 12 = .ok (.if_icmp .ne 5, 3) := by decide +kernel
theorem dRO_add_15 : decode cRO_add 15 = .ok (.iconst 1, 1) := by decide +kernel
theorem dRO_add_16 : decode cRO_add 16 = .ok (.ireturn, 1) := by decide +kernel
theorem dRO_add_17 : decode cRO_add 17 = .ok (.iload_n 1, 1) := by decide +kernel
theorem dRO_add_18 : decode cRO_add 18 = .ok (.ifCond .lt 27, 3) := by decide +kernel
theorem dRO_add_21 : decode cRO_add 21 = .ok (.iload_n 2, 1) := by decide +kernel
theorem dRO_add_22 : decode cRO_add 22 = .ok (.ifCond .lt 23, 3) := by decide +kernel
theorem dRO_add_25 : decode cRO_add 25 = .ok (.iload_n 2, 1) := by decide +kernel
theorem dRO_add_26 : decode cRO_add 26 = .ok (.aload_n 0, 1) := by decide +kernel
theorem dRO_add_27 : decode cRO_add 27 = .ok (.getfield 9, 3) := by decide +kernel
theorem dRO_add_30 : decode cRO_add 30 = .ok (.if_icmp .gt 15, 3) := by decide +kernel
theorem dRO_add_33 : decode cRO_add 33 = .ok (.aload_n 0, 1) := by decide +kernel
theorem dRO_add_34 : decode cRO_add 34 = .ok (.getfield 9, 3) := by decide +kernel
theorem dRO_add_37 : decode cRO_add 37 = .ok (.aload_n 0, 1) := by decide +kernel
theorem dRO_add_38 : decode cRO_add 38 = .ok (.getfield 21, 3) := by decide +kernel
theorem dRO_add_41 : decode cRO_add 41 = .ok (.arraylength, 1) := by decide +kernel
theorem dRO_add_42 : decode cRO_add 42 = .ok (.if_icmp .lt 5, 3) := by decide +kernel
theorem dRO_add_45 : decode cRO_add 45 = .ok (.iconst 0, 1) := by decide +kernel
theorem dRO_add_46 : decode cRO_add 46 = .ok (.ireturn, 1) := by decide +kernel
theorem dRO_add_47 : decode cRO_add 47 = .ok (.aload_n 0, 1) := by decide +kernel
theorem dRO_add_48 : decode cRO_add 48 = .ok (.getfield 21, 3) := by decide +kernel
theorem dRO_add_51 : decode cRO_add 51 = .ok (.iload_n 2, 1) := by decide +kernel
theorem dRO_add_52 : decode cRO_add 52 = .ok (.aload_n 0, 1) := by decide +kernel
theorem dRO_add_53 : decode cRO_add 53 = .ok (.getfield 21, 3) := by decide +kernel
theorem dRO_add_56 : decode cRO_add 56 = .ok (.iload_n 2, 1) := by decide +kernel
theorem dRO_add_57 : decode cRO_add 57 = .ok (.iconst 1, 1) := by decide +kernel
theorem dRO_add_58 : decode cRO_add 58 = .ok (.iadd, 1) := by decide +kernel
theorem dRO_add_59 : decode cRO_add 59 = .ok (.aload_n 0, 1) := by decide +kernel
theorem dRO_add_60 : decode cRO_add 60 = .ok (.getfield 9, 3) := by decide +kernel
theorem dRO_add_63 : decode cRO_add 63 = .ok (.iload_n 2, 1) := by decide +kernel
theorem dRO_add_64 : decode cRO_add 64 = .ok (.isub, 1) := by decide +kernel
theorem dRO_add_65 : decode cRO_add 65 = .ok (.invokestatic 35, 3) := by decide +kernel
theorem dRO_add_68 : decode cRO_add 68 = .ok (.aload_n 0, 1) := by decide +kernel
theorem dRO_add_69 : decode cRO_add 69 = .ok (.getfield 21, 3) := by decide +kernel
theorem dRO_add_72 : decode cRO_add 72 = .ok (.iload_n 2, 1) := by decide +kernel
theorem dRO_add_73 : decode cRO_add 73 = .ok (.iload_n 1, 1) := by decide +kernel
theorem dRO_add_74 : decode cRO_add 74 = .ok (.iastore, 1) := by decide +kernel
theorem dRO_add_75 : decode cRO_add 75 = .ok (.aload_n 0, 1) := by decide +kernel
theorem dRO_add_76 : decode cRO_add 76 = .ok (.dup, 1) := by decide +kernel
theorem dRO_add_77 : decode cRO_add 77 = .ok (.getfield 9, 3) := by decide +kernel
theorem dRO_add_80 : decode cRO_add 80 = .ok (.iconst 1, 1) := by decide +kernel
theorem dRO_add_81 : decode cRO_add 81 = .ok (.iadd, 1) := by decide +kernel
theorem dRO_add_82 : decode cRO_add 82 = .ok (.putfield 9, 3) := by decide +kernel
theorem dRO_add_85 : decode cRO_add 85 = .ok (.iconst 1, 1) := by decide +kernel
theorem dRO_add_86 : decode cRO_add 86 = .ok (.ireturn, 1) := by decide +kernel
theorem dRO_firstNotBelow_0 : decode cRO_firstNotBelow 0 = .ok (.iconst 0, 1) := by decide +kernel
theorem dRO_firstNotBelow_1 : decode cRO_firstNotBelow 1 = .ok (.istore_n 2, 1) := by decide +kernel
theorem dRO_firstNotBelow_2 : decode cRO_firstNotBelow 2 = .ok (.aload_n 0, 1) := by decide +kernel
theorem dRO_firstNotBelow_3 : decode cRO_firstNotBelow 3 = .ok (.getfield 9, 3) := by decide +kernel
theorem dRO_firstNotBelow_6 : decode cRO_firstNotBelow 6 = .ok (.istore_n 3, 1) := by decide +kernel
theorem dRO_firstNotBelow_7 : decode cRO_firstNotBelow 7 = .ok (.iconst 0, 1) := by decide +kernel
theorem dRO_firstNotBelow_8 : decode cRO_firstNotBelow 8 = .ok (.istore 4, 2) := by decide +kernel
theorem dRO_firstNotBelow_10 : decode cRO_firstNotBelow 10 = .ok (.iload 4, 2) := by decide +kernel
theorem dRO_firstNotBelow_12 : decode cRO_firstNotBelow 12 = .ok (.bipush 32, 2) := by decide +kernel
theorem dRO_firstNotBelow_14 : decode cRO_firstNotBelow 14 = .ok (.if_icmp .ge 53, 3) := by decide +kernel
theorem dRO_firstNotBelow_17 : decode cRO_firstNotBelow 17 = .ok (.iload_n 2, 1) := by decide +kernel
theorem dRO_firstNotBelow_18 : decode cRO_firstNotBelow 18 = .ok (.iload_n 3, 1) := by decide +kernel
theorem dRO_firstNotBelow_19 : decode cRO_firstNotBelow 19 = .ok (.if_icmp .ge 48, 3) := by decide +kernel
theorem dRO_firstNotBelow_22 : decode cRO_firstNotBelow 22 = .ok (.iload_n 2, 1) := by decide +kernel
theorem dRO_firstNotBelow_23 : decode cRO_firstNotBelow 23 = .ok (.iload_n 3, 1) := by decide +kernel
theorem dRO_firstNotBelow_24 : decode cRO_firstNotBelow 24 = .ok (.iadd, 1) := by decide +kernel
theorem dRO_firstNotBelow_25 : decode cRO_firstNotBelow 25 = .ok (.iconst 1, 1) := by decide +kernel
theorem dRO_firstNotBelow_26 : decode cRO_firstNotBelow 26 = .ok (.iushr, 1) := by decide +kernel
theorem dRO_firstNotBelow_27 : decode cRO_firstNotBelow 27 = .ok (.istore 5, 2) := by decide +kernel
theorem dRO_firstNotBelow_29 : decode cRO_firstNotBelow 29 = .ok (.iload 5, 2) := by decide +kernel
theorem dRO_firstNotBelow_31 : decode cRO_firstNotBelow 31 = .ok (.aload_n 0, 1) := by decide +kernel
theorem dRO_firstNotBelow_32 : decode cRO_firstNotBelow 32 = .ok (.getfield 21, 3) := by decide +kernel
theorem dRO_firstNotBelow_35 : decode cRO_firstNotBelow 35 = .ok (.arraylength, 1) := by decide +kernel
theorem dRO_firstNotBelow_36 : decode cRO_firstNotBelow 36 = .ok (.if_icmp .ge 22, 3) := by decide +kernel
theorem dRO_firstNotBelow_39 : decode cRO_firstNotBelow 39 = .ok (.aload_n 0, 1) := by decide +kernel
theorem dRO_firstNotBelow_40 : decode cRO_firstNotBelow 40 = .ok (.getfield 21, 3) := by decide +kernel
theorem dRO_firstNotBelow_43 : decode cRO_firstNotBelow 43 = .ok (.iload 5, 2) := by decide +kernel
theorem dRO_firstNotBelow_45 : decode cRO_firstNotBelow 45 = .ok (.iaload, 1) := by decide +kernel
theorem dRO_firstNotBelow_46 : decode cRO_firstNotBelow 46 = .ok (.iload_n 1, 1) := by decide +kernel
theorem dRO_firstNotBelow_47 : decode cRO_firstNotBelow 47 = .ok (.if_icmp .ge 11, 3) := by decide +kernel
theorem dRO_firstNotBelow_50 : decode cRO_firstNotBelow 50 = .ok (.iload 5, 2) := by decide +kernel
theorem dRO_firstNotBelow_52 : decode cRO_firstNotBelow 52 = .ok (.iconst 1, 1) := by decide +kernel
theorem dRO_firstNotBelow_53 : decode cRO_firstNotBelow 53 = .ok (.iadd, 1) := by decide +kernel
theorem dRO_firstNotBelow_54 : decode cRO_firstNotBelow 54 = .ok (.istore_n 2, 1) := by decide +kernel
theorem dRO_firstNotBelow_55 : decode cRO_firstNotBelow 55 = .ok (.goto 6, 3) := by decide +kernel
theorem dRO_firstNotBelow_58 : decode cRO_firstNotBelow 58 = .ok (.iload 5, 2) := by decide +kernel
theorem dRO_firstNotBelow_60 : decode cRO_firstNotBelow 60 = .ok (.istore_n 3, 1) := by decide +kernel
theorem dRO_firstNotBelow_61 : decode cRO_firstNotBelow 61 = .ok (.iinc 4 1, 3) := by decide +kernel
theorem dRO_firstNotBelow_64 : decode cRO_firstNotBelow 64 = .ok (.goto (-54), 3) := by decide +kernel
theorem dRO_firstNotBelow_67 : decode cRO_firstNotBelow 67 = .ok (.iload_n 2, 1) := by decide +kernel
theorem dRO_firstNotBelow_68 : decode cRO_firstNotBelow 68 = .ok (.ireturn, 1) := by decide +kernel
theorem dRO_at_0 : decode cRO_at 0 = .ok (.iload_n 1, 1) := by decide +kernel
theorem dRO_at_1 : decode cRO_at 1 = .ok (.ifCond .lt 29, 3) := by decide +kernel
theorem dRO_at_4 : decode cRO_at 4 = .ok (.iload_n 1, 1) := by decide +kernel
theorem dRO_at_5 : decode cRO_at 5 = .ok (.aload_n 0, 1) := by decide +kernel
theorem dRO_at_6 : decode cRO_at 6 = .ok (.getfield 9, 3) := by decide +kernel
theorem dRO_at_9 : decode cRO_at 9 = .ok (.if_icmp .ge 21, 3) := by decide +kernel
theorem dRO_at_12 : decode cRO_at 12 = .ok (.iload_n 1, 1) := by decide +kernel
theorem dRO_at_13 : decode cRO_at 13 = .ok (.aload_n 0, 1) := by decide +kernel
theorem dRO_at_14 : decode cRO_at 14 = .ok (.getfield 21, 3) := by decide +kernel
theorem dRO_at_17 : decode cRO_at 17 = .ok (.arraylength, 1) := by decide +kernel
theorem dRO_at_18 : decode cRO_at 18 = .ok (.if_icmp .ge 12, 3) := by decide +kernel
theorem dRO_at_21 : decode cRO_at 21 = .ok (.aload_n 0, 1) := by decide +kernel
theorem dRO_at_22 : decode cRO_at 22 = .ok (.getfield 21, 3) := by decide +kernel
theorem dRO_at_25 : decode cRO_at 25 = .ok (.iload_n 1, 1) := by decide +kernel
theorem dRO_at_26 : decode cRO_at 26 = .ok (.iaload, 1) := by decide +kernel
theorem dRO_at_27 : decode cRO_at 27 = .ok (.goto 4, 3) := by decide +kernel
theorem dRO_at_30 : decode cRO_at 30 = .ok (.iconst (-1), 1) := by decide +kernel
theorem dRO_at_31 : decode cRO_at 31 = .ok (.ireturn, 1) := by decide +kernel
theorem dRO_has_0 : decode cRO_has 0 = .ok (.aload_n 0, 1) := by decide +kernel
theorem dRO_has_1 : decode cRO_has 1 = .ok (.iload_n 1, 1) := by decide +kernel
theorem dRO_has_2 : decode cRO_has 2 = .ok (.invokevirtual 25, 3) := by decide +kernel
theorem dRO_has_5 : decode cRO_has 5 = .ok (.iconst (-1), 1) := by decide +kernel
theorem dRO_has_6 : decode cRO_has 6 = .ok (.if_icmp .eq 7, 3) := by decide +kernel
theorem dRO_has_9 : decode cRO_has 9 = .ok (.iconst 1, 1) := by decide +kernel
theorem dRO_has_10 : decode cRO_has 10 = .ok (.goto 4, 3) := by decide +kernel
theorem dRO_has_13 : decode cRO_has 13 = .ok (.iconst 0, 1) := by decide +kernel
theorem dRO_has_14 : decode cRO_has 14 = .ok (.ireturn, 1) := by decide +kernel
theorem dRO_indexOf_0 : decode cRO_indexOf 0 = .ok (.aload_n 0, 1) := by decide +kernel
theorem dRO_indexOf_1 : decode cRO_indexOf 1 = .ok (.iload_n 1, 1) := by decide +kernel
theorem dRO_indexOf_2 : decode cRO_indexOf 2 = .ok (.invokevirtual 29, 3) := by decide +kernel
theorem dRO_indexOf_5 : decode cRO_indexOf 5 = .ok (.istore_n 2, 1) := by decide +kernel
theorem dRO_indexOf_6 : decode cRO_indexOf 6 = .ok (.iload_n 1, 1) := by decide +kernel
theorem dRO_indexOf_7 : decode cRO_indexOf 7 = .ok (.ifCond .lt 16, 3) := by decide +kernel
theorem dRO_indexOf_10 : decode cRO_indexOf 10 = .ok (.aload_n 0, 1) := by decide +kernel
theorem dRO_indexOf_11 : decode cRO_indexOf 11 = .ok (.iload_n 2, 1) := by decide +kernel
theorem dRO_indexOf_12 : decode cRO_indexOf 12 = .ok (.invokevirtual 32, 3) := by decide +kernel
theorem dRO_indexOf_15 : decode cRO_indexOf 15 = .ok (.iload_n 1, 1) := by decide +kernel
theorem dRO_indexOf_16 : decode cRO_indexOf 16 = .ok (.if_icmp .ne 7, 3) := by decide +kernel
theorem dRO_indexOf_19 : decode cRO_indexOf 19 = .ok (.iload_n 2, 1) := by decide +kernel
theorem dRO_indexOf_20 : decode cRO_indexOf 20 = .ok (.goto 4, 3) := by decide +kernel
theorem dRO_indexOf_23 : decode cRO_indexOf 23 = .ok (.iconst (-1), 1) := by decide +kernel
theorem dRO_indexOf_24 : decode cRO_indexOf 24 = .ok (.ireturn, 1) := by decide +kernel
theorem dRO_isLike_0 : decode cRO_isLike 0 = .ok (.aload_n 0, 1) := by decide +kernel
theorem dRO_isLike_1 : decode cRO_isLike 1 = .ok (.getfield 9, 3) := by decide +kernel
theorem dRO_isLike_4 : decode cRO_isLike 4 = .ok (.aload_n 1, 1) := by decide +kernel
theorem dRO_isLike_5 : decode cRO_isLike 5 = .ok (.getfield 9, 3) := by decide +kernel
theorem dRO_isLike_8 : decode cRO_isLike 8 = .ok (.if_icmp .eq 5, 3) := by decide +kernel
theorem dRO_isLike_11 : decode cRO_isLike 11 = .ok (.iconst 0, 1) := by decide +kernel
theorem dRO_isLike_12 : decode cRO_isLike 12 = .ok (.ireturn, 1) := by decide +kernel
theorem dRO_isLike_13 : decode cRO_isLike 13 = .ok (.iconst 0, 1) := by decide +kernel
theorem dRO_isLike_14 : decode cRO_isLike 14 = .ok (.istore_n 2, 1) := by decide +kernel
theorem dRO_isLike_15 : decode cRO_isLike 15 = .ok (.iload_n 2, 1) := by decide +kernel
theorem dRO_isLike_16 : decode cRO_isLike 16 = .ok (.aload_n 0, 1) := by decide +kernel
theorem dRO_isLike_17 : decode cRO_isLike 17 = .ok (.getfield 9, 3) := by decide +kernel
theorem dRO_isLike_20 : decode cRO_isLike 20 = .ok (.if_icmp .ge 24, 3) := by decide +kernel
theorem dRO_isLike_23 : decode cRO_isLike 23 = .ok (.aload_n 0, 1) := by decide +kernel
theorem dRO_isLike_24 : decode cRO_isLike 24 = .ok (.iload_n 2, 1) := by decide +kernel
theorem dRO_isLike_25 : decode cRO_isLike 25 = .ok (.invokevirtual 32, 3) := by decide +kernel
theorem dRO_isLike_28 : decode cRO_isLike 28 = .ok (.aload_n 1, 1) := by decide +kernel
theorem dRO_isLike_29 : decode cRO_isLike 29 = .ok (.iload_n 2, 1) := by decide +kernel
theorem dRO_isLike_30 : decode cRO_isLike 30 = .ok (.invokevirtual 32, 3) := by decide +kernel
theorem dRO_isLike_33 : decode cRO_isLike 33 = .ok (.if_icmp .eq 5, 3) := by decide +kernel
theorem dRO_isLike_36 : decode cRO_isLike 36 = .ok (.iconst 0, 1) := by decide +kernel
theorem dRO_isLike_37 : decode cRO_isLike 37 = .ok (.ireturn, 1) := by decide +kernel
theorem dRO_isLike_38 : decode cRO_isLike 38 = .ok (.iinc 2 1, 3) := by decide +kernel
theorem dRO_isLike_41 : decode cRO_isLike 41 = .ok (.goto (-26), 3) := by decide +kernel
theorem dRO_isLike_44 : decode cRO_isLike 44 = .ok (.iconst 1, 1) := by decide +kernel
theorem dRO_isLike_45 : decode cRO_isLike 45 = .ok (.ireturn, 1) := by decide +kernel
theorem dRO_size_0 : decode cRO_size 0 = .ok (.aload_n 0, 1) := by decide +kernel
theorem dRO_size_1 : decode cRO_size 1 = .ok (.getfield 9, 3) := by decide +kernel
theorem dRO_size_4 : decode cRO_size 4 = .ok (.ireturn, 1) := by decide +kernel
end
section
/-! Row: written by wip/whole/genrow.py -/
def rmRO_size : Room := { frames := 0, cells := 0, slots := 0, locals := 0 }
set_option maxHeartbeats 4000000 in
set_option maxRecDepth 100000 in
theorem mRO_size (l : Launch) (D : va_G) (cI cG : ClassId) (r a : Nat) (sz : Int)  : zRI l yRO_size wRO_size rmRO_size D vwCl (zT cI cG) [.ref r] [(r, .inr (5, [.ref a, .int (iI sz)]))] (fun z => z = sz) := by
  refine zRI.of (cc := cRO_size) (maxL := 1) (rt := .int) (by decide) rfl (Nat.le_of_ble_eq_true rfl) (fun _ _ => rfl) ?_
  intro p e s m args below meth c ls Q hx hb hml hown hts hK hP hX hl hret
  have hS0 : va_S (fun _ => False) s.heap s.heap [] := va_S.rf
  have hl : lv_has ls 1 [(0, .ref r)] := hl
  refine lv_aload_n hx hb dRO_size_0 rfl (lv_at hl 0 rfl) ?_
  refine va_get (D := D) (ci := 5) (v := .int (iI sz)) (C := nRO) (T := fRO) (N := 2) hx hb hts iwRO hown hK hP 0 rfl rfl 1 (by decide) (hts _ (List.mem_cons_of_mem _ lkRO_9)) (fun _ h9 => h9) rfl dRO_size_1 ?_
  exact hret 4 ls sz rfl dRO_size_4

def rmRO_clear : Room := { frames := 0, cells := 0, slots := 0, locals := 0 }
set_option maxHeartbeats 4000000 in
set_option maxRecDepth 100000 in
theorem mRO_clear (l : Launch) (D : va_G) (cI cG : ClassId) (r a : Nat) (sz : Int)  : zV l yRO_clear wRO_clear rmRO_clear D vwCl (zT cI cG) [.ref r] [(r, .inr (5, [.ref a, .int (iI sz)]))] (S := Unit) (fun u => True) (fun u => [(r, .inr (5, [.ref a, .int (iI 0)]))]) := by
  refine zV.of (cc := cRO_clear) (maxL := 1) (by decide) rfl (Nat.le_of_ble_eq_true rfl) ?_
  intro p e s m args below meth c A ls Q hx hb hml hown hts hnm hK hD hA hAe hX hl hret H locs hP hS
  have hl : lv_has ls 1 [(0, .ref r)] := hl
  refine lv_aload_n hx hb dRO_clear_0 rfl (lv_at hl 0 rfl) ?_
  refine lv_iconst (v := iI (0)) hx hb dRO_clear_1 rfl ?_
  refine va_put (D := D) (ci := 5) (v := .int (iI 0)) (ty := .int) (C := nRO) (T := fRO) (N := 2) hx hb hts iwRO tRO tkRO nmRO hown hK hP hD hS 0 rfl rfl 1 (by decide) (hts _ (List.mem_cons_of_mem _ lkRO_9)) (fun _ h9 => h9) rfl (by decide +kernel) rfl rfl (Nat.le_of_ble_eq_true rfl) dRO_clear_2 (fun H locs hP hD hS => ?_)
  have hP : va_P D vwCl [(r, .inr (5, [.ref a, .int (iI 0)]))] H := hP
  have hD : va_D A [(r, .inr (5, [.ref a, .int (iI 0)]))] := hD
  exact hret H locs 0 0 5 ls () trivial (hP.sub [0] rfl) (hD.sub [0] (by decide) rfl) hS (Nat.zero_le _) (Nat.zero_le _) dRO_clear_5

def rmRO_at : Room := { frames := 0, cells := 0, slots := 0, locals := 0 }
set_option maxHeartbeats 4000000 in
set_option maxRecDepth 100000 in
theorem mRO_at (l : Launch) (D : va_G) (cI cG : ClassId) (r a n : Nat) (f : Nat → Int) (ks : List Int) (k : Int) (h : rowOK n f ks) (hk : -2147483648 ≤ k ∧ k < 2147483648) : zRI l yRO_at wRO_at rmRO_at D vwCl (zT cI cG) [.ref r, .int (iI k)] [(r, .inr (5, [.ref a, .int (iI (ks.length : Int))])), (a, .inl (cI, n, .inl (zf f)))] (fun z => z = lat ks k) := by
  refine zRI.of (cc := cRO_at) (maxL := 2) (rt := .int) (by decide) rfl (Nat.le_of_ble_eq_true rfl) (fun _ _ => rfl) ?_
  intro p e s m args below meth c ls Q hx hb hml hown hts hK hP hX hl hret
  have hS0 : va_S (fun _ => False) s.heap s.heap [] := va_S.rf
  have hl : lv_has ls 2 [(0, .ref r), (1, .int (iI k))] := hl
  have hb1 := h.1
  have hb2 := h.2.1
  refine lv_iload_n hx hb dRO_at_0 rfl (lv_at hl 1 rfl) ?_
  refine lz_if_lt (tgt := 30) hx hb dRO_at_1 (by decide) (by omega) (fun c_1 => ?_) (fun c_1 => ?_)
  · refine lv_iconst (v := iI (-1)) hx hb dRO_at_30 rfl ?_
    exact hret 31 ls (-1) (lat_out (by omega)).symm dRO_at_31
  · refine lv_iload_n hx hb dRO_at_4 rfl (lv_at hl 1 rfl) ?_
    refine lv_aload_n hx hb dRO_at_5 rfl (lv_at hl 0 rfl) ?_
    refine va_get (D := D) (ci := 5) (v := .int (iI (ks.length : Int))) (C := nRO) (T := fRO) (N := 2) hx hb hts iwRO hown hK hP 0 rfl rfl 1 (by decide) (hts _ (List.mem_cons_of_mem _ lkRO_9)) (fun _ h9 => h9) rfl dRO_at_6 ?_
    refine lz_icmp_ge (tgt := 30) hx hb dRO_at_9 (by decide) (by omega) (by omega) (fun c_9 => ?_) (fun c_9 => ?_)
    · refine lv_iconst (v := iI (-1)) hx hb dRO_at_30 rfl ?_
      exact hret 31 ls (-1) (lat_out (by omega)).symm dRO_at_31
    · refine lv_iload_n hx hb dRO_at_12 rfl (lv_at hl 1 rfl) ?_
      refine lv_aload_n hx hb dRO_at_13 rfl (lv_at hl 0 rfl) ?_
      refine va_get (D := D) (ci := 5) (v := .ref a) (C := nRO) (T := fRO) (N := 2) hx hb hts iwRO hown hK hP 0 rfl rfl 0 (by decide) (hts _ (List.mem_cons_of_mem _ lkRO_21)) (fun _ h9 => h9) rfl dRO_at_14 ?_
      refine lz_alen hx hb hK hP 1 0 rfl rfl dRO_at_17 ?_
      refine lz_icmp_ge (tgt := 30) hx hb dRO_at_18 (by decide) (by omega) (by omega) (fun c_18 => ?_) (fun c_18 => ?_)
      · exact absurd c_18 (by omega)
      · refine lv_aload_n hx hb dRO_at_21 rfl (lv_at hl 0 rfl) ?_
        refine va_get (D := D) (ci := 5) (v := .ref a) (C := nRO) (T := fRO) (N := 2) hx hb hts iwRO hown hK hP 0 rfl rfl 0 (by decide) (hts _ (List.mem_cons_of_mem _ lkRO_21)) (fun _ h9 => h9) rfl dRO_at_22 ?_
        refine lv_iload_n hx hb dRO_at_25 rfl (lv_at hl 1 rfl) ?_
        refine lz_iald hx hb hK hP 1 0 rfl rfl (z := k) (by omega) dRO_at_26 ?_
        refine lv_goto (tgt := 31) hx hb dRO_at_27 (by decide) ?_
        exact hret 31 ls (f (k).toNat) (by rw [(lat_in c_1 c_9).1]; exact h.2.2.1 _ (by omega)) dRO_at_31

def rmRO_firstNotBelow : Room := { frames := 0, cells := 0, slots := 0, locals := 0 }
set_option maxHeartbeats 4000000 in
set_option maxRecDepth 100000 in
theorem mRO_firstNotBelow (l : Launch) (D : va_G) (cI cG : ClassId) (r a n : Nat) (f : Nat → Int) (ks : List Int) (x : Int) (h : rowOK n f ks) (hx1 : -2147483648 ≤ x ∧ x < 2147483648) : zRI l yRO_firstNotBelow wRO_firstNotBelow rmRO_firstNotBelow D vwCl (zT cI cG) [.ref r, .int (iI x)] [(r, .inr (5, [.ref a, .int (iI (ks.length : Int))])), (a, .inl (cI, n, .inl (zf f)))] (fun z => fnb ks x z) := by
  refine zRI.of (cc := cRO_firstNotBelow) (maxL := 6) (rt := .int) (by decide) rfl (Nat.le_of_ble_eq_true rfl) (fun _ _ => rfl) ?_
  intro p e s m args below meth c ls Q hx hb hml hown hts hK hP hX hl hret
  have hS0 : va_S (fun _ => False) s.heap s.heap [] := va_S.rf
  have hl : lv_has ls 6 [(0, .ref r), (1, .int (iI x))] := hl
  have hb1 := h.1
  have hb2 := h.2.1
  have hb3 := hbs_32
  refine lv_iconst (v := iI (0)) hx hb dRO_firstNotBelow_0 rfl ?_
  refine lv_istore_n (lv' := [(2, .int (iI 0)), (0, .ref r), (1, .int (iI x))]) hx hb dRO_firstNotBelow_1 rfl hl (by decide) rfl (fun ls hl => ?_)
  refine lv_aload_n hx hb dRO_firstNotBelow_2 rfl (lv_at hl 1 rfl) ?_
  refine va_get (D := D) (ci := 5) (v := .int (iI (ks.length : Int))) (C := nRO) (T := fRO) (N := 2) hx hb hts iwRO hown hK hP 0 rfl rfl 1 (by decide) (hts _ (List.mem_cons_of_mem _ lkRO_9)) (fun _ h9 => h9) rfl dRO_firstNotBelow_3 ?_
  refine lv_istore_n (lv' := [(3, .int (iI (ks.length : Int))), (2, .int (iI 0)), (0, .ref r), (1, .int (iI x))]) hx hb dRO_firstNotBelow_6 rfl hl (by decide) rfl (fun ls hl => ?_)
  refine lv_iconst (v := iI (0)) hx hb dRO_firstNotBelow_7 rfl ?_
  refine lv_istore (lv' := [(4, .int (iI 0)), (3, .int (iI (ks.length : Int))), (2, .int (iI 0)), (0, .ref r), (1, .int (iI x))]) hx hb dRO_firstNotBelow_8 hl (by decide) rfl (fun ls hl => ?_)
  have lp10 : ∀ (n9 : Nat) (k : Nat) (lo hi : Int), (fnbI ks x lo hi) → (hi - lo ≤ hbs k) → (k ≤ 32) → (32 - k) < n9 → ∀ (ls : Array Slot), lv_has ls 6 [(0, .ref r), (1, .int (iI x)), (2, .int (iI lo)), (3, .int (iI hi)), (4, .int (iI (k : Int)))] → W p l e (headSpec wRO_firstNotBelow rmRO_firstNotBelow).room s m args below meth c s.heap [] 0 0 Q (F0 m 10 ls []) := by
    intro n9
    induction n9 with
    | zero => intro k lo hi hI hw hk hm; exact absurd hm (Nat.not_lt_zero _)
    | succ n9 ih10 =>
      intro k lo hi hI hw hk hm10 ls hl
      refine lv_iload hx hb dRO_firstNotBelow_10 (lv_at hl 4 rfl) ?_
      refine lv_bipush (v := iI (32)) hx hb dRO_firstNotBelow_12 (by decide) ?_
      refine lz_icmp_ge (tgt := 67) hx hb dRO_firstNotBelow_14 (by decide) (by omega) (by omega) (fun c_14 => ?_) (fun c_14 => ?_)
      · obtain ⟨i1, i2, i3, i4, i5⟩ := id hI
        obtain rfl : k = 32 := by omega
        obtain rfl : lo = hi := by omega
        refine lv_iload_n hx hb dRO_firstNotBelow_67 rfl (lv_at hl 2 rfl) ?_
        exact hret 68 ls lo hI dRO_firstNotBelow_68
      · obtain ⟨i1, i2, i3, i4, i5⟩ := id hI
        refine lv_iload_n hx hb dRO_firstNotBelow_17 rfl (lv_at hl 2 rfl) ?_
        refine lv_iload_n hx hb dRO_firstNotBelow_18 rfl (lv_at hl 3 rfl) ?_
        refine lz_icmp_ge (tgt := 67) hx hb dRO_firstNotBelow_19 (by decide) (by omega) (by omega) (fun c_19 => ?_) (fun c_19 => ?_)
        · obtain rfl : lo = hi := by omega
          refine lv_iload_n hx hb dRO_firstNotBelow_67 rfl (lv_at hl 2 rfl) ?_
          exact hret 68 ls lo hI dRO_firstNotBelow_68
        · refine lv_iload_n hx hb dRO_firstNotBelow_22 rfl (lv_at hl 2 rfl) ?_
          refine lv_iload_n hx hb dRO_firstNotBelow_23 rfl (lv_at hl 3 rfl) ?_
          refine lz_iadd hx hb dRO_firstNotBelow_24 ?_
          refine lv_iconst (v := iI (1)) hx hb dRO_firstNotBelow_25 rfl ?_
          refine lv_iushr (v := iI ((lo + hi) / 2)) hx hb dRO_firstNotBelow_26 (iI_ushr1 (by omega)) ?_
          refine lv_istore (lv' := [(5, .int (iI ((lo + hi) / 2))), (0, .ref r), (1, .int (iI x)), (2, .int (iI lo)), (3, .int (iI hi)), (4, .int (iI (k : Int)))]) hx hb dRO_firstNotBelow_27 hl (by decide) rfl (fun ls hl => ?_)
          refine lv_iload hx hb dRO_firstNotBelow_29 (lv_at hl 0 rfl) ?_
          refine lv_aload_n hx hb dRO_firstNotBelow_31 rfl (lv_at hl 1 rfl) ?_
          refine va_get (D := D) (ci := 5) (v := .ref a) (C := nRO) (T := fRO) (N := 2) hx hb hts iwRO hown hK hP 0 rfl rfl 0 (by decide) (hts _ (List.mem_cons_of_mem _ lkRO_21)) (fun _ h9 => h9) rfl dRO_firstNotBelow_32 ?_
          refine lz_alen hx hb hK hP 1 0 rfl rfl dRO_firstNotBelow_35 ?_
          refine lz_icmp_ge (tgt := 58) hx hb dRO_firstNotBelow_36 (by decide) (by omega) (by omega) (fun c_36 => ?_) (fun c_36 => ?_)
          · exact absurd c_36 (by omega)
          · refine lv_aload_n hx hb dRO_firstNotBelow_39 rfl (lv_at hl 1 rfl) ?_
            refine va_get (D := D) (ci := 5) (v := .ref a) (C := nRO) (T := fRO) (N := 2) hx hb hts iwRO hown hK hP 0 rfl rfl 0 (by decide) (hts _ (List.mem_cons_of_mem _ lkRO_21)) (fun _ h9 => h9) rfl dRO_firstNotBelow_40 ?_
            refine lv_iload hx hb dRO_firstNotBelow_43 (lv_at hl 0 rfl) ?_
            refine lz_iald hx hb hK hP 1 0 rfl rfl (z := (lo + hi) / 2) (by omega) dRO_firstNotBelow_45 ?_
            refine lv_iload_n hx hb dRO_firstNotBelow_46 rfl (lv_at hl 2 rfl) ?_
            refine lz_icmp_ge (tgt := 58) hx hb dRO_firstNotBelow_47 (by decide) (by rw [h.2.2.1 _ (by omega)]; have := h.rng (j := ((lo + hi) / 2).toNat) (by omega); omega) (by omega) (fun c_47 => ?_) (fun c_47 => ?_)
            · have hmx : x ≤ ks.getD ((lo + hi) / 2).toNat (-1) := by rw [← h.2.2.1 _ (by omega)]; exact c_47
              refine lv_iload hx hb dRO_firstNotBelow_58 (lv_at hl 0 rfl) ?_
              refine lv_istore_n (lv' := [(3, .int (iI ((lo + hi) / 2))), (5, .int (iI ((lo + hi) / 2))), (0, .ref r), (1, .int (iI x)), (2, .int (iI lo)), (4, .int (iI (k : Int)))]) hx hb dRO_firstNotBelow_60 rfl hl (by decide) rfl (fun ls hl => ?_)
              refine lz_iinc (lv' := [(4, .int (iI ((k : Int) + 1))), (3, .int (iI ((lo + hi) / 2))), (5, .int (iI ((lo + hi) / 2))), (0, .ref r), (1, .int (iI x)), (2, .int (iI lo))]) hx hb dRO_firstNotBelow_61 hl (k := 5) rfl (by decide) rfl (fun ls hl => ?_)
              refine lv_goto (tgt := 10) hx hb dRO_firstNotBelow_64 (by decide) ?_
              exact ih10 (k + 1) lo ((lo + hi) / 2) (hI.dn h.2.2.2.1 (mid := (lo + hi) / 2) (by omega) hmx) (show _ ≤ hbs k / 2 by omega) (by omega) (by omega) _ (lv_sub hl [3, 4, 5, 1, 0] rfl)
            · have hmx : ks.getD ((lo + hi) / 2).toNat (-1) < x := by rw [← h.2.2.1 _ (by omega)]; exact c_47
              refine lv_iload hx hb dRO_firstNotBelow_50 (lv_at hl 0 rfl) ?_
              refine lv_iconst (v := iI (1)) hx hb dRO_firstNotBelow_52 rfl ?_
              refine lz_iadd hx hb dRO_firstNotBelow_53 ?_
              refine lv_istore_n (lv' := [(2, .int (iI (((lo + hi) / 2) + 1))), (5, .int (iI ((lo + hi) / 2))), (0, .ref r), (1, .int (iI x)), (3, .int (iI hi)), (4, .int (iI (k : Int)))]) hx hb dRO_firstNotBelow_54 rfl hl (by decide) rfl (fun ls hl => ?_)
              refine lv_goto (tgt := 61) hx hb dRO_firstNotBelow_55 (by decide) ?_
              refine lz_iinc (lv' := [(4, .int (iI ((k : Int) + 1))), (2, .int (iI (((lo + hi) / 2) + 1))), (5, .int (iI ((lo + hi) / 2))), (0, .ref r), (1, .int (iI x)), (3, .int (iI hi))]) hx hb dRO_firstNotBelow_61 hl (k := 5) rfl (by decide) rfl (fun ls hl => ?_)
              refine lv_goto (tgt := 10) hx hb dRO_firstNotBelow_64 (by decide) ?_
              exact ih10 (k + 1) (((lo + hi) / 2) + 1) hi (hI.up h.2.2.2.1 (mid := (lo + hi) / 2) (by omega) hmx) (show _ ≤ hbs k / 2 by omega) (by omega) (by omega) _ (lv_sub hl [3, 4, 1, 5, 0] rfl)
  exact lp10 _ 0 0 (ks.length : Int) ⟨by omega, by omega, by omega, fun j hj => by omega, fun j hj hl2 => by omega⟩ (show (ks.length : Int) - 0 ≤ 1024 by omega) (by omega) (Nat.lt_succ_self _) _ (lv_sub hl [3, 4, 2, 1, 0] rfl)

def rmRO_indexOf : Room := { frames := 1, cells := 0, slots := 0, locals := 25 }
set_option maxHeartbeats 4000000 in
set_option maxRecDepth 100000 in
theorem mRO_indexOf (l : Launch) (D : va_G) (cI cG : ClassId) (r a n : Nat) (f : Nat → Int) (ks : List Int) (x : Int) (h : rowOK n f ks) (hx1 : -2147483648 ≤ x ∧ x < 2147483648) : zRI l yRO_indexOf wRO_indexOf rmRO_indexOf D vwCl (zT cI cG) [.ref r, .int (iI x)] [(r, .inr (5, [.ref a, .int (iI (ks.length : Int))])), (a, .inl (cI, n, .inl (zf f)))] (fun z => lix ks x z) := by
  refine zRI.of (cc := cRO_indexOf) (maxL := 3) (rt := .int) (by decide) rfl (Nat.le_of_ble_eq_true rfl) (fun _ _ => rfl) ?_
  intro p e s m args below meth c ls Q hx hb hml hown hts hK hP hX hl hret
  have hS0 : va_S (fun _ => False) s.heap s.heap [] := va_S.rf
  have hl : lv_has ls 3 [(0, .ref r), (1, .int (iI x))] := hl
  have hb1 := h.1
  have hb2 := h.2.1
  refine lv_aload_n hx hb dRO_indexOf_0 rfl (lv_at hl 0 rfl) ?_
  refine lv_iload_n hx hb dRO_indexOf_1 rfl (lv_at hl 1 rfl) ?_
  refine zRI.back ((va_runV (As := [.int (iI x)]) (rest := []) ⟨hx, hb, hml, hown, hts⟩ (mRO_firstNotBelow l D cI cG r a n f ks x h hx1) (cwV 1 hts (gT1 lkRO_29 (gT1 imRO_firstNotBelow (gT1 seRO_firstNotBelow (gT1 iniRO (gTW kcRO_firstNotBelow))))) rfl rfl rfl (by decide +kernel) ⟨Nat.le_of_ble_eq_true rfl, Nat.le_of_ble_eq_true rfl⟩) ⟨zRd_blind, va_recv hK hP (ci := 5) (q0 := 0) rfl rfl, zRd.at (wc := [(r, .inr (5, [.ref a, .int (iI (ks.length : Int))])), (a, .inl (cI, n, .inl (zf f)))]) hK (hP.sub (ws' := [(r, .inr (5, [.ref a, .int (iI (ks.length : Int))])), (a, .inl (cI, n, .inl (zf f)))]) [0, 1] rfl) hX⟩ rfl rfl hl.1 rfl (lv_room (Nat.le_of_ble_eq_true rfl)) dRO_indexOf_2 ⟨Nat.le_of_ble_eq_true rfl, Nat.le_of_ble_eq_true rfl⟩).run) (fun z_2 q_2 => ?_)
  have q_2 : fnb ks x z_2 := q_2
  obtain ⟨j1, j2, j3, j4, j5⟩ := id q_2
  refine lv_istore_n (lv' := [(2, .int (iI z_2)), (0, .ref r), (1, .int (iI x))]) hx hb dRO_indexOf_5 rfl hl (by decide) rfl (fun ls hl => ?_)
  refine lv_iload_n hx hb dRO_indexOf_6 rfl (lv_at hl 2 rfl) ?_
  refine lz_if_lt (tgt := 23) hx hb dRO_indexOf_7 (by decide) (by omega) (fun c_7 => ?_) (fun c_7 => ?_)
  · refine lv_iconst (v := iI (-1)) hx hb dRO_indexOf_23 rfl ?_
    exact hret 24 ls (-1) (Or.inr ⟨by first | exact (fun q => c_16 ((fnb.mem q_2 h.2.2.2.1 c_7).mpr q)) | exact (fun q => by have := h.2.2.2.2 x q; omega), rfl⟩) dRO_indexOf_24
  · refine lv_aload_n hx hb dRO_indexOf_10 rfl (lv_at hl 1 rfl) ?_
    refine lv_iload_n hx hb dRO_indexOf_11 rfl (lv_at hl 0 rfl) ?_
    refine zRI.back ((va_runV (As := [.int (iI z_2)]) (rest := []) ⟨hx, hb, hml, hown, hts⟩ (mRO_at l D cI cG r a n f ks z_2 h (by omega)) (cwV 1 hts (gT1 lkRO_32 (gT1 imRO_at (gT1 seRO_at (gT1 iniRO (gTW kcRO_at))))) rfl rfl rfl (by decide +kernel) ⟨Nat.le_of_ble_eq_true rfl, Nat.le_of_ble_eq_true rfl⟩) ⟨zRd_blind, va_recv hK hP (ci := 5) (q0 := 0) rfl rfl, zRd.at (wc := [(r, .inr (5, [.ref a, .int (iI (ks.length : Int))])), (a, .inl (cI, n, .inl (zf f)))]) hK (hP.sub (ws' := [(r, .inr (5, [.ref a, .int (iI (ks.length : Int))])), (a, .inl (cI, n, .inl (zf f)))]) [0, 1] rfl) hX⟩ rfl rfl hl.1 rfl (lv_room (Nat.le_of_ble_eq_true rfl)) dRO_indexOf_12 ⟨Nat.le_of_ble_eq_true rfl, Nat.le_of_ble_eq_true rfl⟩).run) (fun z_12 q_12 => ?_)
    obtain rfl : z_12 = lat ks z_2 := q_12
    refine lv_iload_n hx hb dRO_indexOf_15 rfl (lv_at hl 2 rfl) ?_
    refine lz_icmp_ne (tgt := 23) hx hb dRO_indexOf_16 (by decide) (by have := h.latr z_2; omega) (by omega) (fun c_16 => ?_) (fun c_16 => ?_)
    · refine lv_iconst (v := iI (-1)) hx hb dRO_indexOf_23 rfl ?_
      exact hret 24 ls (-1) (Or.inr ⟨by first | exact (fun q => c_16 ((fnb.mem q_2 h.2.2.2.1 c_7).mpr q)) | exact (fun q => by have := h.2.2.2.2 x q; omega), rfl⟩) dRO_indexOf_24
    · refine lv_iload_n hx hb dRO_indexOf_19 rfl (lv_at hl 0 rfl) ?_
      refine lv_goto (tgt := 24) hx hb dRO_indexOf_20 (by decide) ?_
      exact hret 24 ls z_2 (by
            have hm := (fnb.mem q_2 h.2.2.2.1 c_7).mp c_16
            have hz : z_2 < ks.length := by
              by_cases q : z_2 < ks.length
              · exact q
              · rw [lat_out (by omega)] at c_16; omega
            exact Or.inl ⟨hm, j1, hz, by rw [← (lat_in j1 hz).1]; exact c_16⟩) dRO_indexOf_24

def rmRO_has : Room := { frames := 2, cells := 0, slots := 0, locals := 47 }
set_option maxHeartbeats 4000000 in
set_option maxRecDepth 100000 in
theorem mRO_has (l : Launch) (D : va_G) (cI cG : ClassId) (r a n : Nat) (f : Nat → Int) (ks : List Int) (x : Int) (h : rowOK n f ks) (hx1 : -2147483648 ≤ x ∧ x < 2147483648) : zRI l yRO_has wRO_has rmRO_has D vwCl (zT cI cG) [.ref r, .int (iI x)] [(r, .inr (5, [.ref a, .int (iI (ks.length : Int))])), (a, .inl (cI, n, .inl (zf f)))] (fun z => (z = 1 ∧ x ∈ ks) ∨ (z = 0 ∧ x ∉ ks)) := by
  refine zRI.of (cc := cRO_has) (maxL := 2) (rt := .boolean) (by decide) rfl (Nat.le_of_ble_eq_true rfl) (fun z h => by rcases h with ⟨rfl, _⟩ | ⟨rfl, _⟩ <;> decide) ?_
  intro p e s m args below meth c ls Q hx hb hml hown hts hK hP hX hl hret
  have hS0 : va_S (fun _ => False) s.heap s.heap [] := va_S.rf
  have hl : lv_has ls 2 [(0, .ref r), (1, .int (iI x))] := hl
  have hb1 := h.1
  have hb2 := h.2.1
  refine lv_aload_n hx hb dRO_has_0 rfl (lv_at hl 0 rfl) ?_
  refine lv_iload_n hx hb dRO_has_1 rfl (lv_at hl 1 rfl) ?_
  refine zRI.back ((va_runV (As := [.int (iI x)]) (rest := []) ⟨hx, hb, hml, hown, hts⟩ (mRO_indexOf l D cI cG r a n f ks x h hx1) (cwV 1 hts (gT1 lkRO_25 (gT1 imRO_indexOf (gT1 seRO_indexOf (gT1 iniRO (gTW kcRO_indexOf))))) rfl rfl rfl (by decide +kernel) ⟨Nat.le_of_ble_eq_true rfl, Nat.le_of_ble_eq_true rfl⟩) ⟨zRd_blind, va_recv hK hP (ci := 5) (q0 := 0) rfl rfl, zRd.at (wc := [(r, .inr (5, [.ref a, .int (iI (ks.length : Int))])), (a, .inl (cI, n, .inl (zf f)))]) hK (hP.sub (ws' := [(r, .inr (5, [.ref a, .int (iI (ks.length : Int))])), (a, .inl (cI, n, .inl (zf f)))]) [0, 1] rfl) hX⟩ rfl rfl hl.1 rfl (lv_room (Nat.le_of_ble_eq_true rfl)) dRO_has_2 ⟨Nat.le_of_ble_eq_true rfl, Nat.le_of_ble_eq_true rfl⟩).run) (fun z_2 q_2 => ?_)
  have q_2 : lix ks x z_2 := q_2
  have hz : -1 ≤ z_2 ∧ z_2 < 2147483648 := by rcases q_2 with ⟨_, _, _, _⟩ | ⟨_, _⟩ <;> omega
  refine lv_iconst (v := iI (-1)) hx hb dRO_has_5 rfl ?_
  refine lz_icmp_eq (tgt := 13) hx hb dRO_has_6 (by decide) (by omega) (by omega) (fun c_6 => ?_) (fun c_6 => ?_)
  · refine lv_iconst (v := iI (0)) hx hb dRO_has_13 rfl ?_
    exact hret 14 ls 0 (by
          rcases q_2 with ⟨q, _, _, _⟩ | ⟨q, e⟩
          · omega
          · exact Or.inr ⟨rfl, q⟩) dRO_has_14
  · refine lv_iconst (v := iI (1)) hx hb dRO_has_9 rfl ?_
    refine lv_goto (tgt := 14) hx hb dRO_has_10 (by decide) ?_
    exact hret 14 ls 1 (by
          rcases q_2 with ⟨q, _, _, _⟩ | ⟨q, e⟩
          · exact Or.inl ⟨rfl, q⟩
          · exact absurd e c_6) dRO_has_14

def rmRO_add : Room := { frames := 1, cells := 0, slots := 0, locals := 60 }
set_option maxHeartbeats 4000000 in
set_option maxRecDepth 100000 in
theorem mRO_add (l : Launch) (D : va_G) (cI cG : ClassId) (r a n : Nat) (f : Nat → Int) (ks : List Int) (x : Int) (h : rowOK n f ks) (hx1 : 0 ≤ x ∧ x < 2147483648) : zI l yRO_add wRO_add rmRO_add D vwCl (zT cI cG) [.ref r, .int (iI x)] [(r, .inr (5, [.ref a, .int (iI (ks.length : Int))])), (a, .inl (cI, n, .inl (zf f)))] (S := (Int × (Nat → Int))) (fun z u => ∃ ks2, rowOK n u.2 ks2 ∧ u.1 = (ks2.length : Int) ∧ ((z = 1 ∧ x ∈ ks ∧ ks2 = ks) ∨ (z = 0 ∧ x ∉ ks ∧ ks.length = n ∧ ks2 = ks) ∨ (z = 1 ∧ x ∉ ks ∧ ks.length < n ∧ rowIns ks ks2 x))) (fun u => [(r, .inr (5, [.ref a, .int (iI u.1)])), (a, .inl (cI, n, .inl (zf u.2)))]) := by
  refine zI.of (cc := cRO_add) (maxL := 3) (rt := .boolean) (by decide) rfl (Nat.le_of_ble_eq_true rfl) (fun z u h => by obtain ⟨_, _, _, q⟩ := h; rcases q with ⟨rfl, _⟩ | ⟨rfl, _⟩ | ⟨rfl, _⟩ <;> decide) ?_
  intro p e s m args below meth c A ls Q hx hb hml hown hts hnm hK hD hA hAe hX hl hret H locs hP hS
  have hl : lv_has ls 3 [(0, .ref r), (1, .int (iI x))] := hl
  have hb1 := h.1
  have hb2 := h.2.1
  have hx2 : -2147483648 ≤ x ∧ x < 2147483648 := by omega
  refine lv_aload_n hx hb dRO_add_0 rfl (lv_at hl 0 rfl) ?_
  refine lv_iload_n hx hb dRO_add_1 rfl (lv_at hl 1 rfl) ?_
  refine zRI.back ((va_runV (As := [.int (iI x)]) (rest := []) ⟨hx, hb, hml, hown, hts⟩ (mRO_firstNotBelow l D cI cG r a n f ks x h hx2) (cwV 1 hts (gT1 lkRO_29 (gT1 imRO_firstNotBelow (gT1 seRO_firstNotBelow (gT1 iniRO (gTW kcRO_firstNotBelow))))) rfl rfl rfl (by decide +kernel) ⟨Nat.le_of_ble_eq_true rfl, Nat.le_of_ble_eq_true rfl⟩) ⟨zRd_blind, va_recv hK hP (ci := 5) (q0 := 0) rfl rfl, zRd.at (wc := [(r, .inr (5, [.ref a, .int (iI (ks.length : Int))])), (a, .inl (cI, n, .inl (zf f)))]) hK (hP.sub (ws' := [(r, .inr (5, [.ref a, .int (iI (ks.length : Int))])), (a, .inl (cI, n, .inl (zf f)))]) [0, 1] rfl) (stF.now hX hS)⟩ rfl rfl hl.1 rfl (lv_room (Nat.le_of_ble_eq_true rfl)) dRO_add_2 ⟨Nat.le_of_ble_eq_true rfl, Nat.le_of_ble_eq_true rfl⟩).run) (fun z_2 q_2 => ?_)
  have q_2 : fnb ks x z_2 := q_2
  obtain ⟨j1, j2, j3, j4, j5⟩ := id q_2
  refine lv_istore_n (lv' := [(2, .int (iI z_2)), (0, .ref r), (1, .int (iI x))]) hx hb dRO_add_5 rfl hl (by decide) rfl (fun ls hl => ?_)
  refine lv_aload_n hx hb dRO_add_6 rfl (lv_at hl 1 rfl) ?_
  refine lv_iload_n hx hb dRO_add_7 rfl (lv_at hl 0 rfl) ?_
  refine zRI.back ((va_runV (As := [.int (iI z_2)]) (rest := []) ⟨hx, hb, hml, hown, hts⟩ (mRO_at l D cI cG r a n f ks z_2 h (by omega)) (cwV 1 hts (gT1 lkRO_32 (gT1 imRO_at (gT1 seRO_at (gT1 iniRO (gTW kcRO_at))))) rfl rfl rfl (by decide +kernel) ⟨Nat.le_of_ble_eq_true rfl, Nat.le_of_ble_eq_true rfl⟩) ⟨zRd_blind, va_recv hK hP (ci := 5) (q0 := 0) rfl rfl, zRd.at (wc := [(r, .inr (5, [.ref a, .int (iI (ks.length : Int))])), (a, .inl (cI, n, .inl (zf f)))]) hK (hP.sub (ws' := [(r, .inr (5, [.ref a, .int (iI (ks.length : Int))])), (a, .inl (cI, n, .inl (zf f)))]) [0, 1] rfl) (stF.now hX hS)⟩ rfl rfl hl.1 rfl (lv_room (Nat.le_of_ble_eq_true rfl)) dRO_add_8 ⟨Nat.le_of_ble_eq_true rfl, Nat.le_of_ble_eq_true rfl⟩).run) (fun z_8 q_8 => ?_)
  obtain rfl : z_8 = lat ks z_2 := q_8
  refine lv_iload_n hx hb dRO_add_11 rfl (lv_at hl 2 rfl) ?_
  refine lz_icmp_ne (tgt := 17) hx hb dRO_add_12 (by decide) (by have := h.latr z_2; omega) (by omega) (fun c_12 => ?_) (fun c_12 => ?_)
  · have hmm : x ∉ ks := fun q => c_12 ((fnb.mem q_2 h.2.2.2.1 (by omega)).mpr q)
    refine lv_iload_n hx hb dRO_add_17 rfl (lv_at hl 2 rfl) ?_
    refine lz_if_lt (tgt := 45) hx hb dRO_add_18 (by decide) (by omega) (fun c_18 => ?_) (fun c_18 => ?_)
    · exact absurd c_18 (by omega)
    · refine lv_iload_n hx hb dRO_add_21 rfl (lv_at hl 0 rfl) ?_
      refine lz_if_lt (tgt := 45) hx hb dRO_add_22 (by decide) (by omega) (fun c_22 => ?_) (fun c_22 => ?_)
      · exact absurd c_22 (by omega)
      · refine lv_iload_n hx hb dRO_add_25 rfl (lv_at hl 0 rfl) ?_
        refine lv_aload_n hx hb dRO_add_26 rfl (lv_at hl 1 rfl) ?_
        refine va_get (D := D) (ci := 5) (v := .int (iI (ks.length : Int))) (C := nRO) (T := fRO) (N := 2) hx hb hts iwRO hown hK hP 0 rfl rfl 1 (by decide) (hts _ (List.mem_cons_of_mem _ lkRO_9)) (fun _ h9 => h9) rfl dRO_add_27 ?_
        refine lz_icmp_gt (tgt := 45) hx hb dRO_add_30 (by decide) (by omega) (by omega) (fun c_30 => ?_) (fun c_30 => ?_)
        · exact absurd c_30 (by omega)
        · refine lv_aload_n hx hb dRO_add_33 rfl (lv_at hl 1 rfl) ?_
          refine va_get (D := D) (ci := 5) (v := .int (iI (ks.length : Int))) (C := nRO) (T := fRO) (N := 2) hx hb hts iwRO hown hK hP 0 rfl rfl 1 (by decide) (hts _ (List.mem_cons_of_mem _ lkRO_9)) (fun _ h9 => h9) rfl dRO_add_34 ?_
          refine lv_aload_n hx hb dRO_add_37 rfl (lv_at hl 1 rfl) ?_
          refine va_get (D := D) (ci := 5) (v := .ref a) (C := nRO) (T := fRO) (N := 2) hx hb hts iwRO hown hK hP 0 rfl rfl 0 (by decide) (hts _ (List.mem_cons_of_mem _ lkRO_21)) (fun _ h9 => h9) rfl dRO_add_38 ?_
          refine lz_alen hx hb hK hP 1 0 rfl rfl dRO_add_41 ?_
          refine lz_icmp_lt (tgt := 47) hx hb dRO_add_42 (by decide) (by omega) (by omega) (fun c_42 => ?_) (fun c_42 => ?_)
          · refine lv_aload_n hx hb dRO_add_47 rfl (lv_at hl 1 rfl) ?_
            refine va_get (D := D) (ci := 5) (v := .ref a) (C := nRO) (T := fRO) (N := 2) hx hb hts iwRO hown hK hP 0 rfl rfl 0 (by decide) (hts _ (List.mem_cons_of_mem _ lkRO_21)) (fun _ h9 => h9) rfl dRO_add_48 ?_
            refine lv_iload_n hx hb dRO_add_51 rfl (lv_at hl 0 rfl) ?_
            refine lv_aload_n hx hb dRO_add_52 rfl (lv_at hl 1 rfl) ?_
            refine va_get (D := D) (ci := 5) (v := .ref a) (C := nRO) (T := fRO) (N := 2) hx hb hts iwRO hown hK hP 0 rfl rfl 0 (by decide) (hts _ (List.mem_cons_of_mem _ lkRO_21)) (fun _ h9 => h9) rfl dRO_add_53 ?_
            refine lv_iload_n hx hb dRO_add_56 rfl (lv_at hl 0 rfl) ?_
            refine lv_iconst (v := iI (1)) hx hb dRO_add_57 rfl ?_
            refine lz_iadd hx hb dRO_add_58 ?_
            refine lv_aload_n hx hb dRO_add_59 rfl (lv_at hl 1 rfl) ?_
            refine va_get (D := D) (ci := 5) (v := .int (iI (ks.length : Int))) (C := nRO) (T := fRO) (N := 2) hx hb hts iwRO hown hK hP 0 rfl rfl 1 (by decide) (hts _ (List.mem_cons_of_mem _ lkRO_9)) (fun _ h9 => h9) rfl dRO_add_60 ?_
            refine lv_iload_n hx hb dRO_add_63 rfl (lv_at hl 0 rfl) ?_
            refine lz_isub hx hb dRO_add_64 ?_
            refine lz_copy hx hb (by rw [hml]; exact hl.1.symm) hown (hts _ (List.mem_cons_of_mem _ lkRO_35)) (hts _ (List.mem_cons_of_mem _ nvJS_arraycopy)) (hts _ (List.mem_cons_of_mem _ smJS_arraycopy)) (hts _ (List.mem_cons_of_mem _ iniJS)) hK hP hD hS 1 0 rfl rfl (by omega) (by omega) (by omega) (by omega) (by omega) (by omega) (Nat.le_of_ble_eq_true rfl) (Nat.le_of_ble_eq_true rfl) dRO_add_65 (fun H locs hP hD hS => ?_)
            have hP : va_P D vwCl [(r, .inr (5, [.ref a, .int (iI (ks.length : Int))])), (a, .inl (cI, n, .inl (zf (va_cpy f f (z_2).toNat (z_2 + 1).toNat ((ks.length : Int) - z_2).toNat))))] H := hP
            have hD : va_D A [(r, .inr (5, [.ref a, .int (iI (ks.length : Int))])), (a, .inl (cI, n, .inl (zf (va_cpy f f (z_2).toNat (z_2 + 1).toNat ((ks.length : Int) - z_2).toNat))))] := hD
            refine lv_aload_n hx hb dRO_add_68 rfl (lv_at hl 1 rfl) ?_
            refine va_get (D := D) (ci := 5) (v := .ref a) (C := nRO) (T := fRO) (N := 2) hx hb hts iwRO hown hK hP 0 rfl rfl 0 (by decide) (hts _ (List.mem_cons_of_mem _ lkRO_21)) (fun _ h9 => h9) rfl dRO_add_69 ?_
            refine lv_iload_n hx hb dRO_add_72 rfl (lv_at hl 0 rfl) ?_
            refine lv_iload_n hx hb dRO_add_73 rfl (lv_at hl 2 rfl) ?_
            refine lz_iast hx hb hK hP hD hS 1 0 rfl rfl (z := z_2) (v := x) (by omega) dRO_add_74 (fun H locs hP hD hS => ?_)
            have hP : va_P D vwCl [(r, .inr (5, [.ref a, .int (iI (ks.length : Int))])), (a, .inl (cI, n, .inl (zf (zu (va_cpy f f (z_2).toNat (z_2 + 1).toNat ((ks.length : Int) - z_2).toNat) (z_2).toNat x))))] H := hP
            have hD : va_D A [(r, .inr (5, [.ref a, .int (iI (ks.length : Int))])), (a, .inl (cI, n, .inl (zf (zu (va_cpy f f (z_2).toNat (z_2 + 1).toNat ((ks.length : Int) - z_2).toNat) (z_2).toNat x))))] := hD
            refine lv_aload_n hx hb dRO_add_75 rfl (lv_at hl 1 rfl) ?_
            refine lv_dup hx hb dRO_add_76 rfl ?_
            refine va_get (D := D) (ci := 5) (v := .int (iI (ks.length : Int))) (C := nRO) (T := fRO) (N := 2) hx hb hts iwRO hown hK hP 0 rfl rfl 1 (by decide) (hts _ (List.mem_cons_of_mem _ lkRO_9)) (fun _ h9 => h9) rfl dRO_add_77 ?_
            refine lv_iconst (v := iI (1)) hx hb dRO_add_80 rfl ?_
            refine lz_iadd hx hb dRO_add_81 ?_
            refine va_put (D := D) (ci := 5) (v := .int (iI ((ks.length : Int) + 1))) (ty := .int) (C := nRO) (T := fRO) (N := 2) hx hb hts iwRO tRO tkRO nmRO hown hK hP hD hS 0 rfl rfl 1 (by decide) (hts _ (List.mem_cons_of_mem _ lkRO_9)) (fun _ h9 => h9) rfl (by decide +kernel) rfl rfl (Nat.le_of_ble_eq_true rfl) dRO_add_82 (fun H locs hP hD hS => ?_)
            have hP : va_P D vwCl [(r, .inr (5, [.ref a, .int (iI ((ks.length : Int) + 1))])), (a, .inl (cI, n, .inl (zf (zu (va_cpy f f (z_2).toNat (z_2 + 1).toNat ((ks.length : Int) - z_2).toNat) (z_2).toNat x))))] H := hP
            have hD : va_D A [(r, .inr (5, [.ref a, .int (iI ((ks.length : Int) + 1))])), (a, .inl (cI, n, .inl (zf (zu (va_cpy f f (z_2).toNat (z_2 + 1).toNat ((ks.length : Int) - z_2).toNat) (z_2).toNat x))))] := hD
            refine lv_iconst (v := iI (1)) hx hb dRO_add_85 rfl ?_
            obtain ⟨ks2, ho, hi2⟩ := h.ins (g := zu (va_cpy f f z_2.toNat (z_2 + 1).toNat ((ks.length : Int) - z_2).toNat) z_2.toNat x) q_2 hx1 hmm (by omega) (fun j hj => by
              unfold zu va_cpy
              by_cases g1 : (j : Int) < z_2
              · rw [if_pos g1, if_neg (by omega), if_neg (by omega)]
              · by_cases g2 : (j : Int) = z_2
                · rw [if_neg g1, if_pos g2, if_pos (by omega)]
                · rw [if_neg g1, if_neg g2, if_neg (by omega), if_pos (by omega)]
                  congr 1
                  omega)
            exact hret H locs 0 0 86 ls 1 ((ks.length : Int) + 1, zu (va_cpy f f z_2.toNat (z_2 + 1).toNat ((ks.length : Int) - z_2).toNat) z_2.toNat x) ⟨ks2, ho, by have := hi2.2; show (ks.length : Int) + 1 = _; omega, Or.inr (Or.inr ⟨rfl, hmm, by omega, hi2⟩)⟩ (hP.sub [0, 1] rfl) (hD.sub [0, 1] (by decide) rfl) hS (Nat.zero_le _) (Nat.zero_le _) dRO_add_86
          · refine lv_iconst (v := iI (0)) hx hb dRO_add_45 rfl ?_
            exact hret H locs 0 0 46 ls 0 ((ks.length : Int), f) ⟨ks, h, rfl, Or.inr (Or.inl ⟨rfl, hmm, by omega, rfl⟩)⟩ (hP.sub [0, 1] rfl) (hD.sub [0, 1] (by decide) rfl) hS (Nat.zero_le _) (Nat.zero_le _) dRO_add_46
  · have hmm := (fnb.mem q_2 h.2.2.2.1 (by omega)).mp c_12
    refine lv_iconst (v := iI (1)) hx hb dRO_add_15 rfl ?_
    exact hret H locs 0 0 16 ls 1 ((ks.length : Int), f) ⟨ks, h, rfl, Or.inl ⟨rfl, hmm, rfl⟩⟩ (hP.sub [0, 1] rfl) (hD.sub [0, 1] (by decide) rfl) hS (Nat.zero_le _) (Nat.zero_le _) dRO_add_16

def rmRO_isLike : Room := { frames := 1, cells := 0, slots := 0, locals := 21 }
set_option maxHeartbeats 4000000 in
set_option maxRecDepth 100000 in
theorem mRO_isLike (l : Launch) (D : va_G) (cI cG : ClassId) (r a n : Nat) (f : Nat → Int) (ks : List Int) (r2 a2 n2 : Nat) (f2 : Nat → Int) (ks2 : List Int) (h : rowOK n f ks) (h2 : rowOK n2 f2 ks2) : zRI l yRO_isLike wRO_isLike rmRO_isLike D vwCl (zT cI cG) [.ref r, .ref r2] [(r, .inr (5, [.ref a, .int (iI (ks.length : Int))])), (a, .inl (cI, n, .inl (zf f))), (r2, .inr (5, [.ref a2, .int (iI (ks2.length : Int))])), (a2, .inl (cI, n2, .inl (zf f2)))] (fun z => (z = 1 ∧ ks = ks2) ∨ (z = 0 ∧ ks ≠ ks2)) := by
  refine zRI.of (cc := cRO_isLike) (maxL := 3) (rt := .boolean) (by decide) rfl (Nat.le_of_ble_eq_true rfl) (fun z h => by rcases h with ⟨rfl, _⟩ | ⟨rfl, _⟩ <;> decide) ?_
  intro p e s m args below meth c ls Q hx hb hml hown hts hK hP hX hl hret
  have hS0 : va_S (fun _ => False) s.heap s.heap [] := va_S.rf
  have hl : lv_has ls 3 [(0, .ref r), (1, .ref r2)] := hl
  have hb1 := h.1
  have hb2 := h.2.1
  have hb3 := h2.1
  have hb4 := h2.2.1
  refine lv_aload_n hx hb dRO_isLike_0 rfl (lv_at hl 0 rfl) ?_
  refine va_get (D := D) (ci := 5) (v := .int (iI (ks.length : Int))) (C := nRO) (T := fRO) (N := 2) hx hb hts iwRO hown hK hP 0 rfl rfl 1 (by decide) (hts _ (List.mem_cons_of_mem _ lkRO_9)) (fun _ h9 => h9) rfl dRO_isLike_1 ?_
  refine lv_aload_n hx hb dRO_isLike_4 rfl (lv_at hl 1 rfl) ?_
  refine va_get (D := D) (ci := 5) (v := .int (iI (ks2.length : Int))) (C := nRO) (T := fRO) (N := 2) hx hb hts iwRO hown hK hP 2 rfl rfl 1 (by decide) (hts _ (List.mem_cons_of_mem _ lkRO_9)) (fun _ h9 => h9) rfl dRO_isLike_5 ?_
  refine lz_icmp_eq (tgt := 13) hx hb dRO_isLike_8 (by decide) (by omega) (by omega) (fun c_8 => ?_) (fun c_8 => ?_)
  · have hle : ks.length = ks2.length := by omega
    refine lv_iconst (v := iI (0)) hx hb dRO_isLike_13 rfl ?_
    refine lv_istore_n (lv' := [(2, .int (iI 0)), (0, .ref r), (1, .ref r2)]) hx hb dRO_isLike_14 rfl hl (by decide) rfl (fun ls hl => ?_)
    have lp15 : ∀ (n9 : Nat) (k : Nat), (k ≤ ks.length) → (∀ j, j < k → ks.getD j (-1) = ks2.getD j (-1)) → (ks.length - k) < n9 → ∀ (ls : Array Slot), lv_has ls 3 [(0, .ref r), (1, .ref r2), (2, .int (iI (k : Int)))] → W p l e (headSpec wRO_isLike rmRO_isLike).room s m args below meth c s.heap [] 0 0 Q (F0 m 15 ls []) := by
      intro n9
      induction n9 with
      | zero => intro k hk hI hm; exact absurd hm (Nat.not_lt_zero _)
      | succ n9 ih15 =>
        intro k hk hI hm15 ls hl
        refine lv_iload_n hx hb dRO_isLike_15 rfl (lv_at hl 2 rfl) ?_
        refine lv_aload_n hx hb dRO_isLike_16 rfl (lv_at hl 0 rfl) ?_
        refine va_get (D := D) (ci := 5) (v := .int (iI (ks.length : Int))) (C := nRO) (T := fRO) (N := 2) hx hb hts iwRO hown hK hP 0 rfl rfl 1 (by decide) (hts _ (List.mem_cons_of_mem _ lkRO_9)) (fun _ h9 => h9) rfl dRO_isLike_17 ?_
        refine lz_icmp_ge (tgt := 44) hx hb dRO_isLike_20 (by decide) (by omega) (by omega) (fun c_20 => ?_) (fun c_20 => ?_)
        · refine lv_iconst (v := iI (1)) hx hb dRO_isLike_44 rfl ?_
          exact hret 45 ls 1 (Or.inl ⟨rfl, list_eq_getD hle (fun j hj => hI j (by omega))⟩) dRO_isLike_45
        · refine lv_aload_n hx hb dRO_isLike_23 rfl (lv_at hl 0 rfl) ?_
          refine lv_iload_n hx hb dRO_isLike_24 rfl (lv_at hl 2 rfl) ?_
          refine zRI.back ((va_runV (As := [.int (iI (k : Int))]) (rest := []) ⟨hx, hb, hml, hown, hts⟩ (mRO_at l D cI cG r a n f ks (k : Int) h (by omega)) (cwV 1 hts (gT1 lkRO_32 (gT1 imRO_at (gT1 seRO_at (gT1 iniRO (gTW kcRO_at))))) rfl rfl rfl (by decide +kernel) ⟨Nat.le_of_ble_eq_true rfl, Nat.le_of_ble_eq_true rfl⟩) ⟨zRd_blind, va_recv hK hP (ci := 5) (q0 := 0) rfl rfl, zRd.at (wc := [(r, .inr (5, [.ref a, .int (iI (ks.length : Int))])), (a, .inl (cI, n, .inl (zf f)))]) hK (hP.sub (ws' := [(r, .inr (5, [.ref a, .int (iI (ks.length : Int))])), (a, .inl (cI, n, .inl (zf f)))]) [0, 1] rfl) hX⟩ rfl rfl hl.1 rfl (lv_room (Nat.le_of_ble_eq_true rfl)) dRO_isLike_25 ⟨Nat.le_of_ble_eq_true rfl, Nat.le_of_ble_eq_true rfl⟩).run) (fun z_25 q_25 => ?_)
          obtain rfl : z_25 = lat ks (k : Int) := q_25
          refine lv_aload_n hx hb dRO_isLike_28 rfl (lv_at hl 1 rfl) ?_
          refine lv_iload_n hx hb dRO_isLike_29 rfl (lv_at hl 2 rfl) ?_
          refine zRI.back ((va_runV (As := [.int (iI (k : Int))]) (rest := [.int (iI (lat ks (k : Int)))]) ⟨hx, hb, hml, hown, hts⟩ (mRO_at l D cI cG r2 a2 n2 f2 ks2 (k : Int) h2 (by omega)) (cwV 1 hts (gT1 lkRO_32 (gT1 imRO_at (gT1 seRO_at (gT1 iniRO (gTW kcRO_at))))) rfl rfl rfl (by decide +kernel) ⟨Nat.le_of_ble_eq_true rfl, Nat.le_of_ble_eq_true rfl⟩) ⟨zRd_blind, va_recv hK hP (ci := 5) (q0 := 2) rfl rfl, zRd.at (wc := [(r2, .inr (5, [.ref a2, .int (iI (ks2.length : Int))])), (a2, .inl (cI, n2, .inl (zf f2)))]) hK (hP.sub (ws' := [(r2, .inr (5, [.ref a2, .int (iI (ks2.length : Int))])), (a2, .inl (cI, n2, .inl (zf f2)))]) [2, 3] rfl) hX⟩ rfl rfl hl.1 rfl (lv_room (Nat.le_of_ble_eq_true rfl)) dRO_isLike_30 ⟨Nat.le_of_ble_eq_true rfl, Nat.le_of_ble_eq_true rfl⟩).run) (fun z_30 q_30 => ?_)
          obtain rfl : z_30 = lat ks2 (k : Int) := q_30
          refine lz_icmp_eq (tgt := 38) hx hb dRO_isLike_33 (by decide) (by have := h.latr (k : Int); omega) (by have := h2.latr (k : Int); omega) (fun c_33 => ?_) (fun c_33 => ?_)
          · refine lz_iinc (lv' := [(2, .int (iI ((k : Int) + 1))), (0, .ref r), (1, .ref r2)]) hx hb dRO_isLike_38 hl (k := 2) rfl (by decide) rfl (fun ls hl => ?_)
            refine lv_goto (tgt := 15) hx hb dRO_isLike_41 (by decide) ?_
            exact ih15 (k + 1) (by omega) (fun j hj => by
                rcases Nat.lt_or_ge j k with q | q
                · exact hI j q
                · obtain rfl : j = k := by omega
                  have c33 : lat ks (j : Int) = lat ks2 (j : Int) := c_33
                  rw [(lat_in (by omega) (by omega)).1, (lat_in (by omega) (by omega)).1] at c33
                  exact c33) (by omega) _ (lv_sub hl [1, 2, 0] rfl)
          · refine lv_iconst (v := iI (0)) hx hb dRO_isLike_36 rfl ?_
            exact hret 37 ls 0 (Or.inr ⟨rfl, fun q => by rw [q] at c_33; exact c_33 rfl⟩) dRO_isLike_37
    exact lp15 _ 0 (Nat.zero_le _) (fun j hj => absurd hj (Nat.not_lt_zero _)) (Nat.lt_succ_self _) _ (lv_sub hl [1, 2, 0] rfl)
  · refine lv_iconst (v := iI (0)) hx hb dRO_isLike_11 rfl ?_
    exact hret 12 ls 0 (Or.inr ⟨rfl, fun q => by rw [q] at c_8; exact c_8 rfl⟩) dRO_isLike_12

def rmRO_init : Room := { frames := 1, cells := 1, slots := 192, locals := 30 }
set_option maxHeartbeats 4000000 in
set_option maxRecDepth 100000 in
theorem mRO_init (l : Launch) (D : va_G) (cI cG : ClassId) (r N : Nat) (hN : N ≤ 192) : zV l yRO_init wRO_init rmRO_init D vwCl (zT cI cG) [.ref r, .int (iI (N : Int))] [(r, .inr (5, [.null, .int (iI 0)]))] (S := Nat) (fun u => True) (fun u => [(r, .inr (5, [.ref u, .int (iI 0)])), (u, .inl (cI, N, .inl (zf fun _ => 0)))]) := by
  refine zV.of (cc := cRO_init) (maxL := 2) (by decide) rfl (Nat.le_of_ble_eq_true rfl) ?_
  intro p e s m args below meth c A ls Q hx hb hml hown hts hnm hK hD hA hAe hX hl hret H locs hP hS
  have hl : lv_has ls 2 [(0, .ref r), (1, .int (iI (N : Int)))] := hl
  refine lv_aload_n hx hb dRO_init_0 rfl (lv_at hl 0 rfl) ?_
  refine W.objInit hx hb hown (hts _ (List.mem_cons_of_mem _ lkRO_3)) (hts _ (List.mem_cons_of_mem _ imJO_init)) (hts _ (List.mem_cons_of_mem _ kcJO_init)) rfl (by rw [hml]; exact hl.1) rfl dRO_init_1 (Nat.le_of_ble_eq_true rfl) (Nat.le_of_ble_eq_true rfl) ?_
  refine W.eq (g2 := F0 m 4 ls []) rfl ?_
  refine lv_aload_n hx hb dRO_init_4 rfl (lv_at hl 0 rfl) ?_
  refine lv_iconst (v := iI (0)) hx hb dRO_init_5 rfl ?_
  refine va_put (D := D) (ci := 5) (v := .int (iI 0)) (ty := .int) (C := nRO) (T := fRO) (N := 2) hx hb hts iwRO tRO tkRO nmRO hown hK hP hD hS 0 rfl rfl 1 (by decide) (hts _ (List.mem_cons_of_mem _ lkRO_9)) (fun _ h9 => h9) rfl (by decide +kernel) rfl rfl (Nat.le_of_ble_eq_true rfl) dRO_init_6 (fun H locs hP hD hS => ?_)
  have hP : va_P D vwCl [(r, .inr (5, [.null, .int (iI 0)]))] H := hP
  have hD : va_D A [(r, .inr (5, [.null, .int (iI 0)]))] := hD
  refine lv_aload_n hx hb dRO_init_9 rfl (lv_at hl 0 rfl) ?_
  refine lv_iload_n hx hb dRO_init_10 rfl (lv_at hl 1 rfl) ?_
  refine lv_iconst (v := iI (0)) hx hb dRO_init_11 rfl ?_
  refine lz_max (z := (N : Int)) hx hb (by rw [hml]; exact hl.1.symm) hown (hts _ (List.mem_cons_of_mem _ lkRO_15)) (hts _ (List.mem_cons_of_mem _ smJM_max)) (hts _ (List.mem_cons_of_mem _ iniJM)) (hts _ (List.mem_cons_of_mem _ kcJM_max)) (Nat.le_of_ble_eq_true rfl) (Nat.le_of_ble_eq_true rfl) (Nat.zero_le _) (Nat.zero_le _) (by omega) (by omega) (by rw [if_neg (by omega)]) dRO_init_12 ?_
  refine lz_newa hx hb (hts _ (List.mem_cons_of_mem _ ac_int)) hK hP hD hS hA 0 rfl (N := N) rfl (by omega) (Nat.le_of_ble_eq_true rfl) (by show 0 + N ≤ 192; omega) dRO_init_15 (fun q15 H hP hD hS => ?_)
  have hP : va_P D vwCl [(r, .inr (5, [.null, .int (iI 0)])), (q15, .inl (cI, N, .inl (zf (fun _ => 0))))] H := hP
  have hD : va_D A [(r, .inr (5, [.null, .int (iI 0)])), (q15, .inl (cI, N, .inl (zf (fun _ => 0))))] := hD
  refine va_putF (D := D) (ci := 5) (v := .ref q15) (ty := .array .int) (C := nRO) (T := fRO) (N := 2) hx hb hts iwRO tRO tkRO nmRO hown hK hP hD hS 0 rfl rfl 0 (by decide) (hts _ (List.mem_cons_of_mem _ lkRO_21)) (fun _ h9 => h9) rfl hnm rfl (by decide +kernel) rfl rfl (Nat.le_of_ble_eq_true rfl) dRO_init_17 (fun H locs hP hD hS => ?_)
  have hP : va_P D vwCl [(r, .inr (5, [.ref q15, .int (iI 0)])), (q15, .inl (cI, N, .inl (zf (fun _ => 0))))] H := hP
  have hD : va_D A [(r, .inr (5, [.ref q15, .int (iI 0)])), (q15, .inl (cI, N, .inl (zf (fun _ => 0))))] := hD
  exact hret H locs (0 + 1) (0 + N) 20 ls q15 trivial (hP.sub [0, 1] rfl) (hD.sub [0, 1] (by decide) rfl) hS (Nat.le_refl _) (by show 0 + N ≤ 192; omega) dRO_init_20
end
section
/-! decode rows: written by wip/whole/names.py -/
theorem dBE_init_0 : decode cBE_init 0 = .ok (.aload_n 0, 1) := by decide +kernel
theorem dBE_init_1 : decode cBE_init 1 = .ok (.invokespecial 3, 3) := by decide +kernel
theorem dBE_init_4 : decode cBE_init 4 = .ok (.aload_n 0, 1) := by decide +kernel
theorem dBE_init_5 : decode cBE_init 5 = .ok (.bipush 9, 2) := by decide +kernel
theorem dBE_init_7 : decode cBE_init 7 = .ok (.newarray .int, 2) := by decide +kernel
theorem dBE_init_9 : decode cBE_init 9 = .ok (.putfield 9, 3) := by decide +kernel
theorem dBE_init_12 : decode cBE_init 12 = .ok (.aload_n 0, 1) := by decide +kernel
theorem dBE_init_13 : decode cBE_init 13 = .ok (.bipush 9, 2) := by decide +kernel
theorem dBE_init_15 : decode cBE_init 15 = .ok (.newarray .int, 2) := by decide +kernel
theorem dBE_init_17 : decode cBE_init 17 = .ok (.putfield 15, 3) := by decide +kernel
theorem dBE_init_20 : decode cBE_init 20 = .ok (.return_, 1) := by decide +kernel
theorem dBE_determinant_0 : decode cBE_determinant 0 = .ok (.iload_n 1, 1) := by decide +kernel
theorem dBE_determinant_1 : decode cBE_determinant 1 = .ok (.aload_n 0, 1) := by decide +kernel
theorem dBE_determinant_2 : decode cBE_determinant 2 = .ok (.getfield 9, 3) := by decide +kernel
theorem dBE_determinant_5 : decode cBE_determinant 5 = .ok (.invokestatic 18, 3) := by decide +kernel
theorem dBE_determinant_8 : decode cBE_determinant 8 = .ok (.aload_n 0, 1) := by decide +kernel
theorem dBE_determinant_9 : decode cBE_determinant 9 = .ok (.getfield 9, 3) := by decide +kernel
theorem dBE_determinant_12 : decode cBE_determinant 12 = .ok (.iconst 0, 1) := by decide +kernel
theorem dBE_determinant_13 : decode cBE_determinant 13 = .ok (.iaload, 1) := by decide +kernel
theorem dBE_determinant_14 : decode cBE_determinant 14 = .ok (.aload_n 0, 1) := by decide +kernel
theorem dBE_determinant_15 : decode cBE_determinant 15 = .ok (.getfield 9, 3) := by decide +kernel
theorem dBE_determinant_18 : decode cBE_determinant 18 = .ok (.iconst 4, 1) := by decide +kernel
theorem dBE_determinant_19 : decode cBE_determinant 19 = .ok (.iaload, 1) := by decide +kernel
theorem dBE_determinant_20 : decode cBE_determinant 20 = .ok (.aload_n 0, 1) := by decide +kernel
theorem dBE_determinant_21 : decode cBE_determinant 21 = .ok (.getfield 9, 3) := by decide +kernel
theorem dBE_determinant_24 : decode cBE_determinant 24 = .ok (.bipush 8, 2) := by decide +kernel
theorem dBE_determinant_26 : decode cBE_determinant 26 = .ok (.iaload, 1) := by decide +kernel
theorem dBE_determinant_27 : decode cBE_determinant 27 = .ok (.imul, 1) := by decide +kernel
theorem dBE_determinant_28 : decode cBE_determinant 28 = .ok (.aload_n 0, 1) := by decide +kernel
theorem dBE_determinant_29 : decode cBE_determinant 29 = .ok (.getfield 9, 3) := by decide +kernel
theorem dBE_determinant_32 : decode cBE_determinant 32 = .ok (.iconst 5, 1) := by decide +kernel
theorem dBE_determinant_33 : decode cBE_determinant 33 = .ok (.iaload, 1) := by decide +kernel
theorem dBE_determinant_34 : decode cBE_determinant 34 = .ok (.aload_n 0, 1) := by decide +kernel
theorem dBE_determinant_35 : decode cBE_determinant 35 = .ok (.getfield 9, 3) := by decide +kernel
theorem dBE_determinant_38 : decode cBE_determinant 38 = .ok (.bipush 7, 2) := by decide +kernel
theorem dBE_determinant_40 : decode cBE_determinant 40 = .ok (.iaload, 1) := by decide +kernel
theorem dBE_determinant_41 : decode cBE_determinant 41 = .ok (.imul, 1) := by decide +kernel
theorem dBE_determinant_42 : decode cBE_determinant 42 = .ok (.isub, 1) := by decide +kernel
theorem dBE_determinant_43 : decode cBE_determinant 43 = .ok (.imul, 1) := by decide +kernel
theorem dBE_determinant_44 : decode cBE_determinant 44 = .ok (.aload_n 0, 1) := by decide +kernel
theorem dBE_determinant_45 : decode cBE_determinant 45 = .ok (.getfield 9, 3) := by decide +kernel
theorem dBE_determinant_48 : decode cBE_determinant 48 = .ok (.iconst 1, 1) := by decide +kernel
theorem dBE_determinant_49 : decode cBE_determinant 49 = .ok (.iaload, 1) := by decide +kernel
theorem dBE_determinant_50 : decode cBE_determinant 50 = .ok (.aload_n 0, 1) := by decide +kernel
theorem dBE_determinant_51 : decode cBE_determinant 51 = .ok (.getfield 9, 3) := by decide +kernel
theorem dBE_determinant_54 : decode cBE_determinant 54 = .ok (.iconst 3, 1) := by decide +kernel
theorem dBE_determinant_55 : decode cBE_determinant 55 = .ok (.iaload, 1) := by decide +kernel
theorem dBE_determinant_56 : decode cBE_determinant 56 = .ok (.aload_n 0, 1) := by decide +kernel
theorem dBE_determinant_57 : decode cBE_determinant 57 = .ok (.getfield 9, 3) := by decide +kernel
theorem dBE_determinant_60 : decode cBE_determinant 60 = .ok (.bipush 8, 2) := by decide +kernel
theorem dBE_determinant_62 : decode cBE_determinant 62 = .ok (.iaload, 1) := by decide +kernel
theorem dBE_determinant_63 : decode cBE_determinant 63 = .ok (.imul, 1) := by decide +kernel
theorem dBE_determinant_64 : decode cBE_determinant 64 = .ok (.aload_n 0, 1) := by decide +kernel
theorem dBE_determinant_65 : decode cBE_determinant 65 = .ok (.getfield 9, 3) := by decide +kernel
theorem dBE_determinant_68 : decode cBE_determinant 68 = .ok (.iconst 5, 1) := by decide +kernel
theorem dBE_determinant_69 : decode cBE_determinant 69 = .ok (.iaload, 1) := by decide +kernel
theorem dBE_determinant_70 : decode cBE_determinant 70 = .ok (.aload_n 0, 1) := by decide +kernel
theorem dBE_determinant_71 : decode cBE_determinant 71 = .ok (.getfield 9, 3) := by decide +kernel
theorem dBE_determinant_74 : decode cBE_determinant 74 = .ok (.bipush 6, 2) := by decide +kernel
theorem dBE_determinant_76 : decode cBE_determinant 76 = .ok (.iaload, 1) := by decide +kernel
theorem dBE_determinant_77 : decode cBE_determinant 77 = .ok (.imul, 1) := by decide +kernel
theorem dBE_determinant_78 : decode cBE_determinant 78 = .ok (.isub, 1) := by decide +kernel
theorem dBE_determinant_79 : decode cBE_determinant 79 = .ok (.imul, 1) := by decide +kernel
theorem dBE_determinant_80 : decode cBE_determinant 80 = .ok (.isub, 1) := by decide +kernel
theorem dBE_determinant_81 : decode cBE_determinant 81 = .ok (.aload_n 0, 1) := by decide +kernel
theorem dBE_determinant_82 : decode cBE_determinant 82 = .ok (.getfield 9, 3) := by decide +kernel
theorem dBE_determinant_85 : decode cBE_determinant 85 = .ok (.iconst 2, 1) := by decide +kernel
theorem dBE_determinant_86 : decode cBE_determinant 86 = .ok (.iaload, 1) := by decide +kernel
theorem dBE_determinant_87 : decode cBE_determinant 87 = .ok (.aload_n 0, 1) := by decide +kernel
theorem dBE_determinant_88 : decode cBE_determinant 88 = .ok (.getfield 9, 3) := by decide +kernel
theorem dBE_determinant_91 : decode cBE_determinant 91 = .ok (.iconst 3, 1) := by decide +kernel
theorem dBE_determinant_92 : decode cBE_determinant 92 = .ok (.iaload, 1) := by decide +kernel
theorem dBE_determinant_93 : decode cBE_determinant 93 = .ok (.aload_n 0, 1) := by decide +kernel
theorem dBE_determinant_94 : decode cBE_determinant 94 = .ok (.getfield 9, 3) := by decide +kernel
theorem dBE_determinant_97 : decode cBE_determinant 97 = .ok (.bipush 7, 2) := by decide +kernel
theorem dBE_determinant_99 : decode cBE_determinant 99 = .ok (.iaload, 1) := by decide +kernel
theorem dBE_determinant_100 : decode cBE_determinant 100 = .ok (.imul, 1) := by decide +kernel
theorem dBE_determinant_101 : decode cBE_determinant 101 = .ok (.aload_n 0, 1) := by decide +kernel
theorem dBE_determinant_102 : decode cBE_determinant 102 = .ok (.getfield 9, 3) := by decide +kernel
theorem dBE_determinant_105 : decode cBE_determinant 105 = .ok (.iconst 4, 1) := by decide +kernel
theorem dBE_determinant_106 : decode cBE_determinant 106 = .ok (.iaload, 1) := by decide +kernel
theorem dBE_determinant_107 : decode cBE_determinant 107 = .ok (.aload_n 0, 1) := by decide +kernel
theorem dBE_determinant_108 : decode cBE_determinant 108 = .ok (.getfield 9, 3) := by decide +kernel
theorem dBE_determinant_111 : decode cBE_determinant 111 = .ok (.bipush 6, 2) := by decide +kernel
theorem dBE_determinant_113 : decode cBE_determinant 113 = .ok (.iaload, 1) := by decide +kernel
theorem dBE_determinant_114 : decode cBE_determinant 114 = .ok (.imul, 1) := by decide +kernel
theorem dBE_determinant_115 : decode cBE_determinant 115 = .ok (.isub, 1) := by decide +kernel
theorem dBE_determinant_116 : decode cBE_determinant 116 = .ok (.imul, 1) := by decide +kernel
theorem dBE_determinant_117 : decode cBE_determinant 117 = .ok (.iadd, 1) := by decide +kernel
theorem dBE_determinant_118 : decode cBE_determinant 118 = .ok (.ireturn, 1) := by decide +kernel
theorem dBE_read_0 : decode cBE_read 0 = .ok (.iload_n 0, 1) := by decide +kernel
theorem dBE_read_1 : decode cBE_read 1 = .ok (.sipush 13824, 3) := by decide +kernel
theorem dBE_read_4 : decode cBE_read 4 = .ok (.idiv, 1) := by decide +kernel
theorem dBE_read_5 : decode cBE_read 5 = .ok (.istore_n 2, 1) := by decide +kernel
theorem dBE_read_6 : decode cBE_read 6 = .ok (.bipush 8, 2) := by decide +kernel
theorem dBE_read_8 : decode cBE_read 8 = .ok (.istore_n 3, 1) := by decide +kernel
theorem dBE_read_9 : decode cBE_read 9 = .ok (.iload_n 3, 1) := by decide +kernel
theorem dBE_read_10 : decode cBE_read 10 = .ok (.ifCond .lt 27, 3) := by decide +kernel
theorem dBE_read_13 : decode cBE_read 13 = .ok (.iload_n 3, 1) := by decide +kernel
theorem dBE_read_14 : decode cBE_read 14 = .ok (.aload_n 1, 1) := by decide +kernel
theorem dBE_read_15 : decode cBE_read 15 = .ok (.arraylength, 1) := by decide +kernel
theorem dBE_read_16 : decode cBE_read 16 = .ok (.if_icmp .ge 21, 3) := by decide +kernel
theorem dBE_read_19 : decode cBE_read 19 = .ok (.aload_n 1, 1) := by decide +kernel
theorem dBE_read_20 : decode cBE_read 20 = .ok (.iload_n 3, 1) := by decide +kernel
theorem dBE_read_21 : decode cBE_read 21 = .ok (.iload_n 2, 1) := by decide +kernel
theorem dBE_read_22 : decode cBE_read 22 = .ok (.iconst 3, 1) := by decide +kernel
theorem dBE_read_23 : decode cBE_read 23 = .ok (.irem, 1) := by decide +kernel
theorem dBE_read_24 : decode cBE_read 24 = .ok (.iconst 1, 1) := by decide +kernel
theorem dBE_read_25 : decode cBE_read 25 = .ok (.isub, 1) := by decide +kernel
theorem dBE_read_26 : decode cBE_read 26 = .ok (.iastore, 1) := by decide +kernel
theorem dBE_read_27 : decode cBE_read 27 = .ok (.iload_n 2, 1) := by decide +kernel
theorem dBE_read_28 : decode cBE_read 28 = .ok (.iconst 3, 1) := by decide +kernel
theorem dBE_read_29 : decode cBE_read 29 = .ok (.idiv, 1) := by decide +kernel
theorem dBE_read_30 : decode cBE_read 30 = .ok (.istore_n 2, 1) := by decide +kernel
theorem dBE_read_31 : decode cBE_read 31 = .ok (.iinc 3 (-1), 3) := by decide +kernel
theorem dBE_read_34 : decode cBE_read 34 = .ok (.goto (-25), 3) := by decide +kernel
theorem dBE_read_37 : decode cBE_read 37 = .ok (.return_, 1) := by decide +kernel
theorem dBE_times_0 : decode cBE_times 0 = .ok (.iload_n 1, 1) := by decide +kernel
theorem dBE_times_1 : decode cBE_times 1 = .ok (.aload_n 0, 1) := by decide +kernel
theorem dBE_times_2 : decode cBE_times 2 = .ok (.getfield 9, 3) := by decide +kernel
theorem dBE_times_5 : decode cBE_times 5 = .ok (.invokestatic 18, 3) := by decide +kernel
theorem dBE_times_8 : decode cBE_times 8 = .ok (.iload_n 2, 1) := by decide +kernel
theorem dBE_times_9 : decode cBE_times 9 = .ok (.aload_n 0, 1) := by decide +kernel
theorem dBE_times_10 : decode cBE_times 10 = .ok (.getfield 15, 3) := by decide +kernel
theorem dBE_times_13 : decode cBE_times 13 = .ok (.invokestatic 18, 3) := by decide +kernel
theorem dBE_times_16 : decode cBE_times 16 = .ok (.iconst 0, 1) := by decide +kernel
theorem dBE_times_17 : decode cBE_times 17 = .ok (.istore_n 3, 1) := by decide +kernel
theorem dBE_times_18 : decode cBE_times 18 = .ok (.iconst 0, 1) := by decide +kernel
theorem dBE_times_19 : decode cBE_times 19 = .ok (.istore 4, 2) := by decide +kernel
theorem dBE_times_21 : decode cBE_times 21 = .ok (.iload 4, 2) := by decide +kernel
theorem dBE_times_23 : decode cBE_times 23 = .ok (.bipush 9, 2) := by decide +kernel
theorem dBE_times_25 : decode cBE_times 25 = .ok (.if_icmp .ge 105, 3) := by decide +kernel
theorem dBE_times_28 : decode cBE_times 28 = .ok (.iconst 0, 1) := by decide +kernel
theorem dBE_times_29 : decode cBE_times 29 = .ok (.istore 5, 2) := by decide +kernel
theorem dBE_times_31 : decode cBE_times 31 = .ok (.iload 5, 2) := by decide +kernel
theorem dBE_times_33 : decode cBE_times 33 = .ok (.iconst 3, 1) := by decide +kernel
theorem dBE_times_34 : decode cBE_times 34 = .ok (.if_icmp .ge 90, 3) := by decide +kernel
theorem dBE_times_37 : decode cBE_times 37 = .ok (.aload_n 0, 1) := by decide +kernel
theorem dBE_times_38 : decode cBE_times 38 = .ok (.getfield 9, 3) := by decide +kernel
theorem dBE_times_41 : decode cBE_times 41 = .ok (.iload 4, 2) := by decide +kernel
theorem dBE_times_43 : decode cBE_times 43 = .ok (.iaload, 1) := by decide +kernel
theorem dBE_times_44 : decode cBE_times 44 = .ok (.aload_n 0, 1) := by decide +kernel
theorem dBE_times_45 : decode cBE_times 45 = .ok (.getfield 15, 3) := by decide +kernel
theorem dBE_times_48 : decode cBE_times 48 = .ok (.iload 5, 2) := by decide +kernel
theorem dBE_times_50 : decode cBE_times 50 = .ok (.iaload, 1) := by decide +kernel
theorem dBE_times_51 : decode cBE_times 51 = .ok (.imul, 1) := by decide +kernel
theorem dBE_times_52 : decode cBE_times 52 = .ok (.aload_n 0, 1) := by decide +kernel
theorem dBE_times_53 : decode cBE_times 53 = .ok (.getfield 9, 3) := by decide +kernel
theorem dBE_times_56 : decode cBE_times 56 = .ok (.iload 4, 2) := by decide +kernel
theorem dBE_times_58 : decode cBE_times 58 = .ok (.iconst 1, 1) := by decide +kernel
theorem dBE_times_59 : decode cBE_times 59 = .ok (.iadd, 1) := by decide +kernel
theorem dBE_times_60 : decode cBE_times 60 = .ok (.iaload, 1) := by decide +kernel
theorem dBE_times_61 : decode cBE_times 61 = .ok (.aload_n 0, 1) := by decide +kernel
theorem dBE_times_62 : decode cBE_times 62 = .ok (.getfield 15, 3) := by decide +kernel
theorem dBE_times_65 : decode cBE_times 65 = .ok (.iload 5, 2) := by decide +kernel
theorem dBE_times_67 : decode cBE_times 67 = .ok (.iconst 3, 1) := by decide +kernel
theorem dBE_times_68 : decode cBE_times 68 = .ok (.iadd, 1) := by decide +kernel
theorem dBE_times_69 : decode cBE_times 69 = .ok (.iaload, 1) := by decide +kernel
theorem dBE_times_70 : decode cBE_times 70 = .ok (.imul, 1) := by decide +kernel
theorem dBE_times_71 : decode cBE_times 71 = .ok (.iadd, 1) := by decide +kernel
theorem dBE_times_72 : decode cBE_times 72 = .ok (.aload_n 0, 1) := by decide +kernel
theorem dBE_times_73 : decode cBE_times 73 = .ok (.getfield 9, 3) := by decide +kernel
theorem dBE_times_76 : decode cBE_times 76 = .ok (.iload 4, 2) := by decide +kernel
theorem dBE_times_78 : decode cBE_times 78 = .ok (.iconst 2, 1) := by decide +kernel
theorem dBE_times_79 : decode cBE_times 79 = .ok (.iadd, 1) := by decide +kernel
theorem dBE_times_80 : decode cBE_times 80 = .ok (.iaload, 1) := by decide +kernel
theorem dBE_times_81 : decode cBE_times 81 = .ok (.aload_n 0, 1) := by decide +kernel
theorem dBE_times_82 : decode cBE_times 82 = .ok (.getfield 15, 3) := by decide +kernel
theorem dBE_times_85 : decode cBE_times 85 = .ok (.iload 5, 2) := by decide +kernel
theorem dBE_times_87 : decode cBE_times 87 = .ok (.bipush 6, 2) := by decide +kernel
theorem dBE_times_89 : decode cBE_times 89 = .ok (.iadd, 1) := by decide +kernel
theorem dBE_times_90 : decode cBE_times 90 = .ok (.iaload, 1) := by decide +kernel
theorem dBE_times_91 : decode cBE_times 91 = .ok (.imul, 1) := by decide +kernel
theorem dBE_times_92 : decode cBE_times 92 = .ok (.iadd, 1) := by decide +kernel
theorem dBE_times_93 : decode cBE_times 93 = .ok (.istore 6, 2) := by decide +kernel
theorem dBE_times_95 : decode cBE_times 95 = .ok (.iload 6, 2) := by decide +kernel
theorem dBE_times_97 : decode cBE_times 97 = .ok (.iconst (-1), 1) := by decide +kernel
theorem dBE_times_98 : decode cBE_times 98 = .ok (.if_icmp .lt 9, 3) := by decide +kernel
theorem dBE_times_101 : decode cBE_times 101 = .ok (.iload 6, 2) := by decide +kernel
theorem dBE_times_103 : decode cBE_times 103 = .ok (.iconst 1, 1) := by decide +kernel
theorem dBE_times_104 : decode cBE_times 104 = .ok (.if_icmp .le 5, 3) := by decide +kernel
theorem dBE_times_107 : decode cBE_times 107 = .ok (.iconst (-1), 1) := by decide +kernel
theorem dBE_times_108 : decode cBE_times 108 = .ok (.ireturn, 1) := by decide +kernel
theorem dBE_times_109 : decode cBE_times 109 = .ok (.iload_n 3, 1) := by decide +kernel
theorem dBE_times_110 : decode cBE_times 110 = .ok (.iconst 3, 1) := by decide +kernel
theorem dBE_times_111 : decode cBE_times 111 = .ok (.imul, 1) := by decide +kernel
theorem dBE_times_112 : decode cBE_times 112 = .ok (.iload 6, 2) := by decide +kernel
theorem dBE_times_114 : decode cBE_times 114 = .ok (.iadd, 1) := by decide +kernel
theorem dBE_times_115 : decode cBE_times 115 = .ok (.iconst 1, 1) := by decide +kernel
theorem dBE_times_116 : decode cBE_times 116 = .ok (.iadd, 1) := by decide +kernel
theorem dBE_times_117 : decode cBE_times 117 = .ok (.istore_n 3, 1) := by decide +kernel
theorem dBE_times_118 : decode cBE_times 118 = .ok (.iinc 5 1, 3) := by decide +kernel
theorem dBE_times_121 : decode cBE_times 121 = .ok (.goto (-90), 3) := by decide +kernel
theorem dBE_times_124 : decode cBE_times 124 = .ok (.iinc 4 3, 3) := by decide +kernel
theorem dBE_times_127 : decode cBE_times 127 = .ok (.goto (-106), 3) := by decide +kernel
theorem dBE_times_130 : decode cBE_times 130 = .ok (.iload_n 3, 1) := by decide +kernel
theorem dBE_times_131 : decode cBE_times 131 = .ok (.sipush 13824, 3) := by decide +kernel
theorem dBE_times_134 : decode cBE_times 134 = .ok (.imul, 1) := by decide +kernel
theorem dBE_times_135 : decode cBE_times 135 = .ok (.aload_n 0, 1) := by decide +kernel
theorem dBE_times_136 : decode cBE_times 136 = .ok (.iload_n 1, 1) := by decide +kernel
theorem dBE_times_137 : decode cBE_times 137 = .ok (.sipush 13824, 3) := by decide +kernel
theorem dBE_times_140 : decode cBE_times 140 = .ok (.irem, 1) := by decide +kernel
theorem dBE_times_141 : decode cBE_times 141 = .ok (.iload_n 2, 1) := by decide +kernel
theorem dBE_times_142 : decode cBE_times 142 = .ok (.sipush 13824, 3) := by decide +kernel
theorem dBE_times_145 : decode cBE_times 145 = .ok (.irem, 1) := by decide +kernel
theorem dBE_times_146 : decode cBE_times 146 = .ok (.invokevirtual 29, 3) := by decide +kernel
theorem dBE_times_149 : decode cBE_times 149 = .ok (.iadd, 1) := by decide +kernel
theorem dBE_times_150 : decode cBE_times 150 = .ok (.ireturn, 1) := by decide +kernel
theorem dBE_movedByLeft_0 : decode cBE_movedByLeft 0 = .ok (.iload_n 2, 1) := by decide +kernel
theorem dBE_movedByLeft_1 : decode cBE_movedByLeft 1 = .ok (.sipush 576, 3) := by decide +kernel
theorem dBE_movedByLeft_4 : decode cBE_movedByLeft 4 = .ok (.idiv, 1) := by decide +kernel
theorem dBE_movedByLeft_5 : decode cBE_movedByLeft 5 = .ok (.istore_n 3, 1) := by decide +kernel
theorem dBE_movedByLeft_6 : decode cBE_movedByLeft 6 = .ok (.iload_n 2, 1) := by decide +kernel
theorem dBE_movedByLeft_7 : decode cBE_movedByLeft 7 = .ok (.bipush 24, 2) := by decide +kernel
theorem dBE_movedByLeft_9 : decode cBE_movedByLeft 9 = .ok (.idiv, 1) := by decide +kernel
theorem dBE_movedByLeft_10 : decode cBE_movedByLeft 10 = .ok (.bipush 24, 2) := by decide +kernel
theorem dBE_movedByLeft_12 : decode cBE_movedByLeft 12 = .ok (.irem, 1) := by decide +kernel
theorem dBE_movedByLeft_13 : decode cBE_movedByLeft 13 = .ok (.istore 4, 2) := by decide +kernel
theorem dBE_movedByLeft_15 : decode cBE_movedByLeft 15 = .ok (.iload_n 2, 1) := by decide +kernel
theorem dBE_movedByLeft_16 : decode cBE_movedByLeft 16 = .ok (.bipush 24, 2) := by decide +kernel
theorem dBE_movedByLeft_18 : decode cBE_movedByLeft 18 = .ok (.irem, 1) := by decide +kernel
theorem dBE_movedByLeft_19 : decode cBE_movedByLeft 19 = .ok (.istore 5, 2) := by decide +kernel
theorem dBE_movedByLeft_21 : decode cBE_movedByLeft 21 = .ok (.aload_n 0, 1) := by decide +kernel
theorem dBE_movedByLeft_22 : decode cBE_movedByLeft 22 = .ok (.getfield 9, 3) := by decide +kernel
theorem dBE_movedByLeft_25 : decode cBE_movedByLeft 25 = .ok (.iconst 0, 1) := by decide +kernel
theorem dBE_movedByLeft_26 : decode cBE_movedByLeft 26 = .ok (.iaload, 1) := by decide +kernel
theorem dBE_movedByLeft_27 : decode cBE_movedByLeft 27 = .ok (.iload_n 3, 1) := by decide +kernel
theorem dBE_movedByLeft_28 : decode cBE_movedByLeft 28 = .ok (.imul, 1) := by decide +kernel
theorem dBE_movedByLeft_29 : decode cBE_movedByLeft 29 = .ok (.aload_n 0, 1) := by decide +kernel
theorem dBE_movedByLeft_30 : decode cBE_movedByLeft 30 = .ok (.getfield 9, 3) := by decide +kernel
theorem dBE_movedByLeft_33 : decode cBE_movedByLeft 33 = .ok (.iconst 1, 1) := by decide +kernel
theorem dBE_movedByLeft_34 : decode cBE_movedByLeft 34 = .ok (.iaload, 1) := by decide +kernel
theorem dBE_movedByLeft_35 : decode cBE_movedByLeft 35 = .ok (.iload 4, 2) := by decide +kernel
theorem dBE_movedByLeft_37 : decode cBE_movedByLeft 37 = .ok (.imul, 1) := by decide +kernel
theorem dBE_movedByLeft_38 : decode cBE_movedByLeft 38 = .ok (.iadd, 1) := by decide +kernel
theorem dBE_movedByLeft_39 : decode cBE_movedByLeft 39 = .ok (.aload_n 0, 1) := by decide +kernel
theorem dBE_movedByLeft_40 : decode cBE_movedByLeft 40 = .ok (.getfield 9, 3) := by decide +kernel
theorem dBE_movedByLeft_43 : decode cBE_movedByLeft 43 = .ok (.iconst 2, 1) := by decide +kernel
theorem dBE_movedByLeft_44 : decode cBE_movedByLeft 44 = .ok (.iaload, 1) := by decide +kernel
theorem dBE_movedByLeft_45 : decode cBE_movedByLeft 45 = .ok (.iload 5, 2) := by decide +kernel
theorem dBE_movedByLeft_47 : decode cBE_movedByLeft 47 = .ok (.imul, 1) := by decide +kernel
theorem dBE_movedByLeft_48 : decode cBE_movedByLeft 48 = .ok (.iadd, 1) := by decide +kernel
theorem dBE_movedByLeft_49 : decode cBE_movedByLeft 49 = .ok (.iload_n 1, 1) := by decide +kernel
theorem dBE_movedByLeft_50 : decode cBE_movedByLeft 50 = .ok (.sipush 576, 3) := by decide +kernel
theorem dBE_movedByLeft_53 : decode cBE_movedByLeft 53 = .ok (.idiv, 1) := by decide +kernel
theorem dBE_movedByLeft_54 : decode cBE_movedByLeft 54 = .ok (.iadd, 1) := by decide +kernel
theorem dBE_movedByLeft_55 : decode cBE_movedByLeft 55 = .ok (.istore 6, 2) := by decide +kernel
theorem dBE_movedByLeft_57 : decode cBE_movedByLeft 57 = .ok (.aload_n 0, 1) := by decide +kernel
theorem dBE_movedByLeft_58 : decode cBE_movedByLeft 58 = .ok (.getfield 9, 3) := by decide +kernel
theorem dBE_movedByLeft_61 : decode cBE_movedByLeft 61 = .ok (.iconst 3, 1) := by decide +kernel
theorem dBE_movedByLeft_62 : decode cBE_movedByLeft 62 = .ok (.iaload, 1) := by decide +kernel
theorem dBE_movedByLeft_63 : decode cBE_movedByLeft 63 = .ok (.iload_n 3, 1) := by decide +kernel
theorem dBE_movedByLeft_64 : decode cBE_movedByLeft 64 = .ok (.imul, 1) := by decide +kernel
theorem dBE_movedByLeft_65 : decode cBE_movedByLeft 65 = .ok (.aload_n 0, 1) := by decide +kernel
theorem dBE_movedByLeft_66 : decode cBE_movedByLeft 66 = .ok (.getfield 9, 3) := by decide +kernel
theorem dBE_movedByLeft_69 : decode cBE_movedByLeft 69 = .ok (.iconst 4, 1) := by decide +kernel
theorem dBE_movedByLeft_70 : decode cBE_movedByLeft 70 = .ok (.iaload, 1) := by decide +kernel
theorem dBE_movedByLeft_71 : decode cBE_movedByLeft 71 = .ok (.iload 4, 2) := by decide +kernel
theorem dBE_movedByLeft_73 : decode cBE_movedByLeft 73 = .ok (.imul, 1) := by decide +kernel
theorem dBE_movedByLeft_74 : decode cBE_movedByLeft 74 = .ok (.iadd, 1) := by decide +kernel
theorem dBE_movedByLeft_75 : decode cBE_movedByLeft 75 = .ok (.aload_n 0, 1) := by decide +kernel
theorem dBE_movedByLeft_76 : decode cBE_movedByLeft 76 = .ok (.getfield 9, 3) := by decide +kernel
theorem dBE_movedByLeft_79 : decode cBE_movedByLeft 79 = .ok (.iconst 5, 1) := by decide +kernel
theorem dBE_movedByLeft_80 : decode cBE_movedByLeft 80 = .ok (.iaload, 1) := by decide +kernel
theorem dBE_movedByLeft_81 : decode cBE_movedByLeft 81 = .ok (.iload 5, 2) := by decide +kernel
theorem dBE_movedByLeft_83 : decode cBE_movedByLeft 83 = .ok (.imul, 1) := by decide +kernel
theorem dBE_movedByLeft_84 : decode cBE_movedByLeft 84 = .ok (.iadd, 1) := by decide +kernel
theorem dBE_movedByLeft_85 : decode cBE_movedByLeft 85 = .ok (.iload_n 1, 1) := by decide +kernel
theorem dBE_movedByLeft_86 : decode cBE_movedByLeft 86 = .ok (.bipush 24, 2) := by decide +kernel
theorem dBE_movedByLeft_88 : decode cBE_movedByLeft 88 = .ok (.idiv, 1) := by decide +kernel
theorem dBE_movedByLeft_89 : decode cBE_movedByLeft 89 = .ok (.bipush 24, 2) := by decide +kernel
theorem dBE_movedByLeft_91 : decode cBE_movedByLeft 91 = .ok (.irem, 1) := by decide +kernel
theorem dBE_movedByLeft_92 : decode cBE_movedByLeft 92 = .ok (.iadd, 1) := by decide +kernel
theorem dBE_movedByLeft_93 : decode cBE_movedByLeft 93 = .ok (.istore 7, 2) := by decide +kernel
theorem dBE_movedByLeft_95 : decode cBE_movedByLeft 95 = .ok (.aload_n 0, 1) := by decide +kernel
theorem dBE_movedByLeft_96 : decode cBE_movedByLeft 96 = .ok (.getfield 9, 3) := by decide +kernel
theorem dBE_movedByLeft_99 : decode cBE_movedByLeft 99 = .ok (.bipush 6, 2) := by decide +kernel
theorem dBE_movedByLeft_101 : decode cBE_movedByLeft 101 = .ok (.iaload, 1) := by decide +kernel
theorem dBE_movedByLeft_102 : decode cBE_movedByLeft 102 = .ok (.iload_n 3, 1) := by decide +kernel
theorem dBE_movedByLeft_103 : decode cBE_movedByLeft 103 = .ok (.imul, 1) := by decide +kernel
theorem dBE_movedByLeft_104 : decode cBE_movedByLeft 104 = .ok (.aload_n 0, 1) := by decide +kernel
theorem dBE_movedByLeft_105 : decode cBE_movedByLeft 105 = .ok (.getfield 9, 3) := by decide +kernel
theorem dBE_movedByLeft_108 : decode cBE_movedByLeft 108 = .ok (.bipush 7, 2) := by decide +kernel
theorem dBE_movedByLeft_110 : decode cBE_movedByLeft 110 = .ok (.iaload, 1) := by decide +kernel
theorem dBE_movedByLeft_111 : decode cBE_movedByLeft 111 = .ok (.iload 4, 2) := by decide +kernel
theorem dBE_movedByLeft_113 : decode cBE_movedByLeft 113 = .ok (.imul, 1) := by decide +kernel
theorem dBE_movedByLeft_114 : decode cBE_movedByLeft 114 = .ok (.iadd, 1) := by decide +kernel
theorem dBE_movedByLeft_115 : decode cBE_movedByLeft 115 = .ok (.aload_n 0, 1) := by decide +kernel
theorem dBE_movedByLeft_116 : decode cBE_movedByLeft 116 = .ok (.getfield 9, 3) := by decide +kernel
theorem dBE_movedByLeft_119 : decode cBE_movedByLeft 119 = .ok (.bipush 8, 2) := by decide +kernel
theorem dBE_movedByLeft_121 : decode cBE_movedByLeft 121 = .ok (.iaload, 1) := by decide +kernel
theorem dBE_movedByLeft_122 : decode cBE_movedByLeft 122 = .ok (.iload 5, 2) := by decide +kernel
theorem dBE_movedByLeft_124 : decode cBE_movedByLeft 124 = .ok (.imul, 1) := by decide +kernel
theorem dBE_movedByLeft_125 : decode cBE_movedByLeft 125 = .ok (.iadd, 1) := by decide +kernel
theorem dBE_movedByLeft_126 : decode cBE_movedByLeft 126 = .ok (.iload_n 1, 1) := by decide +kernel
theorem dBE_movedByLeft_127 : decode cBE_movedByLeft 127 = .ok (.bipush 24, 2) := by decide +kernel
theorem dBE_movedByLeft_129 : decode cBE_movedByLeft 129 = .ok (.irem, 1) := by decide +kernel
theorem dBE_movedByLeft_130 : decode cBE_movedByLeft 130 = .ok (.iadd, 1) := by decide +kernel
theorem dBE_movedByLeft_131 : decode cBE_movedByLeft 131 = .ok (.istore 8, 2) := by decide +kernel
theorem dBE_movedByLeft_133 : decode cBE_movedByLeft 133 = .ok (.iload 6, 2) := by decide +kernel
theorem dBE_movedByLeft_135 : decode cBE_movedByLeft 135 = .ok (.bipush 72, 2) := by decide +kernel
theorem dBE_movedByLeft_137 : decode cBE_movedByLeft 137 = .ok (.iadd, 1) := by decide +kernel
theorem dBE_movedByLeft_138 : decode cBE_movedByLeft 138 = .ok (.bipush 24, 2) := by decide +kernel
theorem dBE_movedByLeft_140 : decode cBE_movedByLeft 140 = .ok (.irem, 1) := by decide +kernel
theorem dBE_movedByLeft_141 : decode cBE_movedByLeft 141 = .ok (.bipush 24, 2) := by decide +kernel
theorem dBE_movedByLeft_143 : decode cBE_movedByLeft 143 = .ok (.imul, 1) := by decide +kernel
theorem dBE_movedByLeft_144 : decode cBE_movedByLeft 144 = .ok (.iload 7, 2) := by decide +kernel
theorem dBE_movedByLeft_146 : decode cBE_movedByLeft 146 = .ok (.bipush 72, 2) := by decide +kernel
theorem dBE_movedByLeft_148 : decode cBE_movedByLeft 148 = .ok (.iadd, 1) := by decide +kernel
theorem dBE_movedByLeft_149 : decode cBE_movedByLeft 149 = .ok (.bipush 24, 2) := by decide +kernel
theorem dBE_movedByLeft_151 : decode cBE_movedByLeft 151 = .ok (.irem, 1) := by decide +kernel
theorem dBE_movedByLeft_152 : decode cBE_movedByLeft 152 = .ok (.iadd, 1) := by decide +kernel
theorem dBE_movedByLeft_153 : decode cBE_movedByLeft 153 = .ok (.bipush 24, 2) := by decide +kernel
theorem dBE_movedByLeft_155 : decode cBE_movedByLeft 155 = .ok (.imul, 1) := by decide +kernel
theorem dBE_movedByLeft_156 : decode cBE_movedByLeft 156 = .ok (.iload 8, 2) := by decide +kernel
theorem dBE_movedByLeft_158 : decode cBE_movedByLeft 158 = .ok (.bipush 72, 2) := by decide +kernel
theorem dBE_movedByLeft_160 : decode cBE_movedByLeft 160 = .ok (.iadd, 1) := by decide +kernel
theorem dBE_movedByLeft_161 : decode cBE_movedByLeft 161 = .ok (.bipush 24, 2) := by decide +kernel
theorem dBE_movedByLeft_163 : decode cBE_movedByLeft 163 = .ok (.irem, 1) := by decide +kernel
theorem dBE_movedByLeft_164 : decode cBE_movedByLeft 164 = .ok (.iadd, 1) := by decide +kernel
theorem dBE_movedByLeft_165 : decode cBE_movedByLeft 165 = .ok (.ireturn, 1) := by decide +kernel
theorem dBE_sort_0 : decode cBE_sort 0 = .ok (.aload_n 0, 1) := by decide +kernel
theorem dBE_sort_1 : decode cBE_sort 1 = .ok (.iload_n 1, 1) := by decide +kernel
theorem dBE_sort_2 : decode cBE_sort 2 = .ok (.invokevirtual 22, 3) := by decide +kernel
theorem dBE_sort_5 : decode cBE_sort 5 = .ok (.istore_n 2, 1) := by decide +kernel
theorem dBE_sort_6 : decode cBE_sort 6 = .ok (.iload_n 2, 1) := by decide +kernel
theorem dBE_sort_7 : decode cBE_sort 7 = .ok (.iconst 1, 1) := by decide +kernel
theorem dBE_sort_8 : decode cBE_sort 8 = .ok (.if_icmp .eq 10, 3) := by decide +kernel
theorem dBE_sort_11 : decode cBE_sort 11 = .ok (.iload_n 2, 1) := by decide +kernel
theorem dBE_sort_12 : decode cBE_sort 12 = .ok (.iconst (-1), 1) := by decide +kernel
theorem dBE_sort_13 : decode cBE_sort 13 = .ok (.if_icmp .eq 5, 3) := by decide +kernel
theorem dBE_sort_16 : decode cBE_sort 16 = .ok (.iconst 0, 1) := by decide +kernel
theorem dBE_sort_17 : decode cBE_sort 17 = .ok (.ireturn, 1) := by decide +kernel
theorem dBE_sort_18 : decode cBE_sort 18 = .ok (.iload_n 2, 1) := by decide +kernel
theorem dBE_sort_19 : decode cBE_sort 19 = .ok (.aload_n 0, 1) := by decide +kernel
theorem dBE_sort_20 : decode cBE_sort 20 = .ok (.getfield 9, 3) := by decide +kernel
theorem dBE_sort_23 : decode cBE_sort 23 = .ok (.iconst 0, 1) := by decide +kernel
theorem dBE_sort_24 : decode cBE_sort 24 = .ok (.iaload, 1) := by decide +kernel
theorem dBE_sort_25 : decode cBE_sort 25 = .ok (.aload_n 0, 1) := by decide +kernel
theorem dBE_sort_26 : decode cBE_sort 26 = .ok (.getfield 9, 3) := by decide +kernel
theorem dBE_sort_29 : decode cBE_sort 29 = .ok (.iconst 4, 1) := by decide +kernel
theorem dBE_sort_30 : decode cBE_sort 30 = .ok (.iaload, 1) := by decide +kernel
theorem dBE_sort_31 : decode cBE_sort 31 = .ok (.iadd, 1) := by decide +kernel
theorem dBE_sort_32 : decode cBE_sort 32 = .ok (.aload_n 0, 1) := by decide +kernel
theorem dBE_sort_33 : decode cBE_sort 33 = .ok (.getfield 9, 3) := by decide +kernel
theorem dBE_sort_36 : decode cBE_sort 36 = .ok (.bipush 8, 2) := by decide +kernel
theorem dBE_sort_38 : decode cBE_sort 38 = .ok (.iaload, 1) := by decide +kernel
theorem dBE_sort_39 : decode cBE_sort 39 = .ok (.iadd, 1) := by decide +kernel
theorem dBE_sort_40 : decode cBE_sort 40 = .ok (.imul, 1) := by decide +kernel
theorem dBE_sort_41 : decode cBE_sort 41 = .ok (.iconst 1, 1) := by decide +kernel
theorem dBE_sort_42 : decode cBE_sort 42 = .ok (.iadd, 1) := by decide +kernel
theorem dBE_sort_43 : decode cBE_sort 43 = .ok (.istore_n 3, 1) := by decide +kernel
theorem dBE_sort_44 : decode cBE_sort 44 = .ok (.iload_n 3, 1) := by decide +kernel
theorem dBE_sort_45 : decode cBE_sort 45 = .ok (.ifCond .lt 21, 3) := by decide +kernel
theorem dBE_sort_48 : decode cBE_sort 48 = .ok (.iload_n 3, 1) := by decide +kernel
theorem dBE_sort_49 : decode cBE_sort 49 = .ok (.getstatic 26, 3) := by decide +kernel
theorem dBE_sort_52 : decode cBE_sort 52 = .ok (.arraylength, 1) := by decide +kernel
theorem dBE_sort_53 : decode cBE_sort 53 = .ok (.if_icmp .ge 13, 3) := by decide +kernel
theorem dBE_sort_56 : decode cBE_sort 56 = .ok (.iload_n 2, 1) := by decide +kernel
theorem dBE_sort_57 : decode cBE_sort 57 = .ok (.getstatic 26, 3) := by decide +kernel
theorem dBE_sort_60 : decode cBE_sort 60 = .ok (.iload_n 3, 1) := by decide +kernel
theorem dBE_sort_61 : decode cBE_sort 61 = .ok (.iaload, 1) := by decide +kernel
theorem dBE_sort_62 : decode cBE_sort 62 = .ok (.imul, 1) := by decide +kernel
theorem dBE_sort_63 : decode cBE_sort 63 = .ok (.goto 4, 3) := by decide +kernel
theorem dBE_sort_66 : decode cBE_sort 66 = .ok (.iconst 0, 1) := by decide +kernel
theorem dBE_sort_67 : decode cBE_sort 67 = .ok (.ireturn, 1) := by decide +kernel
theorem dBE_turns_0 : decode cBE_turns 0 = .ok (.iload_n 1, 1) := by decide +kernel
theorem dBE_turns_1 : decode cBE_turns 1 = .ok (.istore_n 2, 1) := by decide +kernel
theorem dBE_turns_2 : decode cBE_turns 2 = .ok (.iconst 1, 1) := by decide +kernel
theorem dBE_turns_3 : decode cBE_turns 3 = .ok (.istore_n 3, 1) := by decide +kernel
theorem dBE_turns_4 : decode cBE_turns 4 = .ok (.iload_n 2, 1) := by decide +kernel
theorem dBE_turns_5 : decode cBE_turns 5 = .ok (.iconst (-1), 1) := by decide +kernel
theorem dBE_turns_6 : decode cBE_turns 6 = .ok (.if_icmp .eq 31, 3) := by decide +kernel
theorem dBE_turns_9 : decode cBE_turns 9 = .ok (.iload_n 3, 1) := by decide +kernel
theorem dBE_turns_10 : decode cBE_turns 10 = .ok (.sipush 192, 3) := by decide +kernel
theorem dBE_turns_13 : decode cBE_turns 13 = .ok (.if_icmp .gt 24, 3) := by decide +kernel
theorem dBE_turns_16 : decode cBE_turns 16 = .ok (.iload_n 2, 1) := by decide +kernel
theorem dBE_turns_17 : decode cBE_turns 17 = .ok (.ldc 33, 2) := by decide +kernel
theorem dBE_turns_19 : decode cBE_turns 19 = .ok (.if_icmp .ne 5, 3) := by decide +kernel
theorem dBE_turns_22 : decode cBE_turns 22 = .ok (.iload_n 3, 1) := by decide +kernel
theorem dBE_turns_23 : decode cBE_turns 23 = .ok (.ireturn, 1) := by decide +kernel
theorem dBE_turns_24 : decode cBE_turns 24 = .ok (.aload_n 0, 1) := by decide +kernel
theorem dBE_turns_25 : decode cBE_turns 25 = .ok (.iload_n 2, 1) := by decide +kernel
theorem dBE_turns_26 : decode cBE_turns 26 = .ok (.iload_n 1, 1) := by decide +kernel
theorem dBE_turns_27 : decode cBE_turns 27 = .ok (.invokevirtual 34, 3) := by decide +kernel
theorem dBE_turns_30 : decode cBE_turns 30 = .ok (.istore_n 2, 1) := by decide +kernel
theorem dBE_turns_31 : decode cBE_turns 31 = .ok (.iinc 3 1, 3) := by decide +kernel
theorem dBE_turns_34 : decode cBE_turns 34 = .ok (.goto (-30), 3) := by decide +kernel
theorem dBE_turns_37 : decode cBE_turns 37 = .ok (.iconst (-1), 1) := by decide +kernel
theorem dBE_turns_38 : decode cBE_turns 38 = .ok (.ireturn, 1) := by decide +kernel
theorem dBE_moved_0 : decode cBE_moved 0 = .ok (.iload_n 1, 1) := by decide +kernel
theorem dBE_moved_1 : decode cBE_moved 1 = .ok (.aload_n 0, 1) := by decide +kernel
theorem dBE_moved_2 : decode cBE_moved 2 = .ok (.getfield 9, 3) := by decide +kernel
theorem dBE_moved_5 : decode cBE_moved 5 = .ok (.invokestatic 18, 3) := by decide +kernel
theorem dBE_moved_8 : decode cBE_moved 8 = .ok (.aload_n 0, 1) := by decide +kernel
theorem dBE_moved_9 : decode cBE_moved 9 = .ok (.iload_n 1, 1) := by decide +kernel
theorem dBE_moved_10 : decode cBE_moved 10 = .ok (.sipush 13824, 3) := by decide +kernel
theorem dBE_moved_13 : decode cBE_moved 13 = .ok (.irem, 1) := by decide +kernel
theorem dBE_moved_14 : decode cBE_moved 14 = .ok (.iload_n 2, 1) := by decide +kernel
theorem dBE_moved_15 : decode cBE_moved 15 = .ok (.invokevirtual 29, 3) := by decide +kernel
theorem dBE_moved_18 : decode cBE_moved 18 = .ok (.ireturn, 1) := by decide +kernel
end
section
/-! Bench: written by wip/whole/genbench.py -/
def rmBE_read : Room := { frames := 0, cells := 0, slots := 0, locals := 0 }
set_option maxHeartbeats 4000000 in
set_option maxRecDepth 100000 in
theorem mBE_read (l : Launch) (D : va_G) (cI cG : ClassId) (a : Nat) (g : Nat → Int) (k : Int) (hk : 0 ≤ k ∧ k < 2147483648) : zV l yBE_read wBE_read rmBE_read D vwCl (zT cI cG) [.int (iI k), .ref a] [(a, .inl (cI, 9, .inl (zf g)))] (S := Unit) (fun u => True) (fun u => [(a, .inl (cI, 9, .inl (zf (rd k g))))]) := by
  refine zV.of (cc := cBE_read) (maxL := 4) (by decide) rfl (Nat.le_of_ble_eq_true rfl) ?_
  intro p e s m args below meth c A ls Q hx hb hml hown hts hnm hK hD hA hAe hX hl hret H locs hP hS
  have hl : lv_has ls 4 [(0, .int (iI k)), (1, .ref a)] := hl
  have hnr := nnT_rng hk
  refine lv_iload_n hx hb dBE_read_0 rfl (lv_at hl 0 rfl) ?_
  refine lv_sipush (v := iI (13824)) hx hb dBE_read_1 (by decide) ?_
  refine lz_idiv hx hb dBE_read_4 (by omega) (by omega) ?_
  refine lv_istore_n (lv' := [(2, .int (iI (k / 13824))), (0, .int (iI k)), (1, .ref a)]) hx hb dBE_read_5 rfl hl (by decide) rfl (fun ls hl => ?_)
  refine lv_bipush (v := iI (8)) hx hb dBE_read_6 (by decide) ?_
  refine lv_istore_n (lv' := [(3, .int (iI 8)), (2, .int (iI (k / 13824))), (0, .int (iI k)), (1, .ref a)]) hx hb dBE_read_8 rfl hl (by decide) rfl (fun ls hl => ?_)
  rw [show 8 = 8 - ((0 : Nat) : Int) from rfl] at hl
  rw [show g = rdT k g 0 from (rdT_0 k g).symm] at hP hD
  have lp9 : ∀ (n9 : Nat) (t : Nat), (t ≤ 9) → (9 - t) < n9 → ∀ (H : Heap) (locs : List Loc), va_P D vwCl [(a, .inl (cI, 9, .inl (zf (rdT k g t))))] H → va_D A [(a, .inl (cI, 9, .inl (zf (rdT k g t))))] → va_S A s.heap H locs → ∀ (ls : Array Slot), lv_has ls 4 [(0, .int (iI k)), (1, .ref a), (2, .int (iI (nnT k t))), (3, .int (iI (8 - (t : Int))))] → W p l e (headSpec wBE_read rmBE_read).room s m args below meth c H locs 0 0 Q (F0 m 9 ls []) := by
    intro n9
    induction n9 with
    | zero => intro t ht hm; exact absurd hm (Nat.not_lt_zero _)
    | succ n9 ih9 =>
      intro t ht hm9 H locs hP hD hS ls hl
      refine lv_iload_n hx hb dBE_read_9 rfl (lv_at hl 3 rfl) ?_
      refine lz_if_lt (tgt := 37) hx hb dBE_read_10 (by decide) (by omega) (fun c_10 => ?_) (fun c_10 => ?_)
      · obtain rfl : t = 9 := by omega
        rw [rdT_9] at hP hD
        exact hret H locs 0 0 37 ls () trivial (hP.sub [0] rfl) (hD.sub [0] (by decide) rfl) hS (Nat.zero_le _) (Nat.zero_le _) dBE_read_37
      · refine lv_iload_n hx hb dBE_read_13 rfl (lv_at hl 3 rfl) ?_
        refine lv_aload_n hx hb dBE_read_14 rfl (lv_at hl 1 rfl) ?_
        refine lz_alen hx hb hK hP 0 0 rfl rfl dBE_read_15 ?_
        refine lz_icmp_ge (tgt := 37) hx hb dBE_read_16 (by decide) (by omega) (by omega) (fun c_16 => ?_) (fun c_16 => ?_)
        · exact absurd c_16 (by omega)
        · refine lv_aload_n hx hb dBE_read_19 rfl (lv_at hl 1 rfl) ?_
          refine lv_iload_n hx hb dBE_read_20 rfl (lv_at hl 3 rfl) ?_
          refine lv_iload_n hx hb dBE_read_21 rfl (lv_at hl 2 rfl) ?_
          refine lv_iconst (v := iI (3)) hx hb dBE_read_22 rfl ?_
          refine lz_irem hx hb dBE_read_23 (hnr t) (by omega) ?_
          refine lv_iconst (v := iI (1)) hx hb dBE_read_24 rfl ?_
          refine lz_isub hx hb dBE_read_25 ?_
          refine lz_iast hx hb hK hP hD hS 0 0 rfl rfl (z := 8 - (t : Int)) (v := ((nnT k t) % 3) - 1) (by omega) dBE_read_26 (fun H locs hP hD hS => ?_)
          have hP : va_P D vwCl [(a, .inl (cI, 9, .inl (zf (zu (rdT k g t) (8 - (t : Int)).toNat (((nnT k t) % 3) - 1)))))] H := hP
          have hD : va_D A [(a, .inl (cI, 9, .inl (zf (zu (rdT k g t) (8 - (t : Int)).toNat (((nnT k t) % 3) - 1)))))] := hD
          refine lv_iload_n hx hb dBE_read_27 rfl (lv_at hl 2 rfl) ?_
          refine lv_iconst (v := iI (3)) hx hb dBE_read_28 rfl ?_
          refine lz_idiv hx hb dBE_read_29 (hnr t) (by omega) ?_
          refine lv_istore_n (lv' := [(2, .int (iI ((nnT k t) / 3))), (0, .int (iI k)), (1, .ref a), (3, .int (iI (8 - (t : Int))))]) hx hb dBE_read_30 rfl hl (by decide) rfl (fun ls hl => ?_)
          refine lz_iinc (lv' := [(3, .int (iI ((8 - (t : Int)) + (-1)))), (2, .int (iI ((nnT k t) / 3))), (0, .int (iI k)), (1, .ref a)]) hx hb dBE_read_31 hl (k := 3) rfl (by decide) rfl (fun ls hl => ?_)
          refine lv_goto (tgt := 9) hx hb dBE_read_34 (by decide) ?_
          rw [show (8 - (t : Int)) + (-1) = 8 - ((t + 1 : Nat) : Int) from by omega] at hl
          rw [show zu (rdT k g t) (8 - (t : Int)).toNat (((nnT k t) % 3) - 1) = rdT k g (t + 1) from rdT_s (by omega)] at hP hD
          exact ih9 (t + 1) (by omega) (by omega) _ _ (hP.sub [0] rfl) (hD.sub [0] (by decide) rfl) hS _ (lv_sub hl [2, 3, 1, 0] rfl)
  exact lp9 _ 0 (Nat.zero_le _) (Nat.lt_succ_self _) _ _ (hP.sub [0] rfl) (hD.sub [0] (by decide) rfl) hS _ (lv_sub hl [2, 3, 1, 0] rfl)

def rmBE_determinant : Room := { frames := 1, cells := 0, slots := 0, locals := 23 }
set_option maxHeartbeats 4000000 in
set_option maxRecDepth 100000 in
theorem mBE_determinant (l : Launch) (D : va_G) (cI cG : ClassId) (b lf rt : Nat) (gl gr : Nat → Int) (k : Int) (hk : 0 ≤ k ∧ k < 2147483648) : zI l yBE_determinant wBE_determinant rmBE_determinant D vwCl (zT cI cG) [.ref b, .int (iI k)] [(b, .inr (1, [.ref lf, .ref rt])), (lf, .inl (cI, 9, .inl (zf gl))), (rt, .inl (cI, 9, .inl (zf gr)))] (S := Unit) (fun z u => z = detF (mdg k)) (fun u => [(b, .inr (1, [.ref lf, .ref rt])), (lf, .inl (cI, 9, .inl (zf (rd k gl)))), (rt, .inl (cI, 9, .inl (zf gr)))]) := by
  refine zI.of (cc := cBE_determinant) (maxL := 2) (rt := .int) (by decide) rfl (Nat.le_of_ble_eq_true rfl) (fun _ _ _ => rfl) ?_
  intro p e s m args below meth c A ls Q hx hb hml hown hts hnm hK hD hA hAe hX hl hret H locs hP hS
  have hl : lv_has ls 2 [(0, .ref b), (1, .int (iI k))] := hl
  refine lv_iload_n hx hb dBE_determinant_0 rfl (lv_at hl 1 rfl) ?_
  refine lv_aload_n hx hb dBE_determinant_1 rfl (lv_at hl 0 rfl) ?_
  refine va_get (D := D) (ci := 1) (v := .ref lf) (C := nBE) (T := fBE) (N := 2) hx hb hts iwBE hown hK hP 0 rfl rfl 0 (by decide) (hts _ (List.mem_cons_of_mem _ lkBE_9)) (fun _ h9 => h9) rfl dBE_determinant_2 ?_
  refine zV.back (va_runS (As := [.int (iI k), .ref lf]) (rest := []) ⟨hx, hb, hml, hown, hts⟩ ((mBE_read l D cI cG lf gl k hk) H.size) (va_cwS 2 hts (gT1 lkBE_18 (gT1 smBE_read (gT1 iniBE (gTW kcBE_read)))) rfl rfl rfl (by decide +kernel) ⟨Nat.le_of_ble_eq_true rfl, Nat.le_of_ble_eq_true rfl⟩) ⟨zPre_blind, zPre.at (wc := [(lf, .inl (cI, 9, .inl (zf gl)))]) hK hP hD hS hA hX [1] (by decide) rfl⟩ rfl rfl hl.1 rfl (lv_room (Nat.le_of_ble_eq_true rfl)) dBE_determinant_5 ⟨Nat.le_of_ble_eq_true rfl, Nat.le_of_ble_eq_true rfl⟩) (wr := [(b, .inr (1, [.ref lf, .ref rt])), (rt, .inl (cI, 9, .inl (zf gr)))]) hP hD hS hA [1] [0, 2] rfl rfl (by decide) (by decide) (fun u_5 H locs q_5 hP hD hS hz_5 hk_5 => ?_)
  have hP : va_P D vwCl [(b, .inr (1, [.ref lf, .ref rt])), (rt, .inl (cI, 9, .inl (zf gr))), (lf, .inl (cI, 9, .inl (zf (rd k gl))))] H := hP
  have hD : va_D A [(b, .inr (1, [.ref lf, .ref rt])), (rt, .inl (cI, 9, .inl (zf gr))), (lf, .inl (cI, 9, .inl (zf (rd k gl))))] := hD
  refine lv_aload_n hx hb dBE_determinant_8 rfl (lv_at hl 0 rfl) ?_
  refine va_get (D := D) (ci := 1) (v := .ref lf) (C := nBE) (T := fBE) (N := 2) hx hb hts iwBE hown hK hP 0 rfl rfl 0 (by decide) (hts _ (List.mem_cons_of_mem _ lkBE_9)) (fun _ h9 => h9) rfl dBE_determinant_9 ?_
  refine lv_iconst (v := iI (0)) hx hb dBE_determinant_12 rfl ?_
  refine lz_ialk hx hb hK hP 2 0 rfl rfl (z := 0) 0 rfl (by decide) dBE_determinant_13 ?_
  refine lv_aload_n hx hb dBE_determinant_14 rfl (lv_at hl 0 rfl) ?_
  refine va_get (D := D) (ci := 1) (v := .ref lf) (C := nBE) (T := fBE) (N := 2) hx hb hts iwBE hown hK hP 0 rfl rfl 0 (by decide) (hts _ (List.mem_cons_of_mem _ lkBE_9)) (fun _ h9 => h9) rfl dBE_determinant_15 ?_
  refine lv_iconst (v := iI (4)) hx hb dBE_determinant_18 rfl ?_
  refine lz_ialk hx hb hK hP 2 0 rfl rfl (z := 4) 4 rfl (by decide) dBE_determinant_19 ?_
  refine lv_aload_n hx hb dBE_determinant_20 rfl (lv_at hl 0 rfl) ?_
  refine va_get (D := D) (ci := 1) (v := .ref lf) (C := nBE) (T := fBE) (N := 2) hx hb hts iwBE hown hK hP 0 rfl rfl 0 (by decide) (hts _ (List.mem_cons_of_mem _ lkBE_9)) (fun _ h9 => h9) rfl dBE_determinant_21 ?_
  refine lv_bipush (v := iI (8)) hx hb dBE_determinant_24 (by decide) ?_
  refine lz_ialk hx hb hK hP 2 0 rfl rfl (z := 8) 8 rfl (by decide) dBE_determinant_26 ?_
  refine lz_imul hx hb dBE_determinant_27 ?_
  refine lv_aload_n hx hb dBE_determinant_28 rfl (lv_at hl 0 rfl) ?_
  refine va_get (D := D) (ci := 1) (v := .ref lf) (C := nBE) (T := fBE) (N := 2) hx hb hts iwBE hown hK hP 0 rfl rfl 0 (by decide) (hts _ (List.mem_cons_of_mem _ lkBE_9)) (fun _ h9 => h9) rfl dBE_determinant_29 ?_
  refine lv_iconst (v := iI (5)) hx hb dBE_determinant_32 rfl ?_
  refine lz_ialk hx hb hK hP 2 0 rfl rfl (z := 5) 5 rfl (by decide) dBE_determinant_33 ?_
  refine lv_aload_n hx hb dBE_determinant_34 rfl (lv_at hl 0 rfl) ?_
  refine va_get (D := D) (ci := 1) (v := .ref lf) (C := nBE) (T := fBE) (N := 2) hx hb hts iwBE hown hK hP 0 rfl rfl 0 (by decide) (hts _ (List.mem_cons_of_mem _ lkBE_9)) (fun _ h9 => h9) rfl dBE_determinant_35 ?_
  refine lv_bipush (v := iI (7)) hx hb dBE_determinant_38 (by decide) ?_
  refine lz_ialk hx hb hK hP 2 0 rfl rfl (z := 7) 7 rfl (by decide) dBE_determinant_40 ?_
  refine lz_imul hx hb dBE_determinant_41 ?_
  refine lz_isub hx hb dBE_determinant_42 ?_
  refine lz_imul hx hb dBE_determinant_43 ?_
  refine lv_aload_n hx hb dBE_determinant_44 rfl (lv_at hl 0 rfl) ?_
  refine va_get (D := D) (ci := 1) (v := .ref lf) (C := nBE) (T := fBE) (N := 2) hx hb hts iwBE hown hK hP 0 rfl rfl 0 (by decide) (hts _ (List.mem_cons_of_mem _ lkBE_9)) (fun _ h9 => h9) rfl dBE_determinant_45 ?_
  refine lv_iconst (v := iI (1)) hx hb dBE_determinant_48 rfl ?_
  refine lz_ialk hx hb hK hP 2 0 rfl rfl (z := 1) 1 rfl (by decide) dBE_determinant_49 ?_
  refine lv_aload_n hx hb dBE_determinant_50 rfl (lv_at hl 0 rfl) ?_
  refine va_get (D := D) (ci := 1) (v := .ref lf) (C := nBE) (T := fBE) (N := 2) hx hb hts iwBE hown hK hP 0 rfl rfl 0 (by decide) (hts _ (List.mem_cons_of_mem _ lkBE_9)) (fun _ h9 => h9) rfl dBE_determinant_51 ?_
  refine lv_iconst (v := iI (3)) hx hb dBE_determinant_54 rfl ?_
  refine lz_ialk hx hb hK hP 2 0 rfl rfl (z := 3) 3 rfl (by decide) dBE_determinant_55 ?_
  refine lv_aload_n hx hb dBE_determinant_56 rfl (lv_at hl 0 rfl) ?_
  refine va_get (D := D) (ci := 1) (v := .ref lf) (C := nBE) (T := fBE) (N := 2) hx hb hts iwBE hown hK hP 0 rfl rfl 0 (by decide) (hts _ (List.mem_cons_of_mem _ lkBE_9)) (fun _ h9 => h9) rfl dBE_determinant_57 ?_
  refine lv_bipush (v := iI (8)) hx hb dBE_determinant_60 (by decide) ?_
  refine lz_ialk hx hb hK hP 2 0 rfl rfl (z := 8) 8 rfl (by decide) dBE_determinant_62 ?_
  refine lz_imul hx hb dBE_determinant_63 ?_
  refine lv_aload_n hx hb dBE_determinant_64 rfl (lv_at hl 0 rfl) ?_
  refine va_get (D := D) (ci := 1) (v := .ref lf) (C := nBE) (T := fBE) (N := 2) hx hb hts iwBE hown hK hP 0 rfl rfl 0 (by decide) (hts _ (List.mem_cons_of_mem _ lkBE_9)) (fun _ h9 => h9) rfl dBE_determinant_65 ?_
  refine lv_iconst (v := iI (5)) hx hb dBE_determinant_68 rfl ?_
  refine lz_ialk hx hb hK hP 2 0 rfl rfl (z := 5) 5 rfl (by decide) dBE_determinant_69 ?_
  refine lv_aload_n hx hb dBE_determinant_70 rfl (lv_at hl 0 rfl) ?_
  refine va_get (D := D) (ci := 1) (v := .ref lf) (C := nBE) (T := fBE) (N := 2) hx hb hts iwBE hown hK hP 0 rfl rfl 0 (by decide) (hts _ (List.mem_cons_of_mem _ lkBE_9)) (fun _ h9 => h9) rfl dBE_determinant_71 ?_
  refine lv_bipush (v := iI (6)) hx hb dBE_determinant_74 (by decide) ?_
  refine lz_ialk hx hb hK hP 2 0 rfl rfl (z := 6) 6 rfl (by decide) dBE_determinant_76 ?_
  refine lz_imul hx hb dBE_determinant_77 ?_
  refine lz_isub hx hb dBE_determinant_78 ?_
  refine lz_imul hx hb dBE_determinant_79 ?_
  refine lz_isub hx hb dBE_determinant_80 ?_
  refine lv_aload_n hx hb dBE_determinant_81 rfl (lv_at hl 0 rfl) ?_
  refine va_get (D := D) (ci := 1) (v := .ref lf) (C := nBE) (T := fBE) (N := 2) hx hb hts iwBE hown hK hP 0 rfl rfl 0 (by decide) (hts _ (List.mem_cons_of_mem _ lkBE_9)) (fun _ h9 => h9) rfl dBE_determinant_82 ?_
  refine lv_iconst (v := iI (2)) hx hb dBE_determinant_85 rfl ?_
  refine lz_ialk hx hb hK hP 2 0 rfl rfl (z := 2) 2 rfl (by decide) dBE_determinant_86 ?_
  refine lv_aload_n hx hb dBE_determinant_87 rfl (lv_at hl 0 rfl) ?_
  refine va_get (D := D) (ci := 1) (v := .ref lf) (C := nBE) (T := fBE) (N := 2) hx hb hts iwBE hown hK hP 0 rfl rfl 0 (by decide) (hts _ (List.mem_cons_of_mem _ lkBE_9)) (fun _ h9 => h9) rfl dBE_determinant_88 ?_
  refine lv_iconst (v := iI (3)) hx hb dBE_determinant_91 rfl ?_
  refine lz_ialk hx hb hK hP 2 0 rfl rfl (z := 3) 3 rfl (by decide) dBE_determinant_92 ?_
  refine lv_aload_n hx hb dBE_determinant_93 rfl (lv_at hl 0 rfl) ?_
  refine va_get (D := D) (ci := 1) (v := .ref lf) (C := nBE) (T := fBE) (N := 2) hx hb hts iwBE hown hK hP 0 rfl rfl 0 (by decide) (hts _ (List.mem_cons_of_mem _ lkBE_9)) (fun _ h9 => h9) rfl dBE_determinant_94 ?_
  refine lv_bipush (v := iI (7)) hx hb dBE_determinant_97 (by decide) ?_
  refine lz_ialk hx hb hK hP 2 0 rfl rfl (z := 7) 7 rfl (by decide) dBE_determinant_99 ?_
  refine lz_imul hx hb dBE_determinant_100 ?_
  refine lv_aload_n hx hb dBE_determinant_101 rfl (lv_at hl 0 rfl) ?_
  refine va_get (D := D) (ci := 1) (v := .ref lf) (C := nBE) (T := fBE) (N := 2) hx hb hts iwBE hown hK hP 0 rfl rfl 0 (by decide) (hts _ (List.mem_cons_of_mem _ lkBE_9)) (fun _ h9 => h9) rfl dBE_determinant_102 ?_
  refine lv_iconst (v := iI (4)) hx hb dBE_determinant_105 rfl ?_
  refine lz_ialk hx hb hK hP 2 0 rfl rfl (z := 4) 4 rfl (by decide) dBE_determinant_106 ?_
  refine lv_aload_n hx hb dBE_determinant_107 rfl (lv_at hl 0 rfl) ?_
  refine va_get (D := D) (ci := 1) (v := .ref lf) (C := nBE) (T := fBE) (N := 2) hx hb hts iwBE hown hK hP 0 rfl rfl 0 (by decide) (hts _ (List.mem_cons_of_mem _ lkBE_9)) (fun _ h9 => h9) rfl dBE_determinant_108 ?_
  refine lv_bipush (v := iI (6)) hx hb dBE_determinant_111 (by decide) ?_
  refine lz_ialk hx hb hK hP 2 0 rfl rfl (z := 6) 6 rfl (by decide) dBE_determinant_113 ?_
  refine lz_imul hx hb dBE_determinant_114 ?_
  refine lz_isub hx hb dBE_determinant_115 ?_
  refine lz_imul hx hb dBE_determinant_116 ?_
  refine lz_iadd hx hb dBE_determinant_117 ?_
  exact hret H locs 0 0 118 ls (((((rd k gl) 0) * ((((rd k gl) 4) * ((rd k gl) 8)) - (((rd k gl) 5) * ((rd k gl) 7)))) - (((rd k gl) 1) * ((((rd k gl) 3) * ((rd k gl) 8)) - (((rd k gl) 5) * ((rd k gl) 6))))) + (((rd k gl) 2) * ((((rd k gl) 3) * ((rd k gl) 7)) - (((rd k gl) 4) * ((rd k gl) 6))))) () rfl (hP.sub [0, 2, 1] rfl) (hD.sub [0, 2, 1] (by decide) rfl) hS (Nat.zero_le _) (Nat.zero_le _) dBE_determinant_118

def rmBE_sort : Room := { frames := 2, cells := 0, slots := 0, locals := 44 }
set_option maxHeartbeats 4000000 in
set_option maxRecDepth 100000 in
theorem mBE_sort (l : Launch) (D : va_G) (cI cG : ClassId) (b lf rt : Nat) (gl gr : Nat → Int) (k : Int) (hk : 0 ≤ k ∧ k < 2147483648) : zI l yBE_sort wBE_sort rmBE_sort D vwCl (zT cI cG) [.ref b, .int (iI k)] [(b, .inr (1, [.ref lf, .ref rt])), (lf, .inl (cI, 9, .inl (zf gl))), (rt, .inl (cI, 9, .inl (zf gr)))] (S := Unit) (fun z u => z = sortK k) (fun u => [(b, .inr (1, [.ref lf, .ref rt])), (lf, .inl (cI, 9, .inl (zf (rd k gl)))), (rt, .inl (cI, 9, .inl (zf gr)))]) := by
  refine zI.of (cc := cBE_sort) (maxL := 4) (rt := .int) (by decide) rfl (Nat.le_of_ble_eq_true rfl) (fun _ _ _ => rfl) ?_
  intro p e s m args below meth c A ls Q hx hb hml hown hts hnm hK hD hA hAe hX hl hret H locs hP hS
  have hl : lv_has ls 4 [(0, .ref b), (1, .int (iI k))] := hl
  obtain ⟨tS, tC, hZS, hTS, hZC, hTC, hWn⟩ := id hX
  have hdr := det_rng k
  have htr := tr_rng k
  refine lv_aload_n hx hb dBE_sort_0 rfl (lv_at hl 0 rfl) ?_
  refine lv_iload_n hx hb dBE_sort_1 rfl (lv_at hl 1 rfl) ?_
  refine zI.back (va_runV (As := [.int (iI k)]) (rest := []) ⟨hx, hb, hml, hown, hts⟩ ((mBE_determinant l D cI cG b lf rt gl gr k hk) H.size) (cwV 1 hts (gT1 lkBE_22 (gT1 imBE_determinant (gT1 seBE_determinant (gT1 iniBE (gTW kcBE_determinant))))) rfl rfl rfl (by decide +kernel) ⟨Nat.le_of_ble_eq_true rfl, Nat.le_of_ble_eq_true rfl⟩) ⟨zPre_blind, va_recv hK hP (ci := 1) (q0 := 0) rfl rfl, zPre.at (wc := [(b, .inr (1, [.ref lf, .ref rt])), (lf, .inl (cI, 9, .inl (zf gl))), (rt, .inl (cI, 9, .inl (zf gr)))]) hK hP hD hS hA hX [0, 1, 2] (by decide) rfl⟩ rfl rfl hl.1 rfl (lv_room (Nat.le_of_ble_eq_true rfl)) dBE_sort_2 ⟨Nat.le_of_ble_eq_true rfl, Nat.le_of_ble_eq_true rfl⟩) (wr := []) hP hD hS hA [0, 1, 2] [] rfl rfl (by decide) (by decide) (fun z_2 u_2 H locs q_2 hP hD hS hz_2 hk_2 => ?_)
  obtain rfl : z_2 = detF (mdg k) := q_2
  have hP : va_P D vwCl [(b, .inr (1, [.ref lf, .ref rt])), (lf, .inl (cI, 9, .inl (zf (rd k gl)))), (rt, .inl (cI, 9, .inl (zf gr)))] H := hP
  have hD : va_D A [(b, .inr (1, [.ref lf, .ref rt])), (lf, .inl (cI, 9, .inl (zf (rd k gl)))), (rt, .inl (cI, 9, .inl (zf gr)))] := hD
  refine lv_istore_n (lv' := [(2, .int (iI (detF (mdg k)))), (0, .ref b), (1, .int (iI k))]) hx hb dBE_sort_5 rfl hl (by decide) rfl (fun ls hl => ?_)
  refine lv_iload_n hx hb dBE_sort_6 rfl (lv_at hl 0 rfl) ?_
  refine lv_iconst (v := iI (1)) hx hb dBE_sort_7 rfl ?_
  refine lz_icmp_eq (tgt := 18) hx hb dBE_sort_8 (by decide) (by omega) (by omega) (fun c_8 => ?_) (fun c_8 => ?_)
  · have hd1 : detF (mdg k) * trK k = trK k := by rw [c_8, Int.one_mul]
    refine lv_iload_n hx hb dBE_sort_18 rfl (lv_at hl 0 rfl) ?_
    refine lv_aload_n hx hb dBE_sort_19 rfl (lv_at hl 1 rfl) ?_
    refine va_get (D := D) (ci := 1) (v := .ref lf) (C := nBE) (T := fBE) (N := 2) hx hb hts iwBE hown hK hP 0 rfl rfl 0 (by decide) (hts _ (List.mem_cons_of_mem _ lkBE_9)) (fun _ h9 => h9) rfl dBE_sort_20 ?_
    refine lv_iconst (v := iI (0)) hx hb dBE_sort_23 rfl ?_
    refine lz_ialk hx hb hK hP 1 0 rfl rfl (z := 0) 0 rfl (by decide) dBE_sort_24 ?_
    refine lv_aload_n hx hb dBE_sort_25 rfl (lv_at hl 1 rfl) ?_
    refine va_get (D := D) (ci := 1) (v := .ref lf) (C := nBE) (T := fBE) (N := 2) hx hb hts iwBE hown hK hP 0 rfl rfl 0 (by decide) (hts _ (List.mem_cons_of_mem _ lkBE_9)) (fun _ h9 => h9) rfl dBE_sort_26 ?_
    refine lv_iconst (v := iI (4)) hx hb dBE_sort_29 rfl ?_
    refine lz_ialk hx hb hK hP 1 0 rfl rfl (z := 4) 4 rfl (by decide) dBE_sort_30 ?_
    refine lz_iadd hx hb dBE_sort_31 ?_
    refine lv_aload_n hx hb dBE_sort_32 rfl (lv_at hl 1 rfl) ?_
    refine va_get (D := D) (ci := 1) (v := .ref lf) (C := nBE) (T := fBE) (N := 2) hx hb hts iwBE hown hK hP 0 rfl rfl 0 (by decide) (hts _ (List.mem_cons_of_mem _ lkBE_9)) (fun _ h9 => h9) rfl dBE_sort_33 ?_
    refine lv_bipush (v := iI (8)) hx hb dBE_sort_36 (by decide) ?_
    refine lz_ialk hx hb hK hP 1 0 rfl rfl (z := 8) 8 rfl (by decide) dBE_sort_38 ?_
    refine lz_iadd hx hb dBE_sort_39 ?_
    refine lz_imul hx hb dBE_sort_40 ?_
    refine lv_iconst (v := iI (1)) hx hb dBE_sort_41 rfl ?_
    refine lz_iadd hx hb dBE_sort_42 ?_
    refine lz_as (x := ((detF (mdg k)) * ((((rd k gl) 0) + ((rd k gl) 4)) + ((rd k gl) 8))) + 1) (y := detF (mdg k) * trK k + 1) (rfl) ?_
    refine lv_istore_n (lv' := [(3, .int (iI (detF (mdg k) * trK k + 1))), (2, .int (iI (detF (mdg k)))), (0, .ref b), (1, .int (iI k))]) hx hb dBE_sort_43 rfl hl (by decide) rfl (fun ls hl => ?_)
    refine lv_iload_n hx hb dBE_sort_44 rfl (lv_at hl 0 rfl) ?_
    refine lz_if_lt (tgt := 66) hx hb dBE_sort_45 (by decide) (by omega) (fun c_45 => ?_) (fun c_45 => ?_)
    · refine lv_iconst (v := iI (0)) hx hb dBE_sort_66 rfl ?_
      exact hret H locs 0 0 67 ls 0 () (by
            unfold sortK
            rw [if_pos (by omega), if_neg (by omega)]) (hP.sub [0, 1, 2] rfl) (hD.sub [0, 1, 2] (by decide) rfl) hS (Nat.zero_le _) (Nat.zero_le _) dBE_sort_67
    · refine lv_iload_n hx hb dBE_sort_48 rfl (lv_at hl 0 rfl) ?_
      refine va_getsN hx hb hZS hS hown (hWn.2.2.use rfl) (fun _ h9 => h9) dBE_sort_49 ?_
      refine lz_tlen hx hb hTS hS dBE_sort_52 ?_
      refine lz_icmp_ge (tgt := 66) hx hb dBE_sort_53 (by decide) (by omega) (by omega) (fun c_53 => ?_) (fun c_53 => ?_)
      · refine lv_iconst (v := iI (0)) hx hb dBE_sort_66 rfl ?_
        exact hret H locs 0 0 67 ls 0 () (by
              unfold sortK
              rw [if_pos (by omega), if_neg (by omega)]) (hP.sub [0, 1, 2] rfl) (hD.sub [0, 1, 2] (by decide) rfl) hS (Nat.zero_le _) (Nat.zero_le _) dBE_sort_67
      · refine lv_iload_n hx hb dBE_sort_56 rfl (lv_at hl 1 rfl) ?_
        refine va_getsN hx hb hZS hS hown (hWn.2.2.use rfl) (fun _ h9 => h9) dBE_sort_57 ?_
        refine lv_iload_n hx hb dBE_sort_60 rfl (lv_at hl 0 rfl) ?_
        refine lz_tab hx hb hTS hS (z := detF (mdg k) * trK k + 1) (by omega) dBE_sort_61 ?_
        refine lz_imul hx hb dBE_sort_62 ?_
        refine lv_goto (tgt := 67) hx hb dBE_sort_63 (by decide) ?_
        exact hret H locs 0 0 67 ls ((detF (mdg k)) * (st_sorts.getD (detF (mdg k) * trK k + 1).toNat 0)) () (by
              unfold sortK
              rw [if_pos (by omega), if_pos (by omega)]) (hP.sub [0, 1, 2] rfl) (hD.sub [0, 1, 2] (by decide) rfl) hS (Nat.zero_le _) (Nat.zero_le _) dBE_sort_67
  · refine lv_iload_n hx hb dBE_sort_11 rfl (lv_at hl 0 rfl) ?_
    refine lv_iconst (v := iI (-1)) hx hb dBE_sort_12 rfl ?_
    refine lz_icmp_eq (tgt := 18) hx hb dBE_sort_13 (by decide) (by omega) (by omega) (fun c_13 => ?_) (fun c_13 => ?_)
    · have hd1 : detF (mdg k) * trK k = -trK k := by rw [c_13, Int.neg_one_mul]
      refine lv_iload_n hx hb dBE_sort_18 rfl (lv_at hl 0 rfl) ?_
      refine lv_aload_n hx hb dBE_sort_19 rfl (lv_at hl 1 rfl) ?_
      refine va_get (D := D) (ci := 1) (v := .ref lf) (C := nBE) (T := fBE) (N := 2) hx hb hts iwBE hown hK hP 0 rfl rfl 0 (by decide) (hts _ (List.mem_cons_of_mem _ lkBE_9)) (fun _ h9 => h9) rfl dBE_sort_20 ?_
      refine lv_iconst (v := iI (0)) hx hb dBE_sort_23 rfl ?_
      refine lz_ialk hx hb hK hP 1 0 rfl rfl (z := 0) 0 rfl (by decide) dBE_sort_24 ?_
      refine lv_aload_n hx hb dBE_sort_25 rfl (lv_at hl 1 rfl) ?_
      refine va_get (D := D) (ci := 1) (v := .ref lf) (C := nBE) (T := fBE) (N := 2) hx hb hts iwBE hown hK hP 0 rfl rfl 0 (by decide) (hts _ (List.mem_cons_of_mem _ lkBE_9)) (fun _ h9 => h9) rfl dBE_sort_26 ?_
      refine lv_iconst (v := iI (4)) hx hb dBE_sort_29 rfl ?_
      refine lz_ialk hx hb hK hP 1 0 rfl rfl (z := 4) 4 rfl (by decide) dBE_sort_30 ?_
      refine lz_iadd hx hb dBE_sort_31 ?_
      refine lv_aload_n hx hb dBE_sort_32 rfl (lv_at hl 1 rfl) ?_
      refine va_get (D := D) (ci := 1) (v := .ref lf) (C := nBE) (T := fBE) (N := 2) hx hb hts iwBE hown hK hP 0 rfl rfl 0 (by decide) (hts _ (List.mem_cons_of_mem _ lkBE_9)) (fun _ h9 => h9) rfl dBE_sort_33 ?_
      refine lv_bipush (v := iI (8)) hx hb dBE_sort_36 (by decide) ?_
      refine lz_ialk hx hb hK hP 1 0 rfl rfl (z := 8) 8 rfl (by decide) dBE_sort_38 ?_
      refine lz_iadd hx hb dBE_sort_39 ?_
      refine lz_imul hx hb dBE_sort_40 ?_
      refine lv_iconst (v := iI (1)) hx hb dBE_sort_41 rfl ?_
      refine lz_iadd hx hb dBE_sort_42 ?_
      refine lz_as (x := ((detF (mdg k)) * ((((rd k gl) 0) + ((rd k gl) 4)) + ((rd k gl) 8))) + 1) (y := detF (mdg k) * trK k + 1) (rfl) ?_
      refine lv_istore_n (lv' := [(3, .int (iI (detF (mdg k) * trK k + 1))), (2, .int (iI (detF (mdg k)))), (0, .ref b), (1, .int (iI k))]) hx hb dBE_sort_43 rfl hl (by decide) rfl (fun ls hl => ?_)
      refine lv_iload_n hx hb dBE_sort_44 rfl (lv_at hl 0 rfl) ?_
      refine lz_if_lt (tgt := 66) hx hb dBE_sort_45 (by decide) (by omega) (fun c_45 => ?_) (fun c_45 => ?_)
      · refine lv_iconst (v := iI (0)) hx hb dBE_sort_66 rfl ?_
        exact hret H locs 0 0 67 ls 0 () (by
              unfold sortK
              rw [if_pos (by omega), if_neg (by omega)]) (hP.sub [0, 1, 2] rfl) (hD.sub [0, 1, 2] (by decide) rfl) hS (Nat.zero_le _) (Nat.zero_le _) dBE_sort_67
      · refine lv_iload_n hx hb dBE_sort_48 rfl (lv_at hl 0 rfl) ?_
        refine va_getsN hx hb hZS hS hown (hWn.2.2.use rfl) (fun _ h9 => h9) dBE_sort_49 ?_
        refine lz_tlen hx hb hTS hS dBE_sort_52 ?_
        refine lz_icmp_ge (tgt := 66) hx hb dBE_sort_53 (by decide) (by omega) (by omega) (fun c_53 => ?_) (fun c_53 => ?_)
        · refine lv_iconst (v := iI (0)) hx hb dBE_sort_66 rfl ?_
          exact hret H locs 0 0 67 ls 0 () (by
                unfold sortK
                rw [if_pos (by omega), if_neg (by omega)]) (hP.sub [0, 1, 2] rfl) (hD.sub [0, 1, 2] (by decide) rfl) hS (Nat.zero_le _) (Nat.zero_le _) dBE_sort_67
        · refine lv_iload_n hx hb dBE_sort_56 rfl (lv_at hl 1 rfl) ?_
          refine va_getsN hx hb hZS hS hown (hWn.2.2.use rfl) (fun _ h9 => h9) dBE_sort_57 ?_
          refine lv_iload_n hx hb dBE_sort_60 rfl (lv_at hl 0 rfl) ?_
          refine lz_tab hx hb hTS hS (z := detF (mdg k) * trK k + 1) (by omega) dBE_sort_61 ?_
          refine lz_imul hx hb dBE_sort_62 ?_
          refine lv_goto (tgt := 67) hx hb dBE_sort_63 (by decide) ?_
          exact hret H locs 0 0 67 ls ((detF (mdg k)) * (st_sorts.getD (detF (mdg k) * trK k + 1).toNat 0)) () (by
                unfold sortK
                rw [if_pos (by omega), if_pos (by omega)]) (hP.sub [0, 1, 2] rfl) (hD.sub [0, 1, 2] (by decide) rfl) hS (Nat.zero_le _) (Nat.zero_le _) dBE_sort_67
    · refine lv_iconst (v := iI (0)) hx hb dBE_sort_16 rfl ?_
      exact hret H locs 0 0 17 ls 0 () (by
            unfold sortK
            rw [if_neg (by omega)]) (hP.sub [0, 1, 2] rfl) (hD.sub [0, 1, 2] (by decide) rfl) hS (Nat.zero_le _) (Nat.zero_le _) dBE_sort_17

def rmBE_movedByLeft : Room := { frames := 0, cells := 0, slots := 0, locals := 0 }
set_option maxHeartbeats 4000000 in
set_option maxRecDepth 100000 in
theorem mBE_movedByLeft (l : Launch) (D : va_G) (cI cG : ClassId) (b lf rt : Nat) (g : Nat → Int) (sh x : Int) (hg : ∀ j, j < 9 → -1 ≤ g j ∧ g j ≤ 1) (hs : isPl sh) (hx1 : isPl x) : zRI l yBE_movedByLeft wBE_movedByLeft rmBE_movedByLeft D vwCl (zT cI cG) [.ref b, .int (iI sh), .int (iI x)] [(b, .inr (1, [.ref lf, .ref rt])), (lf, .inl (cI, 9, .inl (zf g)))] (fun z => z = movF g sh x) := by
  refine zRI.of (cc := cBE_movedByLeft) (maxL := 9) (rt := .int) (by decide) rfl (Nat.le_of_ble_eq_true rfl) (fun _ _ => rfl) ?_
  intro p e s m args below meth c ls Q hx hb hml hown hts hK hP hX hl hret
  have hS0 : va_S (fun _ => False) s.heap s.heap [] := va_S.rf
  have hl : lv_has ls 9 [(0, .ref b), (1, .int (iI sh)), (2, .int (iI x))] := hl
  unfold isPl at hs hx1
  have l1 := line_rng (hg 0 (by decide)) (hg 1 (by decide)) (hg 2 (by decide)) (x := x / 576) (y := x / 24 % 24) (z := x % 24) (s := sh / 576) (by omega) (by omega) (by omega) (by omega)
  have l2 := line_rng (hg 3 (by decide)) (hg 4 (by decide)) (hg 5 (by decide)) (x := x / 576) (y := x / 24 % 24) (z := x % 24) (s := sh / 24 % 24) (by omega) (by omega) (by omega) (by omega)
  have l3 := line_rng (hg 6 (by decide)) (hg 7 (by decide)) (hg 8 (by decide)) (x := x / 576) (y := x / 24 % 24) (z := x % 24) (s := sh % 24) (by omega) (by omega) (by omega) (by omega)
  refine lv_iload_n hx hb dBE_movedByLeft_0 rfl (lv_at hl 2 rfl) ?_
  refine lv_sipush (v := iI (576)) hx hb dBE_movedByLeft_1 (by decide) ?_
  refine lz_idiv hx hb dBE_movedByLeft_4 (by omega) (by omega) ?_
  refine lv_istore_n (lv' := [(3, .int (iI (x / 576))), (0, .ref b), (1, .int (iI sh)), (2, .int (iI x))]) hx hb dBE_movedByLeft_5 rfl hl (by decide) rfl (fun ls hl => ?_)
  refine lv_iload_n hx hb dBE_movedByLeft_6 rfl (lv_at hl 3 rfl) ?_
  refine lv_bipush (v := iI (24)) hx hb dBE_movedByLeft_7 (by decide) ?_
  refine lz_idiv hx hb dBE_movedByLeft_9 (by omega) (by omega) ?_
  refine lv_bipush (v := iI (24)) hx hb dBE_movedByLeft_10 (by decide) ?_
  refine lz_irem hx hb dBE_movedByLeft_12 (by omega) (by omega) ?_
  refine lv_istore (lv' := [(4, .int (iI ((x / 24) % 24))), (3, .int (iI (x / 576))), (0, .ref b), (1, .int (iI sh)), (2, .int (iI x))]) hx hb dBE_movedByLeft_13 hl (by decide) rfl (fun ls hl => ?_)
  refine lv_iload_n hx hb dBE_movedByLeft_15 rfl (lv_at hl 4 rfl) ?_
  refine lv_bipush (v := iI (24)) hx hb dBE_movedByLeft_16 (by decide) ?_
  refine lz_irem hx hb dBE_movedByLeft_18 (by omega) (by omega) ?_
  refine lv_istore (lv' := [(5, .int (iI (x % 24))), (4, .int (iI ((x / 24) % 24))), (3, .int (iI (x / 576))), (0, .ref b), (1, .int (iI sh)), (2, .int (iI x))]) hx hb dBE_movedByLeft_19 hl (by decide) rfl (fun ls hl => ?_)
  refine lv_aload_n hx hb dBE_movedByLeft_21 rfl (lv_at hl 3 rfl) ?_
  refine va_get (D := D) (ci := 1) (v := .ref lf) (C := nBE) (T := fBE) (N := 2) hx hb hts iwBE hown hK hP 0 rfl rfl 0 (by decide) (hts _ (List.mem_cons_of_mem _ lkBE_9)) (fun _ h9 => h9) rfl dBE_movedByLeft_22 ?_
  refine lv_iconst (v := iI (0)) hx hb dBE_movedByLeft_25 rfl ?_
  refine lz_ialk hx hb hK hP 1 0 rfl rfl (z := 0) 0 rfl (by decide) dBE_movedByLeft_26 ?_
  refine lv_iload_n hx hb dBE_movedByLeft_27 rfl (lv_at hl 2 rfl) ?_
  refine lz_imul hx hb dBE_movedByLeft_28 ?_
  refine lv_aload_n hx hb dBE_movedByLeft_29 rfl (lv_at hl 3 rfl) ?_
  refine va_get (D := D) (ci := 1) (v := .ref lf) (C := nBE) (T := fBE) (N := 2) hx hb hts iwBE hown hK hP 0 rfl rfl 0 (by decide) (hts _ (List.mem_cons_of_mem _ lkBE_9)) (fun _ h9 => h9) rfl dBE_movedByLeft_30 ?_
  refine lv_iconst (v := iI (1)) hx hb dBE_movedByLeft_33 rfl ?_
  refine lz_ialk hx hb hK hP 1 0 rfl rfl (z := 1) 1 rfl (by decide) dBE_movedByLeft_34 ?_
  refine lv_iload hx hb dBE_movedByLeft_35 (lv_at hl 1 rfl) ?_
  refine lz_imul hx hb dBE_movedByLeft_37 ?_
  refine lz_iadd hx hb dBE_movedByLeft_38 ?_
  refine lv_aload_n hx hb dBE_movedByLeft_39 rfl (lv_at hl 3 rfl) ?_
  refine va_get (D := D) (ci := 1) (v := .ref lf) (C := nBE) (T := fBE) (N := 2) hx hb hts iwBE hown hK hP 0 rfl rfl 0 (by decide) (hts _ (List.mem_cons_of_mem _ lkBE_9)) (fun _ h9 => h9) rfl dBE_movedByLeft_40 ?_
  refine lv_iconst (v := iI (2)) hx hb dBE_movedByLeft_43 rfl ?_
  refine lz_ialk hx hb hK hP 1 0 rfl rfl (z := 2) 2 rfl (by decide) dBE_movedByLeft_44 ?_
  refine lv_iload hx hb dBE_movedByLeft_45 (lv_at hl 0 rfl) ?_
  refine lz_imul hx hb dBE_movedByLeft_47 ?_
  refine lz_iadd hx hb dBE_movedByLeft_48 ?_
  refine lv_iload_n hx hb dBE_movedByLeft_49 rfl (lv_at hl 4 rfl) ?_
  refine lv_sipush (v := iI (576)) hx hb dBE_movedByLeft_50 (by decide) ?_
  refine lz_idiv hx hb dBE_movedByLeft_53 (by omega) (by omega) ?_
  refine lz_iadd hx hb dBE_movedByLeft_54 ?_
  refine lv_istore (lv' := [(6, .int (iI (((((g 0) * (x / 576)) + ((g 1) * ((x / 24) % 24))) + ((g 2) * (x % 24))) + (sh / 576)))), (5, .int (iI (x % 24))), (4, .int (iI ((x / 24) % 24))), (3, .int (iI (x / 576))), (0, .ref b), (1, .int (iI sh)), (2, .int (iI x))]) hx hb dBE_movedByLeft_55 hl (by decide) rfl (fun ls hl => ?_)
  refine lv_aload_n hx hb dBE_movedByLeft_57 rfl (lv_at hl 4 rfl) ?_
  refine va_get (D := D) (ci := 1) (v := .ref lf) (C := nBE) (T := fBE) (N := 2) hx hb hts iwBE hown hK hP 0 rfl rfl 0 (by decide) (hts _ (List.mem_cons_of_mem _ lkBE_9)) (fun _ h9 => h9) rfl dBE_movedByLeft_58 ?_
  refine lv_iconst (v := iI (3)) hx hb dBE_movedByLeft_61 rfl ?_
  refine lz_ialk hx hb hK hP 1 0 rfl rfl (z := 3) 3 rfl (by decide) dBE_movedByLeft_62 ?_
  refine lv_iload_n hx hb dBE_movedByLeft_63 rfl (lv_at hl 3 rfl) ?_
  refine lz_imul hx hb dBE_movedByLeft_64 ?_
  refine lv_aload_n hx hb dBE_movedByLeft_65 rfl (lv_at hl 4 rfl) ?_
  refine va_get (D := D) (ci := 1) (v := .ref lf) (C := nBE) (T := fBE) (N := 2) hx hb hts iwBE hown hK hP 0 rfl rfl 0 (by decide) (hts _ (List.mem_cons_of_mem _ lkBE_9)) (fun _ h9 => h9) rfl dBE_movedByLeft_66 ?_
  refine lv_iconst (v := iI (4)) hx hb dBE_movedByLeft_69 rfl ?_
  refine lz_ialk hx hb hK hP 1 0 rfl rfl (z := 4) 4 rfl (by decide) dBE_movedByLeft_70 ?_
  refine lv_iload hx hb dBE_movedByLeft_71 (lv_at hl 2 rfl) ?_
  refine lz_imul hx hb dBE_movedByLeft_73 ?_
  refine lz_iadd hx hb dBE_movedByLeft_74 ?_
  refine lv_aload_n hx hb dBE_movedByLeft_75 rfl (lv_at hl 4 rfl) ?_
  refine va_get (D := D) (ci := 1) (v := .ref lf) (C := nBE) (T := fBE) (N := 2) hx hb hts iwBE hown hK hP 0 rfl rfl 0 (by decide) (hts _ (List.mem_cons_of_mem _ lkBE_9)) (fun _ h9 => h9) rfl dBE_movedByLeft_76 ?_
  refine lv_iconst (v := iI (5)) hx hb dBE_movedByLeft_79 rfl ?_
  refine lz_ialk hx hb hK hP 1 0 rfl rfl (z := 5) 5 rfl (by decide) dBE_movedByLeft_80 ?_
  refine lv_iload hx hb dBE_movedByLeft_81 (lv_at hl 1 rfl) ?_
  refine lz_imul hx hb dBE_movedByLeft_83 ?_
  refine lz_iadd hx hb dBE_movedByLeft_84 ?_
  refine lv_iload_n hx hb dBE_movedByLeft_85 rfl (lv_at hl 5 rfl) ?_
  refine lv_bipush (v := iI (24)) hx hb dBE_movedByLeft_86 (by decide) ?_
  refine lz_idiv hx hb dBE_movedByLeft_88 (by omega) (by omega) ?_
  refine lv_bipush (v := iI (24)) hx hb dBE_movedByLeft_89 (by decide) ?_
  refine lz_irem hx hb dBE_movedByLeft_91 (by omega) (by omega) ?_
  refine lz_iadd hx hb dBE_movedByLeft_92 ?_
  refine lv_istore (lv' := [(7, .int (iI (((((g 3) * (x / 576)) + ((g 4) * ((x / 24) % 24))) + ((g 5) * (x % 24))) + ((sh / 24) % 24)))), (6, .int (iI (((((g 0) * (x / 576)) + ((g 1) * ((x / 24) % 24))) + ((g 2) * (x % 24))) + (sh / 576)))), (5, .int (iI (x % 24))), (4, .int (iI ((x / 24) % 24))), (3, .int (iI (x / 576))), (0, .ref b), (1, .int (iI sh)), (2, .int (iI x))]) hx hb dBE_movedByLeft_93 hl (by decide) rfl (fun ls hl => ?_)
  refine lv_aload_n hx hb dBE_movedByLeft_95 rfl (lv_at hl 5 rfl) ?_
  refine va_get (D := D) (ci := 1) (v := .ref lf) (C := nBE) (T := fBE) (N := 2) hx hb hts iwBE hown hK hP 0 rfl rfl 0 (by decide) (hts _ (List.mem_cons_of_mem _ lkBE_9)) (fun _ h9 => h9) rfl dBE_movedByLeft_96 ?_
  refine lv_bipush (v := iI (6)) hx hb dBE_movedByLeft_99 (by decide) ?_
  refine lz_ialk hx hb hK hP 1 0 rfl rfl (z := 6) 6 rfl (by decide) dBE_movedByLeft_101 ?_
  refine lv_iload_n hx hb dBE_movedByLeft_102 rfl (lv_at hl 4 rfl) ?_
  refine lz_imul hx hb dBE_movedByLeft_103 ?_
  refine lv_aload_n hx hb dBE_movedByLeft_104 rfl (lv_at hl 5 rfl) ?_
  refine va_get (D := D) (ci := 1) (v := .ref lf) (C := nBE) (T := fBE) (N := 2) hx hb hts iwBE hown hK hP 0 rfl rfl 0 (by decide) (hts _ (List.mem_cons_of_mem _ lkBE_9)) (fun _ h9 => h9) rfl dBE_movedByLeft_105 ?_
  refine lv_bipush (v := iI (7)) hx hb dBE_movedByLeft_108 (by decide) ?_
  refine lz_ialk hx hb hK hP 1 0 rfl rfl (z := 7) 7 rfl (by decide) dBE_movedByLeft_110 ?_
  refine lv_iload hx hb dBE_movedByLeft_111 (lv_at hl 3 rfl) ?_
  refine lz_imul hx hb dBE_movedByLeft_113 ?_
  refine lz_iadd hx hb dBE_movedByLeft_114 ?_
  refine lv_aload_n hx hb dBE_movedByLeft_115 rfl (lv_at hl 5 rfl) ?_
  refine va_get (D := D) (ci := 1) (v := .ref lf) (C := nBE) (T := fBE) (N := 2) hx hb hts iwBE hown hK hP 0 rfl rfl 0 (by decide) (hts _ (List.mem_cons_of_mem _ lkBE_9)) (fun _ h9 => h9) rfl dBE_movedByLeft_116 ?_
  refine lv_bipush (v := iI (8)) hx hb dBE_movedByLeft_119 (by decide) ?_
  refine lz_ialk hx hb hK hP 1 0 rfl rfl (z := 8) 8 rfl (by decide) dBE_movedByLeft_121 ?_
  refine lv_iload hx hb dBE_movedByLeft_122 (lv_at hl 2 rfl) ?_
  refine lz_imul hx hb dBE_movedByLeft_124 ?_
  refine lz_iadd hx hb dBE_movedByLeft_125 ?_
  refine lv_iload_n hx hb dBE_movedByLeft_126 rfl (lv_at hl 6 rfl) ?_
  refine lv_bipush (v := iI (24)) hx hb dBE_movedByLeft_127 (by decide) ?_
  refine lz_irem hx hb dBE_movedByLeft_129 (by omega) (by omega) ?_
  refine lz_iadd hx hb dBE_movedByLeft_130 ?_
  refine lv_istore (lv' := [(8, .int (iI (((((g 6) * (x / 576)) + ((g 7) * ((x / 24) % 24))) + ((g 8) * (x % 24))) + (sh % 24)))), (7, .int (iI (((((g 3) * (x / 576)) + ((g 4) * ((x / 24) % 24))) + ((g 5) * (x % 24))) + ((sh / 24) % 24)))), (6, .int (iI (((((g 0) * (x / 576)) + ((g 1) * ((x / 24) % 24))) + ((g 2) * (x % 24))) + (sh / 576)))), (5, .int (iI (x % 24))), (4, .int (iI ((x / 24) % 24))), (3, .int (iI (x / 576))), (0, .ref b), (1, .int (iI sh)), (2, .int (iI x))]) hx hb dBE_movedByLeft_131 hl (by decide) rfl (fun ls hl => ?_)
  refine lv_iload hx hb dBE_movedByLeft_133 (lv_at hl 2 rfl) ?_
  refine lv_bipush (v := iI (72)) hx hb dBE_movedByLeft_135 (by decide) ?_
  refine lz_iadd hx hb dBE_movedByLeft_137 ?_
  refine lv_bipush (v := iI (24)) hx hb dBE_movedByLeft_138 (by decide) ?_
  refine lz_irem hx hb dBE_movedByLeft_140 (by omega) (by omega) ?_
  refine lv_bipush (v := iI (24)) hx hb dBE_movedByLeft_141 (by decide) ?_
  refine lz_imul hx hb dBE_movedByLeft_143 ?_
  refine lv_iload hx hb dBE_movedByLeft_144 (lv_at hl 1 rfl) ?_
  refine lv_bipush (v := iI (72)) hx hb dBE_movedByLeft_146 (by decide) ?_
  refine lz_iadd hx hb dBE_movedByLeft_148 ?_
  refine lv_bipush (v := iI (24)) hx hb dBE_movedByLeft_149 (by decide) ?_
  refine lz_irem hx hb dBE_movedByLeft_151 (by omega) (by omega) ?_
  refine lz_iadd hx hb dBE_movedByLeft_152 ?_
  refine lv_bipush (v := iI (24)) hx hb dBE_movedByLeft_153 (by decide) ?_
  refine lz_imul hx hb dBE_movedByLeft_155 ?_
  refine lv_iload hx hb dBE_movedByLeft_156 (lv_at hl 0 rfl) ?_
  refine lv_bipush (v := iI (72)) hx hb dBE_movedByLeft_158 (by decide) ?_
  refine lz_iadd hx hb dBE_movedByLeft_160 ?_
  refine lv_bipush (v := iI (24)) hx hb dBE_movedByLeft_161 (by decide) ?_
  refine lz_irem hx hb dBE_movedByLeft_163 (by omega) (by omega) ?_
  refine lz_iadd hx hb dBE_movedByLeft_164 ?_
  exact hret 165 ls (((((((((((g 0) * (x / 576)) + ((g 1) * ((x / 24) % 24))) + ((g 2) * (x % 24))) + (sh / 576)) + 72) % 24) * 24) + (((((((g 3) * (x / 576)) + ((g 4) * ((x / 24) % 24))) + ((g 5) * (x % 24))) + ((sh / 24) % 24)) + 72) % 24)) * 24) + (((((((g 6) * (x / 576)) + ((g 7) * ((x / 24) % 24))) + ((g 8) * (x % 24))) + (sh % 24)) + 72) % 24)) rfl dBE_movedByLeft_165

def rmBE_times : Room := { frames := 1, cells := 0, slots := 0, locals := 28 }
set_option maxHeartbeats 4000000 in
set_option maxRecDepth 100000 in
theorem mBE_times (l : Launch) (D : va_G) (cI cG : ClassId) (b lf rt : Nat) (gl gr : Nat → Int) (p1 q1 : Int) (hp1 : kOK p1) (hq1 : kOK q1) : zI l yBE_times wBE_times rmBE_times D vwCl (zT cI cG) [.ref b, .int (iI p1), .int (iI q1)] [(b, .inr (1, [.ref lf, .ref rt])), (lf, .inl (cI, 9, .inl (zf gl))), (rt, .inl (cI, 9, .inl (zf gr)))] (S := Unit) (fun z u => z = timesK p1 q1) (fun u => [(b, .inr (1, [.ref lf, .ref rt])), (lf, .inl (cI, 9, .inl (zf (rd p1 gl)))), (rt, .inl (cI, 9, .inl (zf (rd q1 gr))))]) := by
  refine zI.of (cc := cBE_times) (maxL := 7) (rt := .int) (by decide) rfl (Nat.le_of_ble_eq_true rfl) (fun _ _ _ => rfl) ?_
  intro p e s m args below meth c A ls Q hx hb hml hown hts hnm hK hD hA hAe hX hl hret H locs hP hS
  have hl : lv_has ls 7 [(0, .ref b), (1, .int (iI p1)), (2, .int (iI q1))] := hl
  have hp2 := hp1
  have hq2 := hq1
  unfold kOK at hp2 hq2
  refine lv_iload_n hx hb dBE_times_0 rfl (lv_at hl 1 rfl) ?_
  refine lv_aload_n hx hb dBE_times_1 rfl (lv_at hl 0 rfl) ?_
  refine va_get (D := D) (ci := 1) (v := .ref lf) (C := nBE) (T := fBE) (N := 2) hx hb hts iwBE hown hK hP 0 rfl rfl 0 (by decide) (hts _ (List.mem_cons_of_mem _ lkBE_9)) (fun _ h9 => h9) rfl dBE_times_2 ?_
  refine zV.back (va_runS (As := [.int (iI p1), .ref lf]) (rest := []) ⟨hx, hb, hml, hown, hts⟩ ((mBE_read l D cI cG lf gl p1 (by omega)) H.size) (va_cwS 2 hts (gT1 lkBE_18 (gT1 smBE_read (gT1 iniBE (gTW kcBE_read)))) rfl rfl rfl (by decide +kernel) ⟨Nat.le_of_ble_eq_true rfl, Nat.le_of_ble_eq_true rfl⟩) ⟨zPre_blind, zPre.at (wc := [(lf, .inl (cI, 9, .inl (zf gl)))]) hK hP hD hS hA hX [1] (by decide) rfl⟩ rfl rfl hl.1 rfl (lv_room (Nat.le_of_ble_eq_true rfl)) dBE_times_5 ⟨Nat.le_of_ble_eq_true rfl, Nat.le_of_ble_eq_true rfl⟩) (wr := [(b, .inr (1, [.ref lf, .ref rt])), (rt, .inl (cI, 9, .inl (zf gr)))]) hP hD hS hA [1] [0, 2] rfl rfl (by decide) (by decide) (fun u_5 H locs q_5 hP hD hS hz_5 hk_5 => ?_)
  have hP : va_P D vwCl [(b, .inr (1, [.ref lf, .ref rt])), (rt, .inl (cI, 9, .inl (zf gr))), (lf, .inl (cI, 9, .inl (zf (rd p1 gl))))] H := hP
  have hD : va_D A [(b, .inr (1, [.ref lf, .ref rt])), (rt, .inl (cI, 9, .inl (zf gr))), (lf, .inl (cI, 9, .inl (zf (rd p1 gl))))] := hD
  refine lv_iload_n hx hb dBE_times_8 rfl (lv_at hl 2 rfl) ?_
  refine lv_aload_n hx hb dBE_times_9 rfl (lv_at hl 0 rfl) ?_
  refine va_get (D := D) (ci := 1) (v := .ref rt) (C := nBE) (T := fBE) (N := 2) hx hb hts iwBE hown hK hP 0 rfl rfl 1 (by decide) (hts _ (List.mem_cons_of_mem _ lkBE_15)) (fun _ h9 => h9) rfl dBE_times_10 ?_
  refine zV.back (va_runS (As := [.int (iI q1), .ref rt]) (rest := []) ⟨hx, hb, hml, hown, hts⟩ ((mBE_read l D cI cG rt gr q1 (by omega)) H.size) (va_cwS 2 hts (gT1 lkBE_18 (gT1 smBE_read (gT1 iniBE (gTW kcBE_read)))) rfl rfl rfl (by decide +kernel) ⟨Nat.le_of_ble_eq_true rfl, Nat.le_of_ble_eq_true rfl⟩) ⟨zPre_blind, zPre.at (wc := [(rt, .inl (cI, 9, .inl (zf gr)))]) hK hP hD hS hA hX [1] (by decide) rfl⟩ rfl rfl hl.1 rfl (lv_room (Nat.le_of_ble_eq_true rfl)) dBE_times_13 ⟨Nat.le_of_ble_eq_true rfl, Nat.le_of_ble_eq_true rfl⟩) (wr := [(b, .inr (1, [.ref lf, .ref rt])), (lf, .inl (cI, 9, .inl (zf (rd p1 gl))))]) hP hD hS hA [1] [0, 2] rfl rfl (by decide) (by decide) (fun u_13 H locs q_13 hP hD hS hz_13 hk_13 => ?_)
  have hP : va_P D vwCl [(b, .inr (1, [.ref lf, .ref rt])), (lf, .inl (cI, 9, .inl (zf (rd p1 gl)))), (rt, .inl (cI, 9, .inl (zf (rd q1 gr))))] H := hP
  have hD : va_D A [(b, .inr (1, [.ref lf, .ref rt])), (lf, .inl (cI, 9, .inl (zf (rd p1 gl)))), (rt, .inl (cI, 9, .inl (zf (rd q1 gr))))] := hD
  refine lv_iconst (v := iI (0)) hx hb dBE_times_16 rfl ?_
  refine lv_istore_n (lv' := [(3, .int (iI 0)), (0, .ref b), (1, .int (iI p1)), (2, .int (iI q1))]) hx hb dBE_times_17 rfl hl (by decide) rfl (fun ls hl => ?_)
  refine lv_iconst (v := iI (0)) hx hb dBE_times_18 rfl ?_
  refine lv_istore (lv' := [(4, .int (iI 0)), (3, .int (iI 0)), (0, .ref b), (1, .int (iI p1)), (2, .int (iI q1))]) hx hb dBE_times_19 hl (by decide) rfl (fun ls hl => ?_)
  have lp21 : ∀ (n9 : Nat) (rr : Nat), (rr ≤ 3) → (prodIn p1 q1 (3 * rr)) → (3 - rr) < n9 → ∀ (H : Heap) (locs : List Loc), va_P D vwCl [(b, .inr (1, [.ref lf, .ref rt])), (lf, .inl (cI, 9, .inl (zf (rd p1 gl)))), (rt, .inl (cI, 9, .inl (zf (rd q1 gr))))] H → va_D A [(b, .inr (1, [.ref lf, .ref rt])), (lf, .inl (cI, 9, .inl (zf (rd p1 gl)))), (rt, .inl (cI, 9, .inl (zf (rd q1 gr))))] → va_S A s.heap H locs → ∀ (ls : Array Slot), lv_has ls 7 [(0, .ref b), (1, .int (iI p1)), (2, .int (iI q1)), (3, .int (iI (nineP p1 q1 (3 * rr)))), (4, .int (iI (3 * (rr : Int))))] → W p l e (headSpec wBE_times rmBE_times).room s m args below meth c H locs 0 0 Q (F0 m 21 ls []) := by
    intro n9
    induction n9 with
    | zero => intro rr hrr hpi hm; exact absurd hm (Nat.not_lt_zero _)
    | succ n9 ih21 =>
      intro rr hrr hpi hm21 H locs hP hD hS ls hl
      refine lv_iload hx hb dBE_times_21 (lv_at hl 4 rfl) ?_
      refine lv_bipush (v := iI (9)) hx hb dBE_times_23 (by decide) ?_
      refine lz_icmp_ge (tgt := 130) hx hb dBE_times_25 (by decide) (by omega) (by omega) (fun c_25 => ?_) (fun c_25 => ?_)
      · have hr3 : rr = 3 := by omega
        refine lv_iload_n hx hb dBE_times_130 rfl (lv_at hl 3 rfl) ?_
        refine lv_sipush (v := iI (13824)) hx hb dBE_times_131 (by decide) ?_
        refine lz_imul hx hb dBE_times_134 ?_
        refine lv_aload_n hx hb dBE_times_135 rfl (lv_at hl 0 rfl) ?_
        refine lv_iload_n hx hb dBE_times_136 rfl (lv_at hl 1 rfl) ?_
        refine lv_sipush (v := iI (13824)) hx hb dBE_times_137 (by decide) ?_
        refine lz_irem hx hb dBE_times_140 (by omega) (by omega) ?_
        refine lv_iload_n hx hb dBE_times_141 rfl (lv_at hl 2 rfl) ?_
        refine lv_sipush (v := iI (13824)) hx hb dBE_times_142 (by decide) ?_
        refine lz_irem hx hb dBE_times_145 (by omega) (by omega) ?_
        refine zRI.back ((va_runV (As := [.int (iI (p1 % 13824)), .int (iI (q1 % 13824))]) (rest := [.int (iI ((nineP p1 q1 (3 * rr)) * 13824))]) ⟨hx, hb, hml, hown, hts⟩ (mBE_movedByLeft l D cI cG b lf rt (rd p1 gl) (p1 % 13824) (q1 % 13824) (rd_in _ _) (by unfold isPl; omega) (by unfold isPl; omega)) (cwV 2 hts (gT1 lkBE_29 (gT1 imBE_movedByLeft (gT1 seBE_movedByLeft (gT1 iniBE (gTW kcBE_movedByLeft))))) rfl rfl rfl (by decide +kernel) ⟨Nat.le_of_ble_eq_true rfl, Nat.le_of_ble_eq_true rfl⟩) ⟨zRd_blind, va_recv hK hP (ci := 1) (q0 := 0) rfl rfl, zRd.at (wc := [(b, .inr (1, [.ref lf, .ref rt])), (lf, .inl (cI, 9, .inl (zf (rd p1 gl))))]) hK (hP.sub (ws' := [(b, .inr (1, [.ref lf, .ref rt])), (lf, .inl (cI, 9, .inl (zf (rd p1 gl))))]) [0, 1] rfl) (stF.now hX hS)⟩ rfl rfl hl.1 rfl (lv_room (Nat.le_of_ble_eq_true rfl)) dBE_times_146 ⟨Nat.le_of_ble_eq_true rfl, Nat.le_of_ble_eq_true rfl⟩).run) (fun z_146 q_146 => ?_)
        obtain rfl : z_146 = movF (rd p1 gl) (p1 % 13824) (q1 % 13824) := q_146
        refine lz_iadd hx hb dBE_times_149 ?_
        exact hret H locs 0 0 150 ls (((nineP p1 q1 (3 * rr)) * 13824) + (movF (rd p1 gl) (p1 % 13824) (q1 % 13824))) () (by
              subst hr3
              unfold timesK
              rw [if_pos (show ∀ t, t < 9 → -1 ≤ prodD p1 q1 t ∧ prodD p1 q1 t ≤ 1 from hpi)]
              rfl) (hP.sub [0, 1, 2] rfl) (hD.sub [0, 1, 2] (by decide) rfl) hS (Nat.zero_le _) (Nat.zero_le _) dBE_times_150
      · refine lv_iconst (v := iI (0)) hx hb dBE_times_28 rfl ?_
        refine lv_istore (lv' := [(5, .int (iI 0)), (0, .ref b), (1, .int (iI p1)), (2, .int (iI q1)), (3, .int (iI (nineP p1 q1 (3 * rr)))), (4, .int (iI (3 * (rr : Int))))]) hx hb dBE_times_29 hl (by decide) rfl (fun ls hl => ?_)
        have lp31 : ∀ (n9 : Nat) (cc9 : Nat), (cc9 ≤ 3) → (prodIn p1 q1 (3 * rr + cc9)) → (3 - cc9) < n9 → ∀ (H : Heap) (locs : List Loc), va_P D vwCl [(b, .inr (1, [.ref lf, .ref rt])), (lf, .inl (cI, 9, .inl (zf (rd p1 gl)))), (rt, .inl (cI, 9, .inl (zf (rd q1 gr))))] H → va_D A [(b, .inr (1, [.ref lf, .ref rt])), (lf, .inl (cI, 9, .inl (zf (rd p1 gl)))), (rt, .inl (cI, 9, .inl (zf (rd q1 gr))))] → va_S A s.heap H locs → ∀ (ls : Array Slot), lv_has ls 7 [(0, .ref b), (1, .int (iI p1)), (2, .int (iI q1)), (3, .int (iI (nineP p1 q1 (3 * rr + cc9)))), (4, .int (iI (3 * (rr : Int)))), (5, .int (iI (cc9 : Int)))] → W p l e (headSpec wBE_times rmBE_times).room s m args below meth c H locs 0 0 Q (F0 m 31 ls []) := by
          intro n9
          induction n9 with
          | zero => intro cc9 hcc hpc hm; exact absurd hm (Nat.not_lt_zero _)
          | succ n9 ih31 =>
            intro cc9 hcc hpc hm31 H locs hP hD hS ls hl
            refine lv_iload hx hb dBE_times_31 (lv_at hl 5 rfl) ?_
            refine lv_iconst (v := iI (3)) hx hb dBE_times_33 rfl ?_
            refine lz_icmp_ge (tgt := 124) hx hb dBE_times_34 (by decide) (by omega) (by omega) (fun c_34 => ?_) (fun c_34 => ?_)
            · have hc3 : cc9 = 3 := by omega
              refine lz_iinc (lv' := [(4, .int (iI ((3 * (rr : Int)) + 3))), (0, .ref b), (1, .int (iI p1)), (2, .int (iI q1)), (3, .int (iI (nineP p1 q1 (3 * rr + cc9)))), (5, .int (iI (cc9 : Int)))]) hx hb dBE_times_124 hl (k := 4) rfl (by decide) rfl (fun ls hl => ?_)
              refine lv_goto (tgt := 21) hx hb dBE_times_127 (by decide) ?_
              rw [show nineP p1 q1 (3 * rr + cc9) = nineP p1 q1 (3 * (rr + 1)) from by rw [hc3, show 3 * rr + 3 = 3 * (rr + 1) by omega]] at hl
              exact ih21 (rr + 1) (by omega) (fun t ht => hpc t (by omega)) (by omega) _ _ (hP.sub [0, 1, 2] rfl) (hD.sub [0, 1, 2] (by decide) rfl) hS _ (lv_sub hl [1, 2, 3, 4, 0] rfl)
            · refine lv_aload_n hx hb dBE_times_37 rfl (lv_at hl 0 rfl) ?_
              refine va_get (D := D) (ci := 1) (v := .ref lf) (C := nBE) (T := fBE) (N := 2) hx hb hts iwBE hown hK hP 0 rfl rfl 0 (by decide) (hts _ (List.mem_cons_of_mem _ lkBE_9)) (fun _ h9 => h9) rfl dBE_times_38 ?_
              refine lv_iload hx hb dBE_times_41 (lv_at hl 4 rfl) ?_
              refine lz_iald hx hb hK hP 1 0 rfl rfl (z := 3 * (rr : Int)) (by omega) dBE_times_43 ?_
              refine lv_aload_n hx hb dBE_times_44 rfl (lv_at hl 0 rfl) ?_
              refine va_get (D := D) (ci := 1) (v := .ref rt) (C := nBE) (T := fBE) (N := 2) hx hb hts iwBE hown hK hP 0 rfl rfl 1 (by decide) (hts _ (List.mem_cons_of_mem _ lkBE_15)) (fun _ h9 => h9) rfl dBE_times_45 ?_
              refine lv_iload hx hb dBE_times_48 (lv_at hl 5 rfl) ?_
              refine lz_ialk hx hb hK hP 2 0 rfl rfl (z := (cc9 : Int)) cc9 rfl (by omega) dBE_times_50 ?_
              refine lz_imul hx hb dBE_times_51 ?_
              refine lv_aload_n hx hb dBE_times_52 rfl (lv_at hl 0 rfl) ?_
              refine va_get (D := D) (ci := 1) (v := .ref lf) (C := nBE) (T := fBE) (N := 2) hx hb hts iwBE hown hK hP 0 rfl rfl 0 (by decide) (hts _ (List.mem_cons_of_mem _ lkBE_9)) (fun _ h9 => h9) rfl dBE_times_53 ?_
              refine lv_iload hx hb dBE_times_56 (lv_at hl 4 rfl) ?_
              refine lv_iconst (v := iI (1)) hx hb dBE_times_58 rfl ?_
              refine lz_iadd hx hb dBE_times_59 ?_
              refine lz_iald hx hb hK hP 1 0 rfl rfl (z := (3 * (rr : Int)) + 1) (by omega) dBE_times_60 ?_
              refine lv_aload_n hx hb dBE_times_61 rfl (lv_at hl 0 rfl) ?_
              refine va_get (D := D) (ci := 1) (v := .ref rt) (C := nBE) (T := fBE) (N := 2) hx hb hts iwBE hown hK hP 0 rfl rfl 1 (by decide) (hts _ (List.mem_cons_of_mem _ lkBE_15)) (fun _ h9 => h9) rfl dBE_times_62 ?_
              refine lv_iload hx hb dBE_times_65 (lv_at hl 5 rfl) ?_
              refine lv_iconst (v := iI (3)) hx hb dBE_times_67 rfl ?_
              refine lz_iadd hx hb dBE_times_68 ?_
              refine lz_iald hx hb hK hP 2 0 rfl rfl (z := (cc9 : Int) + 3) (by omega) dBE_times_69 ?_
              refine lz_imul hx hb dBE_times_70 ?_
              refine lz_iadd hx hb dBE_times_71 ?_
              refine lv_aload_n hx hb dBE_times_72 rfl (lv_at hl 0 rfl) ?_
              refine va_get (D := D) (ci := 1) (v := .ref lf) (C := nBE) (T := fBE) (N := 2) hx hb hts iwBE hown hK hP 0 rfl rfl 0 (by decide) (hts _ (List.mem_cons_of_mem _ lkBE_9)) (fun _ h9 => h9) rfl dBE_times_73 ?_
              refine lv_iload hx hb dBE_times_76 (lv_at hl 4 rfl) ?_
              refine lv_iconst (v := iI (2)) hx hb dBE_times_78 rfl ?_
              refine lz_iadd hx hb dBE_times_79 ?_
              refine lz_iald hx hb hK hP 1 0 rfl rfl (z := (3 * (rr : Int)) + 2) (by omega) dBE_times_80 ?_
              refine lv_aload_n hx hb dBE_times_81 rfl (lv_at hl 0 rfl) ?_
              refine va_get (D := D) (ci := 1) (v := .ref rt) (C := nBE) (T := fBE) (N := 2) hx hb hts iwBE hown hK hP 0 rfl rfl 1 (by decide) (hts _ (List.mem_cons_of_mem _ lkBE_15)) (fun _ h9 => h9) rfl dBE_times_82 ?_
              refine lv_iload hx hb dBE_times_85 (lv_at hl 5 rfl) ?_
              refine lv_bipush (v := iI (6)) hx hb dBE_times_87 (by decide) ?_
              refine lz_iadd hx hb dBE_times_89 ?_
              refine lz_iald hx hb hK hP 2 0 rfl rfl (z := (cc9 : Int) + 6) (by omega) dBE_times_90 ?_
              refine lz_imul hx hb dBE_times_91 ?_
              refine lz_iadd hx hb dBE_times_92 ?_
              refine lz_as (x := ((((rd p1 gl) (3 * (rr : Int)).toNat) * ((rd q1 gr) cc9)) + (((rd p1 gl) ((3 * (rr : Int)) + 1).toNat) * ((rd q1 gr) ((cc9 : Int) + 3).toNat))) + (((rd p1 gl) ((3 * (rr : Int)) + 2).toNat) * ((rd q1 gr) ((cc9 : Int) + 6).toNat))) (y := prodD p1 q1 (3 * rr + cc9)) (prod_at (by omega) (by omega)) ?_
              refine lv_istore (lv' := [(6, .int (iI (prodD p1 q1 (3 * rr + cc9)))), (0, .ref b), (1, .int (iI p1)), (2, .int (iI q1)), (3, .int (iI (nineP p1 q1 (3 * rr + cc9)))), (4, .int (iI (3 * (rr : Int)))), (5, .int (iI (cc9 : Int)))]) hx hb dBE_times_93 hl (by decide) rfl (fun ls hl => ?_)
              refine lv_iload hx hb dBE_times_95 (lv_at hl 0 rfl) ?_
              refine lv_iconst (v := iI (-1)) hx hb dBE_times_97 rfl ?_
              refine lz_icmp_lt (tgt := 107) hx hb dBE_times_98 (by decide) (by have := prodD_rng p1 q1 (3 * rr + cc9); omega) (by omega) (fun c_98 => ?_) (fun c_98 => ?_)
              · have hbad : timesK p1 q1 = -1 := by
                  by_cases q : timesK p1 q1 = -1
                  · exact q
                  · have := times_ne.mp q (3 * rr + cc9) (by omega)
                    omega
                refine lv_iconst (v := iI (-1)) hx hb dBE_times_107 rfl ?_
                exact hret H locs 0 0 108 ls (-1) () hbad.symm (hP.sub [0, 1, 2] rfl) (hD.sub [0, 1, 2] (by decide) rfl) hS (Nat.zero_le _) (Nat.zero_le _) dBE_times_108
              · refine lv_iload hx hb dBE_times_101 (lv_at hl 0 rfl) ?_
                refine lv_iconst (v := iI (1)) hx hb dBE_times_103 rfl ?_
                refine lz_icmp_le (tgt := 109) hx hb dBE_times_104 (by decide) (by have := prodD_rng p1 q1 (3 * rr + cc9); omega) (by omega) (fun c_104 => ?_) (fun c_104 => ?_)
                · refine lv_iload_n hx hb dBE_times_109 rfl (lv_at hl 4 rfl) ?_
                  refine lv_iconst (v := iI (3)) hx hb dBE_times_110 rfl ?_
                  refine lz_imul hx hb dBE_times_111 ?_
                  refine lv_iload hx hb dBE_times_112 (lv_at hl 0 rfl) ?_
                  refine lz_iadd hx hb dBE_times_114 ?_
                  refine lv_iconst (v := iI (1)) hx hb dBE_times_115 rfl ?_
                  refine lz_iadd hx hb dBE_times_116 ?_
                  refine lv_istore_n (lv' := [(3, .int (iI ((((nineP p1 q1 (3 * rr + cc9)) * 3) + (prodD p1 q1 (3 * rr + cc9))) + 1))), (6, .int (iI (prodD p1 q1 (3 * rr + cc9)))), (0, .ref b), (1, .int (iI p1)), (2, .int (iI q1)), (4, .int (iI (3 * (rr : Int)))), (5, .int (iI (cc9 : Int)))]) hx hb dBE_times_117 rfl hl (by decide) rfl (fun ls hl => ?_)
                  refine lz_iinc (lv' := [(5, .int (iI ((cc9 : Int) + 1))), (3, .int (iI ((((nineP p1 q1 (3 * rr + cc9)) * 3) + (prodD p1 q1 (3 * rr + cc9))) + 1))), (6, .int (iI (prodD p1 q1 (3 * rr + cc9)))), (0, .ref b), (1, .int (iI p1)), (2, .int (iI q1)), (4, .int (iI (3 * (rr : Int))))]) hx hb dBE_times_118 hl (k := 6) rfl (by decide) rfl (fun ls hl => ?_)
                  refine lv_goto (tgt := 31) hx hb dBE_times_121 (by decide) ?_
                  exact ih31 (cc9 + 1) (by omega) (fun t ht => by
                      rcases Nat.lt_or_ge t (3 * rr + cc9) with q | q
                      · exact hpc t q
                      · obtain rfl : t = 3 * rr + cc9 := by omega
                        omega) (by omega) _ _ (hP.sub [0, 1, 2] rfl) (hD.sub [0, 1, 2] (by decide) rfl) hS _ (lv_sub hl [3, 4, 5, 1, 6, 0] rfl)
                · have hbad : timesK p1 q1 = -1 := by
                    by_cases q : timesK p1 q1 = -1
                    · exact q
                    · have := times_ne.mp q (3 * rr + cc9) (by omega)
                      omega
                  refine lv_iconst (v := iI (-1)) hx hb dBE_times_107 rfl ?_
                  exact hret H locs 0 0 108 ls (-1) () hbad.symm (hP.sub [0, 1, 2] rfl) (hD.sub [0, 1, 2] (by decide) rfl) hS (Nat.zero_le _) (Nat.zero_le _) dBE_times_108
        exact lp31 _ 0 (Nat.zero_le _) hpi (Nat.lt_succ_self _) _ _ (hP.sub [0, 1, 2] rfl) (hD.sub [0, 1, 2] (by decide) rfl) hS _ (lv_sub hl [1, 2, 3, 4, 5, 0] rfl)
  exact lp21 _ 0 (Nat.zero_le _) (fun t ht => absurd ht (Nat.not_lt_zero _)) (Nat.lt_succ_self _) _ _ (hP.sub [0, 1, 2] rfl) (hD.sub [0, 1, 2] (by decide) rfl) hS _ (lv_sub hl [2, 3, 4, 1, 0] rfl)

def rmBE_moved : Room := { frames := 1, cells := 0, slots := 0, locals := 28 }
set_option maxHeartbeats 4000000 in
set_option maxRecDepth 100000 in
theorem mBE_moved (l : Launch) (D : va_G) (cI cG : ClassId) (b lf rt : Nat) (gl gr : Nat → Int) (k x : Int) (hk : kOK k) (hx1 : isPl x) : zI l yBE_moved wBE_moved rmBE_moved D vwCl (zT cI cG) [.ref b, .int (iI k), .int (iI x)] [(b, .inr (1, [.ref lf, .ref rt])), (lf, .inl (cI, 9, .inl (zf gl))), (rt, .inl (cI, 9, .inl (zf gr)))] (S := Unit) (fun z u => z = movK k x) (fun u => [(b, .inr (1, [.ref lf, .ref rt])), (lf, .inl (cI, 9, .inl (zf (rd k gl)))), (rt, .inl (cI, 9, .inl (zf gr)))]) := by
  refine zI.of (cc := cBE_moved) (maxL := 3) (rt := .int) (by decide) rfl (Nat.le_of_ble_eq_true rfl) (fun _ _ _ => rfl) ?_
  intro p e s m args below meth c A ls Q hx hb hml hown hts hnm hK hD hA hAe hX hl hret H locs hP hS
  have hl : lv_has ls 3 [(0, .ref b), (1, .int (iI k)), (2, .int (iI x))] := hl
  have hk2 := hk
  unfold kOK at hk2
  refine lv_iload_n hx hb dBE_moved_0 rfl (lv_at hl 1 rfl) ?_
  refine lv_aload_n hx hb dBE_moved_1 rfl (lv_at hl 0 rfl) ?_
  refine va_get (D := D) (ci := 1) (v := .ref lf) (C := nBE) (T := fBE) (N := 2) hx hb hts iwBE hown hK hP 0 rfl rfl 0 (by decide) (hts _ (List.mem_cons_of_mem _ lkBE_9)) (fun _ h9 => h9) rfl dBE_moved_2 ?_
  refine zV.back (va_runS (As := [.int (iI k), .ref lf]) (rest := []) ⟨hx, hb, hml, hown, hts⟩ ((mBE_read l D cI cG lf gl k (by omega)) H.size) (va_cwS 2 hts (gT1 lkBE_18 (gT1 smBE_read (gT1 iniBE (gTW kcBE_read)))) rfl rfl rfl (by decide +kernel) ⟨Nat.le_of_ble_eq_true rfl, Nat.le_of_ble_eq_true rfl⟩) ⟨zPre_blind, zPre.at (wc := [(lf, .inl (cI, 9, .inl (zf gl)))]) hK hP hD hS hA hX [1] (by decide) rfl⟩ rfl rfl hl.1 rfl (lv_room (Nat.le_of_ble_eq_true rfl)) dBE_moved_5 ⟨Nat.le_of_ble_eq_true rfl, Nat.le_of_ble_eq_true rfl⟩) (wr := [(b, .inr (1, [.ref lf, .ref rt])), (rt, .inl (cI, 9, .inl (zf gr)))]) hP hD hS hA [1] [0, 2] rfl rfl (by decide) (by decide) (fun u_5 H locs q_5 hP hD hS hz_5 hk_5 => ?_)
  have hP : va_P D vwCl [(b, .inr (1, [.ref lf, .ref rt])), (rt, .inl (cI, 9, .inl (zf gr))), (lf, .inl (cI, 9, .inl (zf (rd k gl))))] H := hP
  have hD : va_D A [(b, .inr (1, [.ref lf, .ref rt])), (rt, .inl (cI, 9, .inl (zf gr))), (lf, .inl (cI, 9, .inl (zf (rd k gl))))] := hD
  refine lv_aload_n hx hb dBE_moved_8 rfl (lv_at hl 0 rfl) ?_
  refine lv_iload_n hx hb dBE_moved_9 rfl (lv_at hl 1 rfl) ?_
  refine lv_sipush (v := iI (13824)) hx hb dBE_moved_10 (by decide) ?_
  refine lz_irem hx hb dBE_moved_13 (by omega) (by omega) ?_
  refine lv_iload_n hx hb dBE_moved_14 rfl (lv_at hl 2 rfl) ?_
  refine zRI.back ((va_runV (As := [.int (iI (k % 13824)), .int (iI x)]) (rest := []) ⟨hx, hb, hml, hown, hts⟩ (mBE_movedByLeft l D cI cG b lf rt (rd k gl) (k % 13824) x (rd_in _ _) (by unfold isPl; omega) hx1) (cwV 2 hts (gT1 lkBE_29 (gT1 imBE_movedByLeft (gT1 seBE_movedByLeft (gT1 iniBE (gTW kcBE_movedByLeft))))) rfl rfl rfl (by decide +kernel) ⟨Nat.le_of_ble_eq_true rfl, Nat.le_of_ble_eq_true rfl⟩) ⟨zRd_blind, va_recv hK hP (ci := 1) (q0 := 0) rfl rfl, zRd.at (wc := [(b, .inr (1, [.ref lf, .ref rt])), (lf, .inl (cI, 9, .inl (zf (rd k gl))))]) hK (hP.sub (ws' := [(b, .inr (1, [.ref lf, .ref rt])), (lf, .inl (cI, 9, .inl (zf (rd k gl))))]) [0, 2] rfl) (stF.now hX hS)⟩ rfl rfl hl.1 rfl (lv_room (Nat.le_of_ble_eq_true rfl)) dBE_moved_15 ⟨Nat.le_of_ble_eq_true rfl, Nat.le_of_ble_eq_true rfl⟩).run) (fun z_15 q_15 => ?_)
  obtain rfl : z_15 = movF (rd k gl) (k % 13824) x := q_15
  exact hret H locs 0 0 18 ls (movF (rd k gl) (k % 13824) x) () rfl (hP.sub [0, 2, 1] rfl) (hD.sub [0, 2, 1] (by decide) rfl) hS (Nat.zero_le _) (Nat.zero_le _) dBE_moved_18

def rmBE_turns : Room := { frames := 2, cells := 0, slots := 0, locals := 54 }
set_option maxHeartbeats 4000000 in
set_option maxRecDepth 100000 in
theorem mBE_turns (l : Launch) (D : va_G) (cI cG : ClassId) (b lf rt : Nat) (gl gr : Nat → Int) (k : Int) (hk : kOK k) : zI l yBE_turns wBE_turns rmBE_turns D vwCl (zT cI cG) [.ref b, .int (iI k)] [(b, .inr (1, [.ref lf, .ref rt])), (lf, .inl (cI, 9, .inl (zf gl))), (rt, .inl (cI, 9, .inl (zf gr)))] (S := ((Nat → Int) × (Nat → Int))) (fun z u => trn k z) (fun u => [(b, .inr (1, [.ref lf, .ref rt])), (lf, .inl (cI, 9, .inl (zf u.1))), (rt, .inl (cI, 9, .inl (zf u.2)))]) := by
  refine zI.of (cc := cBE_turns) (maxL := 4) (rt := .int) (by decide) rfl (Nat.le_of_ble_eq_true rfl) (fun _ _ _ => rfl) ?_
  intro p e s m args below meth c A ls Q hx hb hml hown hts hnm hK hD hA hAe hX hl hret H locs hP hS
  have hl : lv_has ls 4 [(0, .ref b), (1, .int (iI k))] := hl
  have hk2 := hk
  unfold kOK at hk2
  refine lv_iload_n hx hb dBE_turns_0 rfl (lv_at hl 1 rfl) ?_
  refine lv_istore_n (lv' := [(2, .int (iI k)), (0, .ref b), (1, .int (iI k))]) hx hb dBE_turns_1 rfl hl (by decide) rfl (fun ls hl => ?_)
  refine lv_iconst (v := iI (1)) hx hb dBE_turns_2 rfl ?_
  refine lv_istore_n (lv' := [(3, .int (iI 1)), (2, .int (iI k)), (0, .ref b), (1, .int (iI k))]) hx hb dBE_turns_3 rfl hl (by decide) rfl (fun ls hl => ?_)
  have lp4 : ∀ (n9 : Nat) (n : Nat) (pw : Int) (gl gr : Nat → Int), (1 ≤ n ∧ n ≤ 193) → (pw = powK k n) → (pw = -1 ∨ kOK pw) → (∀ j : Nat, 1 ≤ j → j < n → powK k j ≠ u0) → (194 - n) < n9 → ∀ (H : Heap) (locs : List Loc), va_P D vwCl [(b, .inr (1, [.ref lf, .ref rt])), (lf, .inl (cI, 9, .inl (zf gl))), (rt, .inl (cI, 9, .inl (zf gr)))] H → va_D A [(b, .inr (1, [.ref lf, .ref rt])), (lf, .inl (cI, 9, .inl (zf gl))), (rt, .inl (cI, 9, .inl (zf gr)))] → va_S A s.heap H locs → ∀ (ls : Array Slot), lv_has ls 4 [(0, .ref b), (1, .int (iI k)), (2, .int (iI pw)), (3, .int (iI (n : Int)))] → W p l e (headSpec wBE_turns rmBE_turns).room s m args below meth c H locs 0 0 Q (F0 m 4 ls []) := by
    intro n9
    induction n9 with
    | zero => intro n pw gl gr hn hpw hpr hall hm; exact absurd hm (Nat.not_lt_zero _)
    | succ n9 ih4 =>
      intro n pw gl gr hn hpw hpr hall hm4 H locs hP hD hS ls hl
      refine lv_iload_n hx hb dBE_turns_4 rfl (lv_at hl 2 rfl) ?_
      refine lv_iconst (v := iI (-1)) hx hb dBE_turns_5 rfl ?_
      refine lz_icmp_eq (tgt := 37) hx hb dBE_turns_6 (by decide) (by unfold kOK at hpr; omega) (by omega) (fun c_6 => ?_) (fun c_6 => ?_)
      · refine lv_iconst (v := iI (-1)) hx hb dBE_turns_37 rfl ?_
        exact hret H locs 0 0 38 ls (-1) (gl, gr) (Or.inr ⟨rfl, by first | exact Or.inl ⟨n, hn.1, hn.2, by rw [← hpw]; exact c_6⟩ | exact Or.inr (fun j h1 h2 => hall j h1 (by omega))⟩) (hP.sub [0, 1, 2] rfl) (hD.sub [0, 1, 2] (by decide) rfl) hS (Nat.zero_le _) (Nat.zero_le _) dBE_turns_38
      · have hpk : kOK pw := hpr.resolve_left c_6
        have hpk2 := hpk
        unfold kOK at hpk2
        refine lv_iload_n hx hb dBE_turns_9 rfl (lv_at hl 3 rfl) ?_
        refine lv_sipush (v := iI (192)) hx hb dBE_turns_10 (by decide) ?_
        refine lz_icmp_gt (tgt := 37) hx hb dBE_turns_13 (by decide) (by omega) (by omega) (fun c_13 => ?_) (fun c_13 => ?_)
        · refine lv_iconst (v := iI (-1)) hx hb dBE_turns_37 rfl ?_
          exact hret H locs 0 0 38 ls (-1) (gl, gr) (Or.inr ⟨rfl, by first | exact Or.inl ⟨n, hn.1, hn.2, by rw [← hpw]; exact c_6⟩ | exact Or.inr (fun j h1 h2 => hall j h1 (by omega))⟩) (hP.sub [0, 1, 2] rfl) (hD.sub [0, 1, 2] (by decide) rfl) hS (Nat.zero_le _) (Nat.zero_le _) dBE_turns_38
        · refine lv_iload_n hx hb dBE_turns_16 rfl (lv_at hl 2 rfl) ?_
          refine lz_ldc (z := 227874816) hx hb hown (hts _ (List.mem_cons_of_mem _ lkBE_33)) (by decide) dBE_turns_17 ?_
          refine lz_icmp_ne (tgt := 24) hx hb dBE_turns_19 (by decide) (by omega) (by omega) (fun c_19 => ?_) (fun c_19 => ?_)
          · have c_19 : pw ≠ u0 := c_19
            refine lv_aload_n hx hb dBE_turns_24 rfl (lv_at hl 0 rfl) ?_
            refine lv_iload_n hx hb dBE_turns_25 rfl (lv_at hl 2 rfl) ?_
            refine lv_iload_n hx hb dBE_turns_26 rfl (lv_at hl 1 rfl) ?_
            refine zI.back (va_runV (As := [.int (iI pw), .int (iI k)]) (rest := []) ⟨hx, hb, hml, hown, hts⟩ ((mBE_times l D cI cG b lf rt gl gr pw k hpk hk) H.size) (cwV 2 hts (gT1 lkBE_34 (gT1 imBE_times (gT1 seBE_times (gT1 iniBE (gTW kcBE_times))))) rfl rfl rfl (by decide +kernel) ⟨Nat.le_of_ble_eq_true rfl, Nat.le_of_ble_eq_true rfl⟩) ⟨zPre_blind, va_recv hK hP (ci := 1) (q0 := 0) rfl rfl, zPre.at (wc := [(b, .inr (1, [.ref lf, .ref rt])), (lf, .inl (cI, 9, .inl (zf gl))), (rt, .inl (cI, 9, .inl (zf gr)))]) hK hP hD hS hA hX [0, 1, 2] (by decide) rfl⟩ rfl rfl hl.1 rfl (lv_room (Nat.le_of_ble_eq_true rfl)) dBE_turns_27 ⟨Nat.le_of_ble_eq_true rfl, Nat.le_of_ble_eq_true rfl⟩) (wr := []) hP hD hS hA [0, 1, 2] [] rfl rfl (by decide) (by decide) (fun z_27 u_27 H locs q_27 hP hD hS hz_27 hk_27 => ?_)
            obtain rfl : z_27 = timesK pw k := q_27
            have hP : va_P D vwCl [(b, .inr (1, [.ref lf, .ref rt])), (lf, .inl (cI, 9, .inl (zf (rd pw gl)))), (rt, .inl (cI, 9, .inl (zf (rd k gr))))] H := hP
            have hD : va_D A [(b, .inr (1, [.ref lf, .ref rt])), (lf, .inl (cI, 9, .inl (zf (rd pw gl)))), (rt, .inl (cI, 9, .inl (zf (rd k gr))))] := hD
            refine lv_istore_n (lv' := [(2, .int (iI (timesK pw k))), (0, .ref b), (1, .int (iI k)), (3, .int (iI (n : Int)))]) hx hb dBE_turns_30 rfl hl (by decide) rfl (fun ls hl => ?_)
            refine lz_iinc (lv' := [(3, .int (iI ((n : Int) + 1))), (2, .int (iI (timesK pw k))), (0, .ref b), (1, .int (iI k))]) hx hb dBE_turns_31 hl (k := 3) rfl (by decide) rfl (fun ls hl => ?_)
            refine lv_goto (tgt := 4) hx hb dBE_turns_34 (by decide) ?_
            exact ih4 (n + 1) (timesK pw k) (rd pw gl) (rd k gr) (by omega) (by rw [powK_s hn.1, hpw]) times_rng (fun j h1 h2 => by
                rcases Nat.lt_or_ge j n with q | q
                · exact hall j h1 q
                · obtain rfl : j = n := by omega
                  rw [← hpw]; exact c_19) (by omega) _ _ (hP.sub [0, 1, 2] rfl) (hD.sub [0, 1, 2] (by decide) rfl) hS _ (lv_sub hl [2, 3, 1, 0] rfl)
          · have hpu : pw = u0 := c_19
            refine lv_iload_n hx hb dBE_turns_22 rfl (lv_at hl 3 rfl) ?_
            exact hret H locs 0 0 23 ls (n : Int) (gl, gr) (Or.inl ⟨by omega, by omega, by rw [show (n : Int).toNat = n by omega, ← hpw, hpu], fun j h1 h2 => hall j h1 (by omega)⟩) (hP.sub [0, 1, 2] rfl) (hD.sub [0, 1, 2] (by decide) rfl) hS (Nat.zero_le _) (Nat.zero_le _) dBE_turns_23
  exact lp4 _ 1 k gl gr (by omega) rfl (Or.inr hk) (fun j h1 h2 => by omega) (Nat.lt_succ_self _) _ _ (hP.sub [0, 1, 2] rfl) (hD.sub [0, 1, 2] (by decide) rfl) hS _ (lv_sub hl [2, 3, 1, 0] rfl)

def rmBE_init : Room := { frames := 1, cells := 2, slots := 18, locals := 30 }
set_option maxHeartbeats 4000000 in
set_option maxRecDepth 100000 in
theorem mBE_init (l : Launch) (D : va_G) (cI cG : ClassId) (b : Nat)  : zV l yBE_init wBE_init rmBE_init D vwCl (zT cI cG) [.ref b] [(b, .inr (1, [.null, .null]))] (S := (Nat × Nat)) (fun u => True) (fun u => [(b, .inr (1, [.ref u.1, .ref u.2])), (u.1, .inl (cI, 9, .inl (zf fun _ => 0))), (u.2, .inl (cI, 9, .inl (zf fun _ => 0)))]) := by
  refine zV.of (cc := cBE_init) (maxL := 1) (by decide) rfl (Nat.le_of_ble_eq_true rfl) ?_
  intro p e s m args below meth c A ls Q hx hb hml hown hts hnm hK hD hA hAe hX hl hret H locs hP hS
  have hl : lv_has ls 1 [(0, .ref b)] := hl
  refine lv_aload_n hx hb dBE_init_0 rfl (lv_at hl 0 rfl) ?_
  refine W.objInit hx hb hown (hts _ (List.mem_cons_of_mem _ lkBE_3)) (hts _ (List.mem_cons_of_mem _ imJO_init)) (hts _ (List.mem_cons_of_mem _ kcJO_init)) rfl (by rw [hml]; exact hl.1) rfl dBE_init_1 (Nat.le_of_ble_eq_true rfl) (Nat.le_of_ble_eq_true rfl) ?_
  refine W.eq (g2 := F0 m 4 ls []) rfl ?_
  refine lv_aload_n hx hb dBE_init_4 rfl (lv_at hl 0 rfl) ?_
  refine lv_bipush (v := iI (9)) hx hb dBE_init_5 (by decide) ?_
  refine lz_newa hx hb (hts _ (List.mem_cons_of_mem _ ac_int)) hK hP hD hS hA 0 rfl (N := 9) rfl (by decide) (Nat.le_of_ble_eq_true rfl) (Nat.le_of_ble_eq_true rfl) dBE_init_7 (fun qa H hP hD hS => ?_)
  have hP : va_P D vwCl [(b, .inr (1, [.null, .null])), (qa, .inl (cI, 9, .inl (zf (fun _ => 0))))] H := hP
  have hD : va_D A [(b, .inr (1, [.null, .null])), (qa, .inl (cI, 9, .inl (zf (fun _ => 0))))] := hD
  refine va_putF (D := D) (ci := 1) (v := .ref qa) (ty := .array .int) (C := nBE) (T := fBE) (N := 2) hx hb hts iwBE tBE tkBE nmBE hown hK hP hD hS 0 rfl rfl 0 (by decide) (hts _ (List.mem_cons_of_mem _ lkBE_9)) (fun _ h9 => h9) rfl hnm rfl (by decide +kernel) rfl rfl (Nat.le_of_ble_eq_true rfl) dBE_init_9 (fun H locs hP hD hS => ?_)
  have hP : va_P D vwCl [(b, .inr (1, [.ref qa, .null])), (qa, .inl (cI, 9, .inl (zf (fun _ => 0))))] H := hP
  have hD : va_D A [(b, .inr (1, [.ref qa, .null])), (qa, .inl (cI, 9, .inl (zf (fun _ => 0))))] := hD
  refine lv_aload_n hx hb dBE_init_12 rfl (lv_at hl 0 rfl) ?_
  refine lv_bipush (v := iI (9)) hx hb dBE_init_13 (by decide) ?_
  refine lz_newa hx hb (hts _ (List.mem_cons_of_mem _ ac_int)) hK hP hD hS hA 0 rfl (N := 9) rfl (by decide) (Nat.le_of_ble_eq_true rfl) (Nat.le_of_ble_eq_true rfl) dBE_init_15 (fun qb H hP hD hS => ?_)
  have hP : va_P D vwCl [(b, .inr (1, [.ref qa, .null])), (qa, .inl (cI, 9, .inl (zf (fun _ => 0)))), (qb, .inl (cI, 9, .inl (zf (fun _ => 0))))] H := hP
  have hD : va_D A [(b, .inr (1, [.ref qa, .null])), (qa, .inl (cI, 9, .inl (zf (fun _ => 0)))), (qb, .inl (cI, 9, .inl (zf (fun _ => 0))))] := hD
  refine va_putF (D := D) (ci := 1) (v := .ref qb) (ty := .array .int) (C := nBE) (T := fBE) (N := 2) hx hb hts iwBE tBE tkBE nmBE hown hK hP hD hS 0 rfl rfl 1 (by decide) (hts _ (List.mem_cons_of_mem _ lkBE_15)) (fun _ h9 => h9) rfl hnm rfl (by decide +kernel) rfl rfl (Nat.le_of_ble_eq_true rfl) dBE_init_17 (fun H locs hP hD hS => ?_)
  have hP : va_P D vwCl [(b, .inr (1, [.ref qa, .ref qb])), (qa, .inl (cI, 9, .inl (zf (fun _ => 0)))), (qb, .inl (cI, 9, .inl (zf (fun _ => 0))))] H := hP
  have hD : va_D A [(b, .inr (1, [.ref qa, .ref qb])), (qa, .inl (cI, 9, .inl (zf (fun _ => 0)))), (qb, .inl (cI, 9, .inl (zf (fun _ => 0))))] := hD
  exact hret H locs (0 + 1 + 1) (0 + 9 + 9) 20 ls (qa, qb) trivial (hP.sub [0, 1, 2] rfl) (hD.sub [0, 1, 2] (by decide) rfl) hS (by decide) (by decide) dBE_init_20
end
section
/-! decode rows: written by wip/whole/names.py -/
theorem dCL_init_0 : decode cCL_init 0 = .ok (.aload_n 0, 1) := by decide +kernel
theorem dCL_init_1 : decode cCL_init 1 = .ok (.invokespecial 3, 3) := by decide +kernel
theorem dCL_init_4 : decode cCL_init 4 = .ok (.aload_n 0, 1) := by decide +kernel
theorem dCL_init_5 : decode cCL_init 5 = .ok (.new 9, 3) := by decide +kernel
theorem dCL_init_8 : decode cCL_init 8 = .ok (.dup, 1) := by decide +kernel
theorem dCL_init_9 : decode cCL_init 9 = .ok (.sipush 192, 3) := by decide +kernel
theorem dCL_init_12 : decode cCL_init 12 = .ok (.invokespecial 11, 3) := by decide +kernel
theorem dCL_init_15 : decode cCL_init 15 = .ok (.putfield 14, 3) := by decide +kernel
theorem dCL_init_18 : decode cCL_init 18 = .ok (.aload_n 0, 1) := by decide +kernel
theorem dCL_init_19 : decode cCL_init 19 = .ok (.sipush 192, 3) := by decide +kernel
theorem dCL_init_22 : decode cCL_init 22 = .ok (.newarray .int, 2) := by decide +kernel
theorem dCL_init_24 : decode cCL_init 24 = .ok (.putfield 20, 3) := by decide +kernel
theorem dCL_init_27 : decode cCL_init 27 = .ok (.aload_n 0, 1) := by decide +kernel
theorem dCL_init_28 : decode cCL_init 28 = .ok (.iconst 0, 1) := by decide +kernel
theorem dCL_init_29 : decode cCL_init 29 = .ok (.putfield 24, 3) := by decide +kernel
theorem dCL_init_32 : decode cCL_init 32 = .ok (.aload_n 0, 1) := by decide +kernel
theorem dCL_init_33 : decode cCL_init 33 = .ok (.bipush 10, 2) := by decide +kernel
theorem dCL_init_35 : decode cCL_init 35 = .ok (.newarray .int, 2) := by decide +kernel
theorem dCL_init_37 : decode cCL_init 37 = .ok (.putfield 28, 3) := by decide +kernel
theorem dCL_init_40 : decode cCL_init 40 = .ok (.aload_n 0, 1) := by decide +kernel
theorem dCL_init_41 : decode cCL_init 41 = .ok (.iconst 0, 1) := by decide +kernel
theorem dCL_init_42 : decode cCL_init 42 = .ok (.putfield 31, 3) := by decide +kernel
theorem dCL_init_45 : decode cCL_init 45 = .ok (.aload_n 0, 1) := by decide +kernel
theorem dCL_init_46 : decode cCL_init 46 = .ok (.aload_n 1, 1) := by decide +kernel
theorem dCL_init_47 : decode cCL_init 47 = .ok (.putfield 34, 3) := by decide +kernel
theorem dCL_init_50 : decode cCL_init 50 = .ok (.return_, 1) := by decide +kernel
theorem dCL_start_0 : decode cCL_start 0 = .ok (.aload_n 0, 1) := by decide +kernel
theorem dCL_start_1 : decode cCL_start 1 = .ok (.getfield 14, 3) := by decide +kernel
theorem dCL_start_4 : decode cCL_start 4 = .ok (.invokevirtual 38, 3) := by decide +kernel
theorem dCL_start_7 : decode cCL_start 7 = .ok (.aload_n 0, 1) := by decide +kernel
theorem dCL_start_8 : decode cCL_start 8 = .ok (.getfield 14, 3) := by decide +kernel
theorem dCL_start_11 : decode cCL_start 11 = .ok (.ldc 41, 2) := by decide +kernel
theorem dCL_start_13 : decode cCL_start 13 = .ok (.invokevirtual 42, 3) := by decide +kernel
theorem dCL_start_16 : decode cCL_start 16 = .ok (.pop, 1) := by decide +kernel
theorem dCL_start_17 : decode cCL_start 17 = .ok (.aload_n 0, 1) := by decide +kernel
theorem dCL_start_18 : decode cCL_start 18 = .ok (.getfield 20, 3) := by decide +kernel
theorem dCL_start_21 : decode cCL_start 21 = .ok (.iconst 0, 1) := by decide +kernel
theorem dCL_start_22 : decode cCL_start 22 = .ok (.ldc 41, 2) := by decide +kernel
theorem dCL_start_24 : decode cCL_start 24 = .ok (.iastore, 1) := by decide +kernel
theorem dCL_start_25 : decode cCL_start 25 = .ok (.aload_n 0, 1) := by decide +kernel
theorem dCL_start_26 : decode cCL_start 26 = .ok (.iconst 1, 1) := by decide +kernel
theorem dCL_start_27 : decode cCL_start 27 = .ok (.putfield 24, 3) := by decide +kernel
theorem dCL_start_30 : decode cCL_start 30 = .ok (.aload_n 0, 1) := by decide +kernel
theorem dCL_start_31 : decode cCL_start 31 = .ok (.iconst 0, 1) := by decide +kernel
theorem dCL_start_32 : decode cCL_start 32 = .ok (.putfield 31, 3) := by decide +kernel
theorem dCL_start_35 : decode cCL_start 35 = .ok (.return_, 1) := by decide +kernel
theorem dCL_take_0 : decode cCL_take 0 = .ok (.aload_n 0, 1) := by decide +kernel
theorem dCL_take_1 : decode cCL_take 1 = .ok (.getfield 14, 3) := by decide +kernel
theorem dCL_take_4 : decode cCL_take 4 = .ok (.iload_n 1, 1) := by decide +kernel
theorem dCL_take_5 : decode cCL_take 5 = .ok (.invokevirtual 46, 3) := by decide +kernel
theorem dCL_take_8 : decode cCL_take 8 = .ok (.ifCond .eq 5, 3) := by decide +kernel
theorem dCL_take_11 : decode cCL_take 11 = .ok (.iconst 1, 1) := by decide +kernel
theorem dCL_take_12 : decode cCL_take 12 = .ok (.ireturn, 1) := by decide +kernel
theorem dCL_take_13 : decode cCL_take 13 = .ok (.aload_n 0, 1) := by decide +kernel
theorem dCL_take_14 : decode cCL_take 14 = .ok (.getfield 31, 3) := by decide +kernel
theorem dCL_take_17 : decode cCL_take 17 = .ok (.aload_n 0, 1) := by decide +kernel
theorem dCL_take_18 : decode cCL_take 18 = .ok (.getfield 28, 3) := by decide +kernel
theorem dCL_take_21 : decode cCL_take 21 = .ok (.arraylength, 1) := by decide +kernel
theorem dCL_take_22 : decode cCL_take 22 = .ok (.if_icmp .lt 5, 3) := by decide +kernel
theorem dCL_take_25 : decode cCL_take 25 = .ok (.iconst 0, 1) := by decide +kernel
theorem dCL_take_26 : decode cCL_take 26 = .ok (.ireturn, 1) := by decide +kernel
theorem dCL_take_27 : decode cCL_take 27 = .ok (.aload_n 0, 1) := by decide +kernel
theorem dCL_take_28 : decode cCL_take 28 = .ok (.getfield 28, 3) := by decide +kernel
theorem dCL_take_31 : decode cCL_take 31 = .ok (.aload_n 0, 1) := by decide +kernel
theorem dCL_take_32 : decode cCL_take 32 = .ok (.getfield 31, 3) := by decide +kernel
theorem dCL_take_35 : decode cCL_take 35 = .ok (.iload_n 1, 1) := by decide +kernel
theorem dCL_take_36 : decode cCL_take 36 = .ok (.iastore, 1) := by decide +kernel
theorem dCL_take_37 : decode cCL_take 37 = .ok (.aload_n 0, 1) := by decide +kernel
theorem dCL_take_38 : decode cCL_take 38 = .ok (.dup, 1) := by decide +kernel
theorem dCL_take_39 : decode cCL_take 39 = .ok (.getfield 31, 3) := by decide +kernel
theorem dCL_take_42 : decode cCL_take 42 = .ok (.iconst 1, 1) := by decide +kernel
theorem dCL_take_43 : decode cCL_take 43 = .ok (.iadd, 1) := by decide +kernel
theorem dCL_take_44 : decode cCL_take 44 = .ok (.putfield 31, 3) := by decide +kernel
theorem dCL_take_47 : decode cCL_take 47 = .ok (.aload_n 0, 1) := by decide +kernel
theorem dCL_take_48 : decode cCL_take 48 = .ok (.getfield 24, 3) := by decide +kernel
theorem dCL_take_51 : decode cCL_take 51 = .ok (.iconst 1, 1) := by decide +kernel
theorem dCL_take_52 : decode cCL_take 52 = .ok (.invokestatic 49, 3) := by decide +kernel
theorem dCL_take_55 : decode cCL_take 55 = .ok (.istore_n 2, 1) := by decide +kernel
theorem dCL_take_56 : decode cCL_take 56 = .ok (.aload_n 0, 1) := by decide +kernel
theorem dCL_take_57 : decode cCL_take 57 = .ok (.iload_n 1, 1) := by decide +kernel
theorem dCL_take_58 : decode cCL_take 58 = .ok (.iload_n 2, 1) := by decide +kernel
theorem dCL_take_59 : decode cCL_take 59 = .ok (.invokevirtual 55, 3) := by decide +kernel
theorem dCL_take_62 : decode cCL_take 62 = .ok (.ifCond .ne 5, 3) := by decide +kernel
theorem dCL_take_65 : decode cCL_take 65 = .ok (.iconst 0, 1) := by decide +kernel
theorem dCL_take_66 : decode cCL_take 66 = .ok (.ireturn, 1) := by decide +kernel
theorem dCL_take_67 : decode cCL_take 67 = .ok (.iload_n 2, 1) := by decide +kernel
theorem dCL_take_68 : decode cCL_take 68 = .ok (.istore_n 3, 1) := by decide +kernel
theorem dCL_take_69 : decode cCL_take 69 = .ok (.iload_n 3, 1) := by decide +kernel
theorem dCL_take_70 : decode cCL_take 70 = .ok (.aload_n 0, 1) := by decide +kernel
theorem dCL_take_71 : decode cCL_take 71 = .ok (.getfield 24, 3) := by decide +kernel
theorem dCL_take_74 : decode cCL_take 74 = .ok (.if_icmp .ge 86, 3) := by decide +kernel
theorem dCL_take_77 : decode cCL_take 77 = .ok (.iload_n 3, 1) := by decide +kernel
theorem dCL_take_78 : decode cCL_take 78 = .ok (.sipush 192, 3) := by decide +kernel
theorem dCL_take_81 : decode cCL_take 81 = .ok (.if_icmp .ge 79, 3) := by decide +kernel
theorem dCL_take_84 : decode cCL_take 84 = .ok (.iconst 0, 1) := by decide +kernel
theorem dCL_take_85 : decode cCL_take 85 = .ok (.istore 4, 2) := by decide +kernel
theorem dCL_take_87 : decode cCL_take 87 = .ok (.iload 4, 2) := by decide +kernel
theorem dCL_take_89 : decode cCL_take 89 = .ok (.aload_n 0, 1) := by decide +kernel
theorem dCL_take_90 : decode cCL_take 90 = .ok (.getfield 31, 3) := by decide +kernel
theorem dCL_take_93 : decode cCL_take 93 = .ok (.if_icmp .ge 60, 3) := by decide +kernel
theorem dCL_take_96 : decode cCL_take 96 = .ok (.aload_n 0, 1) := by decide +kernel
theorem dCL_take_97 : decode cCL_take 97 = .ok (.getfield 34, 3) := by decide +kernel
theorem dCL_take_100 : decode cCL_take 100 = .ok (.aload_n 0, 1) := by decide +kernel
theorem dCL_take_101 : decode cCL_take 101 = .ok (.getfield 20, 3) := by decide +kernel
theorem dCL_take_104 : decode cCL_take 104 = .ok (.iload_n 3, 1) := by decide +kernel
theorem dCL_take_105 : decode cCL_take 105 = .ok (.iaload, 1) := by decide +kernel
theorem dCL_take_106 : decode cCL_take 106 = .ok (.aload_n 0, 1) := by decide +kernel
theorem dCL_take_107 : decode cCL_take 107 = .ok (.iload 4, 2) := by decide +kernel
theorem dCL_take_109 : decode cCL_take 109 = .ok (.invokevirtual 59, 3) := by decide +kernel
theorem dCL_take_112 : decode cCL_take 112 = .ok (.invokevirtual 63, 3) := by decide +kernel
theorem dCL_take_115 : decode cCL_take 115 = .ok (.istore 5, 2) := by decide +kernel
theorem dCL_take_117 : decode cCL_take 117 = .ok (.iload 5, 2) := by decide +kernel
theorem dCL_take_119 : decode cCL_take 119 = .ok (.iconst (-1), 1) := by decide +kernel
theorem dCL_take_120 : decode cCL_take 120 = .ok (.if_icmp .eq 25, 3) := by decide +kernel
theorem dCL_take_123 : decode cCL_take 123 = .ok (.aload_n 0, 1) := by decide +kernel
theorem dCL_take_124 : decode cCL_take 124 = .ok (.getfield 14, 3) := by decide +kernel
theorem dCL_take_127 : decode cCL_take 127 = .ok (.iload 5, 2) := by decide +kernel
theorem dCL_take_129 : decode cCL_take 129 = .ok (.invokevirtual 46, 3) := by decide +kernel
theorem dCL_take_132 : decode cCL_take 132 = .ok (.ifCond .ne 15, 3) := by decide +kernel
theorem dCL_take_135 : decode cCL_take 135 = .ok (.aload_n 0, 1) := by decide +kernel
theorem dCL_take_136 : decode cCL_take 136 = .ok (.iload 5, 2) := by decide +kernel
theorem dCL_take_138 : decode cCL_take 138 = .ok (.iload_n 2, 1) := by decide +kernel
theorem dCL_take_139 : decode cCL_take 139 = .ok (.invokevirtual 55, 3) := by decide +kernel
theorem dCL_take_142 : decode cCL_take 142 = .ok (.ifCond .ne 5, 3) := by decide +kernel
theorem dCL_take_145 : decode cCL_take 145 = .ok (.iconst 0, 1) := by decide +kernel
theorem dCL_take_146 : decode cCL_take 146 = .ok (.ireturn, 1) := by decide +kernel
theorem dCL_take_147 : decode cCL_take 147 = .ok (.iinc 4 1, 3) := by decide +kernel
theorem dCL_take_150 : decode cCL_take 150 = .ok (.goto (-63), 3) := by decide +kernel
theorem dCL_take_153 : decode cCL_take 153 = .ok (.iload_n 3, 1) := by decide +kernel
theorem dCL_take_154 : decode cCL_take 154 = .ok (.iload_n 2, 1) := by decide +kernel
theorem dCL_take_155 : decode cCL_take 155 = .ok (.iadd, 1) := by decide +kernel
theorem dCL_take_156 : decode cCL_take 156 = .ok (.istore_n 3, 1) := by decide +kernel
theorem dCL_take_157 : decode cCL_take 157 = .ok (.goto (-88), 3) := by decide +kernel
theorem dCL_take_160 : decode cCL_take 160 = .ok (.iconst 1, 1) := by decide +kernel
theorem dCL_take_161 : decode cCL_take 161 = .ok (.ireturn, 1) := by decide +kernel
theorem dCL_addCoset_0 : decode cCL_addCoset 0 = .ok (.iconst 0, 1) := by decide +kernel
theorem dCL_addCoset_1 : decode cCL_addCoset 1 = .ok (.istore_n 3, 1) := by decide +kernel
theorem dCL_addCoset_2 : decode cCL_addCoset 2 = .ok (.iload_n 3, 1) := by decide +kernel
theorem dCL_addCoset_3 : decode cCL_addCoset 3 = .ok (.iload_n 2, 1) := by decide +kernel
theorem dCL_addCoset_4 : decode cCL_addCoset 4 = .ok (.if_icmp .ge 87, 3) := by decide +kernel
theorem dCL_addCoset_7 : decode cCL_addCoset 7 = .ok (.iload_n 3, 1) := by decide +kernel
theorem dCL_addCoset_8 : decode cCL_addCoset 8 = .ok (.aload_n 0, 1) := by decide +kernel
theorem dCL_addCoset_9 : decode cCL_addCoset 9 = .ok (.getfield 20, 3) := by decide +kernel
theorem dCL_addCoset_12 : decode cCL_addCoset 12 = .ok (.arraylength, 1) := by decide +kernel
theorem dCL_addCoset_13 : decode cCL_addCoset 13 = .ok (.if_icmp .ge 78, 3) := by decide +kernel
theorem dCL_addCoset_16 : decode cCL_addCoset 16 = .ok (.aload_n 0, 1) := by decide +kernel
theorem dCL_addCoset_17 : decode cCL_addCoset 17 = .ok (.getfield 34, 3) := by decide +kernel
theorem dCL_addCoset_20 : decode cCL_addCoset 20 = .ok (.aload_n 0, 1) := by decide +kernel
theorem dCL_addCoset_21 : decode cCL_addCoset 21 = .ok (.getfield 20, 3) := by decide +kernel
theorem dCL_addCoset_24 : decode cCL_addCoset 24 = .ok (.iload_n 3, 1) := by decide +kernel
theorem dCL_addCoset_25 : decode cCL_addCoset 25 = .ok (.iaload, 1) := by decide +kernel
theorem dCL_addCoset_26 : decode cCL_addCoset 26 = .ok (.iload_n 1, 1) := by decide +kernel
theorem dCL_addCoset_27 : decode cCL_addCoset 27 = .ok (.invokevirtual 63, 3) := by decide +kernel
theorem dCL_addCoset_30 : decode cCL_addCoset 30 = .ok (.istore 4, 2) := by decide +kernel
theorem dCL_addCoset_32 : decode cCL_addCoset 32 = .ok (.iload 4, 2) := by decide +kernel
theorem dCL_addCoset_34 : decode cCL_addCoset 34 = .ok (.iconst (-1), 1) := by decide +kernel
theorem dCL_addCoset_35 : decode cCL_addCoset 35 = .ok (.if_icmp .eq 27, 3) := by decide +kernel
theorem dCL_addCoset_38 : decode cCL_addCoset 38 = .ok (.aload_n 0, 1) := by decide +kernel
theorem dCL_addCoset_39 : decode cCL_addCoset 39 = .ok (.getfield 24, 3) := by decide +kernel
theorem dCL_addCoset_42 : decode cCL_addCoset 42 = .ok (.aload_n 0, 1) := by decide +kernel
theorem dCL_addCoset_43 : decode cCL_addCoset 43 = .ok (.getfield 20, 3) := by decide +kernel
theorem dCL_addCoset_46 : decode cCL_addCoset 46 = .ok (.arraylength, 1) := by decide +kernel
theorem dCL_addCoset_47 : decode cCL_addCoset 47 = .ok (.if_icmp .ge 15, 3) := by decide +kernel
theorem dCL_addCoset_50 : decode cCL_addCoset 50 = .ok (.aload_n 0, 1) := by decide +kernel
theorem dCL_addCoset_51 : decode cCL_addCoset 51 = .ok (.getfield 14, 3) := by decide +kernel
theorem dCL_addCoset_54 : decode cCL_addCoset 54 = .ok (.iload 4, 2) := by decide +kernel
theorem dCL_addCoset_56 : decode cCL_addCoset 56 = .ok (.invokevirtual 42, 3) := by decide +kernel
theorem dCL_addCoset_59 : decode cCL_addCoset 59 = .ok (.ifCond .ne 5, 3) := by decide +kernel
theorem dCL_addCoset_62 : decode cCL_addCoset 62 = .ok (.iconst 0, 1) := by decide +kernel
theorem dCL_addCoset_63 : decode cCL_addCoset 63 = .ok (.ireturn, 1) := by decide +kernel
theorem dCL_addCoset_64 : decode cCL_addCoset 64 = .ok (.aload_n 0, 1) := by decide +kernel
theorem dCL_addCoset_65 : decode cCL_addCoset 65 = .ok (.getfield 20, 3) := by decide +kernel
theorem dCL_addCoset_68 : decode cCL_addCoset 68 = .ok (.aload_n 0, 1) := by decide +kernel
theorem dCL_addCoset_69 : decode cCL_addCoset 69 = .ok (.getfield 24, 3) := by decide +kernel
theorem dCL_addCoset_72 : decode cCL_addCoset 72 = .ok (.iload 4, 2) := by decide +kernel
theorem dCL_addCoset_74 : decode cCL_addCoset 74 = .ok (.iastore, 1) := by decide +kernel
theorem dCL_addCoset_75 : decode cCL_addCoset 75 = .ok (.aload_n 0, 1) := by decide +kernel
theorem dCL_addCoset_76 : decode cCL_addCoset 76 = .ok (.dup, 1) := by decide +kernel
theorem dCL_addCoset_77 : decode cCL_addCoset 77 = .ok (.getfield 24, 3) := by decide +kernel
theorem dCL_addCoset_80 : decode cCL_addCoset 80 = .ok (.iconst 1, 1) := by decide +kernel
theorem dCL_addCoset_81 : decode cCL_addCoset 81 = .ok (.iadd, 1) := by decide +kernel
theorem dCL_addCoset_82 : decode cCL_addCoset 82 = .ok (.putfield 24, 3) := by decide +kernel
theorem dCL_addCoset_85 : decode cCL_addCoset 85 = .ok (.iinc 3 1, 3) := by decide +kernel
theorem dCL_addCoset_88 : decode cCL_addCoset 88 = .ok (.goto (-86), 3) := by decide +kernel
theorem dCL_addCoset_91 : decode cCL_addCoset 91 = .ok (.iconst 1, 1) := by decide +kernel
theorem dCL_addCoset_92 : decode cCL_addCoset 92 = .ok (.ireturn, 1) := by decide +kernel
theorem dCL_generator_0 : decode cCL_generator 0 = .ok (.iload_n 1, 1) := by decide +kernel
theorem dCL_generator_1 : decode cCL_generator 1 = .ok (.ifCond .lt 29, 3) := by decide +kernel
theorem dCL_generator_4 : decode cCL_generator 4 = .ok (.iload_n 1, 1) := by decide +kernel
theorem dCL_generator_5 : decode cCL_generator 5 = .ok (.aload_n 0, 1) := by decide +kernel
theorem dCL_generator_6 : decode cCL_generator 6 = .ok (.getfield 31, 3) := by decide +kernel
theorem dCL_generator_9 : decode cCL_generator 9 = .ok (.if_icmp .ge 21, 3) := by decide +kernel
theorem dCL_generator_12 : decode cCL_generator 12 = .ok (.iload_n 1, 1) := by decide +kernel
theorem dCL_generator_13 : decode cCL_generator 13 = .ok (.aload_n 0, 1) := by decide +kernel
theorem dCL_generator_14 : decode cCL_generator 14 = .ok (.getfield 28, 3) := by decide +kernel
theorem dCL_generator_17 : decode cCL_generator 17 = .ok (.arraylength, 1) := by decide +kernel
theorem dCL_generator_18 : decode cCL_generator 18 = .ok (.if_icmp .ge 12, 3) := by decide +kernel
theorem dCL_generator_21 : decode cCL_generator 21 = .ok (.aload_n 0, 1) := by decide +kernel
theorem dCL_generator_22 : decode cCL_generator 22 = .ok (.getfield 28, 3) := by decide +kernel
theorem dCL_generator_25 : decode cCL_generator 25 = .ok (.iload_n 1, 1) := by decide +kernel
theorem dCL_generator_26 : decode cCL_generator 26 = .ok (.iaload, 1) := by decide +kernel
theorem dCL_generator_27 : decode cCL_generator 27 = .ok (.goto 4, 3) := by decide +kernel
theorem dCL_generator_30 : decode cCL_generator 30 = .ok (.iconst (-1), 1) := by decide +kernel
theorem dCL_generator_31 : decode cCL_generator 31 = .ok (.ireturn, 1) := by decide +kernel
theorem dCL_found_0 : decode cCL_found 0 = .ok (.aload_n 0, 1) := by decide +kernel
theorem dCL_found_1 : decode cCL_found 1 = .ok (.getfield 14, 3) := by decide +kernel
theorem dCL_found_4 : decode cCL_found 4 = .ok (.areturn, 1) := by decide +kernel
theorem dCL_generatorCount_0 : decode cCL_generatorCount 0 = .ok (.aload_n 0, 1) := by decide +kernel
theorem dCL_generatorCount_1 : decode cCL_generatorCount 1 = .ok (.getfield 31, 3) := by decide +kernel
theorem dCL_generatorCount_4 : decode cCL_generatorCount 4 = .ok (.ireturn, 1) := by decide +kernel
end
section
/-! Closure: written by wip/whole/gencl.py -/
def rmCL_found : Room := { frames := 0, cells := 0, slots := 0, locals := 0 }
set_option maxHeartbeats 4000000 in
set_option maxRecDepth 100000 in
theorem mCL_found (l : Launch) (D : va_G) (cI cG : ClassId) (cl b lf rt fr fa ca ge : Nat) (cc gc : Int)  : zRQ l yCL_found wCL_found rmCL_found D vwCl (zT cI cG) [.ref cl] [(cl, .inr (2, [.ref b, .ref fr, .ref ca, .int (iI cc), .ref ge, .int (iI gc)]))] (fun z => z = some fr) := by
  refine zRQ.of (cc := cCL_found) (maxL := 1) (rt := (.object "GroupHalls$Row")) (by decide) rfl (Nat.le_of_ble_eq_true rfl) (Or.inl ⟨_, rfl⟩) ?_
  intro p e s m args below meth c ls Q hx hb hml hown hts hK hP hX hl hret
  have hS0 : va_S (fun _ => False) s.heap s.heap [] := va_S.rf
  have hl : lv_has ls 1 [(0, .ref cl)] := hl
  refine lv_aload_n hx hb dCL_found_0 rfl (lv_at hl 0 rfl) ?_
  refine va_get (D := D) (ci := 2) (v := .ref fr) (C := nCL) (T := fCL) (N := 6) hx hb hts iwCL hown hK hP 0 rfl rfl 1 (by decide) (hts _ (List.mem_cons_of_mem _ lkCL_14)) (fun _ h9 => h9) rfl dCL_found_1 ?_
  exact hret 4 ls (some fr) rfl dCL_found_4

def rmCL_generatorCount : Room := { frames := 0, cells := 0, slots := 0, locals := 0 }
set_option maxHeartbeats 4000000 in
set_option maxRecDepth 100000 in
theorem mCL_generatorCount (l : Launch) (D : va_G) (cI cG : ClassId) (cl b lf rt fr fa ca ge : Nat) (cc gc : Int)  : zRI l yCL_generatorCount wCL_generatorCount rmCL_generatorCount D vwCl (zT cI cG) [.ref cl] [(cl, .inr (2, [.ref b, .ref fr, .ref ca, .int (iI cc), .ref ge, .int (iI gc)]))] (fun z => z = gc) := by
  refine zRI.of (cc := cCL_generatorCount) (maxL := 1) (rt := .int) (by decide) rfl (Nat.le_of_ble_eq_true rfl) (fun _ _ => rfl) ?_
  intro p e s m args below meth c ls Q hx hb hml hown hts hK hP hX hl hret
  have hS0 : va_S (fun _ => False) s.heap s.heap [] := va_S.rf
  have hl : lv_has ls 1 [(0, .ref cl)] := hl
  refine lv_aload_n hx hb dCL_generatorCount_0 rfl (lv_at hl 0 rfl) ?_
  refine va_get (D := D) (ci := 2) (v := .int (iI gc)) (C := nCL) (T := fCL) (N := 6) hx hb hts iwCL hown hK hP 0 rfl rfl 5 (by decide) (hts _ (List.mem_cons_of_mem _ lkCL_31)) (fun _ h9 => h9) rfl dCL_generatorCount_1 ?_
  exact hret 4 ls gc rfl dCL_generatorCount_4

def rmCL_generator : Room := { frames := 0, cells := 0, slots := 0, locals := 0 }
set_option maxHeartbeats 4000000 in
set_option maxRecDepth 100000 in
theorem mCL_generator (l : Launch) (D : va_G) (cI cG : ClassId) (cl b lf rt fr fa ca ge : Nat) (cc : Int) (fg : Nat → Int) (gs : List Int) (k : Int) (hg : ∀ j, j < gs.length → fg j = gs.getD j (-1)) (hgl : gs.length ≤ 10) (hk : -2147483648 ≤ k ∧ k < 2147483648) : zRI l yCL_generator wCL_generator rmCL_generator D vwCl (zT cI cG) [.ref cl, .int (iI k)] [(cl, .inr (2, [.ref b, .ref fr, .ref ca, .int (iI cc), .ref ge, .int (iI (gs.length : Int))])), (ge, .inl (cI, 10, .inl (zf fg)))] (fun z => z = lat gs k) := by
  refine zRI.of (cc := cCL_generator) (maxL := 2) (rt := .int) (by decide) rfl (Nat.le_of_ble_eq_true rfl) (fun _ _ => rfl) ?_
  intro p e s m args below meth c ls Q hx hb hml hown hts hK hP hX hl hret
  have hS0 : va_S (fun _ => False) s.heap s.heap [] := va_S.rf
  have hl : lv_has ls 2 [(0, .ref cl), (1, .int (iI k))] := hl
  refine lv_iload_n hx hb dCL_generator_0 rfl (lv_at hl 1 rfl) ?_
  refine lz_if_lt (tgt := 30) hx hb dCL_generator_1 (by decide) (by omega) (fun c_1 => ?_) (fun c_1 => ?_)
  · refine lv_iconst (v := iI (-1)) hx hb dCL_generator_30 rfl ?_
    exact hret 31 ls (-1) (lat_out (by omega)).symm dCL_generator_31
  · refine lv_iload_n hx hb dCL_generator_4 rfl (lv_at hl 1 rfl) ?_
    refine lv_aload_n hx hb dCL_generator_5 rfl (lv_at hl 0 rfl) ?_
    refine va_get (D := D) (ci := 2) (v := .int (iI (gs.length : Int))) (C := nCL) (T := fCL) (N := 6) hx hb hts iwCL hown hK hP 0 rfl rfl 5 (by decide) (hts _ (List.mem_cons_of_mem _ lkCL_31)) (fun _ h9 => h9) rfl dCL_generator_6 ?_
    refine lz_icmp_ge (tgt := 30) hx hb dCL_generator_9 (by decide) (by omega) (by omega) (fun c_9 => ?_) (fun c_9 => ?_)
    · refine lv_iconst (v := iI (-1)) hx hb dCL_generator_30 rfl ?_
      exact hret 31 ls (-1) (lat_out (by omega)).symm dCL_generator_31
    · refine lv_iload_n hx hb dCL_generator_12 rfl (lv_at hl 1 rfl) ?_
      refine lv_aload_n hx hb dCL_generator_13 rfl (lv_at hl 0 rfl) ?_
      refine va_get (D := D) (ci := 2) (v := .ref ge) (C := nCL) (T := fCL) (N := 6) hx hb hts iwCL hown hK hP 0 rfl rfl 4 (by decide) (hts _ (List.mem_cons_of_mem _ lkCL_28)) (fun _ h9 => h9) rfl dCL_generator_14 ?_
      refine lz_alen hx hb hK hP 1 0 rfl rfl dCL_generator_17 ?_
      refine lz_icmp_ge (tgt := 30) hx hb dCL_generator_18 (by decide) (by omega) (by omega) (fun c_18 => ?_) (fun c_18 => ?_)
      · exact absurd c_18 (by omega)
      · refine lv_aload_n hx hb dCL_generator_21 rfl (lv_at hl 0 rfl) ?_
        refine va_get (D := D) (ci := 2) (v := .ref ge) (C := nCL) (T := fCL) (N := 6) hx hb hts iwCL hown hK hP 0 rfl rfl 4 (by decide) (hts _ (List.mem_cons_of_mem _ lkCL_28)) (fun _ h9 => h9) rfl dCL_generator_22 ?_
        refine lv_iload_n hx hb dCL_generator_25 rfl (lv_at hl 1 rfl) ?_
        refine lz_iald hx hb hK hP 1 0 rfl rfl (z := k) (by omega) dCL_generator_26 ?_
        refine lv_goto (tgt := 31) hx hb dCL_generator_27 (by decide) ?_
        exact hret 31 ls (fg (k).toNat) (by rw [(lat_in c_1 c_9).1]; exact hg _ (by omega)) dCL_generator_31

def rmCL_addCoset : Room := { frames := 2, cells := 0, slots := 0, locals := 82 }
set_option maxHeartbeats 4000000 in
set_option maxRecDepth 100000 in
theorem mCL_addCoset (l : Launch) (D : va_G) (cI cG : ClassId) (cl b lf rt fr fa ca ge : Nat) (fs : Int) (ff fc : Nat → Int) (cc : Int) (fg : Nat → Int) (gc : Int) (gl gr : Nat → Int) (ks cm gs : List Int) (key : Int) (n0 : Nat) (hst : CSt fs ff fc cc fg gc ks cm gs) (hn0 : n0 ≤ cm.length) (hkv : ∀ j, j < n0 → kOK (cm.getD j (-1))) (hkey : kOK key) (hfr : ∀ j, j < n0 → timesK (cm.getD j (-1)) key ≠ -1 → timesK (cm.getD j (-1)) key ∉ ks) (hij : ∀ i j, i < n0 → j < n0 → timesK (cm.getD i (-1)) key ≠ -1 → timesK (cm.getD i (-1)) key = timesK (cm.getD j (-1)) key → i = j) : zI l yCL_addCoset wCL_addCoset rmCL_addCoset D vwCl (zT cI cG) [.ref cl, .int (iI key), .int (iI (n0 : Int))] [(cl, .inr (2, [.ref b, .ref fr, .ref ca, .int (iI cc), .ref ge, .int (iI gc)])), (b, .inr (1, [.ref lf, .ref rt])), (lf, .inl (cI, 9, .inl (zf gl))), (rt, .inl (cI, 9, .inl (zf gr))), (fr, .inr (5, [.ref fa, .int (iI fs)])), (fa, .inl (cI, 192, .inl (zf ff))), (ca, .inl (cI, 192, .inl (zf fc))), (ge, .inl (cI, 10, .inl (zf fg)))] (S := CS) (fun z u => (z = 1 ∧ ∃ ks2, CSt u.1 u.2.1 u.2.2.1 u.2.2.2.1 u.2.2.2.2.1 u.2.2.2.2.2.1 ks2 (cmI cm key n0) gs ∧ (∀ j, j < n0 → timesK (cm.getD j (-1)) key ≠ -1) ∧ ∀ y, y ∈ ks2 ↔ y ∈ ks ∨ newAt cm key n0 y) ∨ (z = 0 ∧ (∃ ks2, rowOK 192 u.2.1 ks2 ∧ u.1 = (ks2.length : Int)) ∧ ((∃ j, j < n0 ∧ timesK (cm.getD j (-1)) key = -1) ∨ 192 < cm.length + n0))) (fun u => [(cl, .inr (2, [.ref b, .ref fr, .ref ca, .int (iI u.2.2.2.1), .ref ge, .int (iI u.2.2.2.2.2.1)])), (b, .inr (1, [.ref lf, .ref rt])), (lf, .inl (cI, 9, .inl (zf u.2.2.2.2.2.2.1))), (rt, .inl (cI, 9, .inl (zf u.2.2.2.2.2.2.2))), (fr, .inr (5, [.ref fa, .int (iI u.1)])), (fa, .inl (cI, 192, .inl (zf u.2.1))), (ca, .inl (cI, 192, .inl (zf u.2.2.1))), (ge, .inl (cI, 10, .inl (zf u.2.2.2.2.1)))]) := by
  refine zI.of (cc := cCL_addCoset) (maxL := 5) (rt := .boolean) (by decide) rfl (Nat.le_of_ble_eq_true rfl) (fun z u h => by rcases h with ⟨rfl, _⟩ | ⟨rfl, _⟩ <;> decide) ?_
  intro p e s m args below meth c A ls Q hx hb hml hown hts hnm hK hD hA hAe hX hl hret H locs hP hS
  have hl : lv_has ls 5 [(0, .ref cl), (1, .int (iI key)), (2, .int (iI (n0 : Int)))] := hl
  have hcm := hst.2.2.2.2.1
  have hkey2 := hkey
  unfold kOK at hkey2
  obtain rfl : fs = (ks.length : Int) := hst.2.1
  obtain rfl : cc = (cm.length : Int) := hst.2.2.2.1
  refine lv_iconst (v := iI (0)) hx hb dCL_addCoset_0 rfl ?_
  refine lv_istore_n (lv' := [(3, .int (iI 0)), (0, .ref cl), (1, .int (iI key)), (2, .int (iI (n0 : Int)))]) hx hb dCL_addCoset_1 rfl hl (by decide) rfl (fun ls hl => ?_)
  have lp2 : ∀ (n9 : Nat) (i : Nat) (fs1 : Int) (ff1 fc1 gl1 gr1 : Nat → Int) (ks1 : List Int), (i ≤ n0) → (CSt fs1 ff1 fc1 ((cm.length + i : Nat) : Int) fg gc ks1 (cmI cm key i) gs) → (∀ j, j < i → timesK (cm.getD j (-1)) key ≠ -1) → (∀ y, y ∈ ks1 ↔ y ∈ ks ∨ newAt cm key i y) → (n0 - i) < n9 → ∀ (H : Heap) (locs : List Loc), va_P D vwCl [(cl, .inr (2, [.ref b, .ref fr, .ref ca, .int (iI ((cm.length + i : Nat) : Int)), .ref ge, .int (iI gc)])), (b, .inr (1, [.ref lf, .ref rt])), (lf, .inl (cI, 9, .inl (zf gl1))), (rt, .inl (cI, 9, .inl (zf gr1))), (fr, .inr (5, [.ref fa, .int (iI fs1)])), (fa, .inl (cI, 192, .inl (zf ff1))), (ca, .inl (cI, 192, .inl (zf fc1))), (ge, .inl (cI, 10, .inl (zf fg)))] H → va_D A [(cl, .inr (2, [.ref b, .ref fr, .ref ca, .int (iI ((cm.length + i : Nat) : Int)), .ref ge, .int (iI gc)])), (b, .inr (1, [.ref lf, .ref rt])), (lf, .inl (cI, 9, .inl (zf gl1))), (rt, .inl (cI, 9, .inl (zf gr1))), (fr, .inr (5, [.ref fa, .int (iI fs1)])), (fa, .inl (cI, 192, .inl (zf ff1))), (ca, .inl (cI, 192, .inl (zf fc1))), (ge, .inl (cI, 10, .inl (zf fg)))] → va_S A s.heap H locs → ∀ (ls : Array Slot), lv_has ls 5 [(0, .ref cl), (1, .int (iI key)), (2, .int (iI (n0 : Int))), (3, .int (iI (i : Int)))] → W p l e (headSpec wCL_addCoset rmCL_addCoset).room s m args below meth c H locs 0 0 Q (F0 m 2 ls []) := by
    intro n9
    induction n9 with
    | zero => intro i fs1 ff1 fc1 gl1 gr1 ks1 hi hI hne hmm hm; exact absurd hm (Nat.not_lt_zero _)
    | succ n9 ih2 =>
      intro i fs1 ff1 fc1 gl1 gr1 ks1 hi hI hne hmm hm2 H locs hP hD hS ls hl
      refine lv_iload_n hx hb dCL_addCoset_2 rfl (lv_at hl 3 rfl) ?_
      refine lv_iload_n hx hb dCL_addCoset_3 rfl (lv_at hl 2 rfl) ?_
      refine lz_icmp_ge (tgt := 91) hx hb dCL_addCoset_4 (by decide) (by omega) (by omega) (fun c_4 => ?_) (fun c_4 => ?_)
      · have hin : i = n0 := by omega
        refine lv_iconst (v := iI (1)) hx hb dCL_addCoset_91 rfl ?_
        exact hret H locs 0 0 92 ls 1 (fs1, ff1, fc1, ((cm.length + i : Nat) : Int), fg, gc, gl1, gr1) (Or.inl ⟨rfl, ks1, by subst hin; exact hI, by subst hin; exact hne, by subst hin; exact hmm⟩) (hP.sub [0, 1, 2, 3, 4, 5, 6, 7] rfl) (hD.sub [0, 1, 2, 3, 4, 5, 6, 7] (by decide) rfl) hS (Nat.zero_le _) (Nat.zero_le _) dCL_addCoset_92
      · refine lv_iload_n hx hb dCL_addCoset_7 rfl (lv_at hl 3 rfl) ?_
        refine lv_aload_n hx hb dCL_addCoset_8 rfl (lv_at hl 0 rfl) ?_
        refine va_get (D := D) (ci := 2) (v := .ref ca) (C := nCL) (T := fCL) (N := 6) hx hb hts iwCL hown hK hP 0 rfl rfl 2 (by decide) (hts _ (List.mem_cons_of_mem _ lkCL_20)) (fun _ h9 => h9) rfl dCL_addCoset_9 ?_
        refine lz_alen hx hb hK hP 6 0 rfl rfl dCL_addCoset_12 ?_
        refine lz_icmp_ge (tgt := 91) hx hb dCL_addCoset_13 (by decide) (by omega) (by omega) (fun c_13 => ?_) (fun c_13 => ?_)
        · exact absurd c_13 (by omega)
        · refine lv_aload_n hx hb dCL_addCoset_16 rfl (lv_at hl 0 rfl) ?_
          refine va_get (D := D) (ci := 2) (v := .ref b) (C := nCL) (T := fCL) (N := 6) hx hb hts iwCL hown hK hP 0 rfl rfl 0 (by decide) (hts _ (List.mem_cons_of_mem _ lkCL_34)) (fun _ h9 => h9) rfl dCL_addCoset_17 ?_
          refine lv_aload_n hx hb dCL_addCoset_20 rfl (lv_at hl 0 rfl) ?_
          refine va_get (D := D) (ci := 2) (v := .ref ca) (C := nCL) (T := fCL) (N := 6) hx hb hts iwCL hown hK hP 0 rfl rfl 2 (by decide) (hts _ (List.mem_cons_of_mem _ lkCL_20)) (fun _ h9 => h9) rfl dCL_addCoset_21 ?_
          refine lv_iload_n hx hb dCL_addCoset_24 rfl (lv_at hl 3 rfl) ?_
          refine lz_ialk hx hb hK hP 6 0 rfl rfl (z := (i : Int)) i rfl (by omega) dCL_addCoset_25 ?_
          refine lz_as (x := fc1 i) (y := cm.getD i (-1)) (by rw [hI.2.2.1 i (by rw [cmI_len (by omega)]; omega), cmI_at (by omega)]) ?_
          refine lv_iload_n hx hb dCL_addCoset_26 rfl (lv_at hl 1 rfl) ?_
          refine zI.back (va_runV (As := [.int (iI (cm.getD i (-1))), .int (iI key)]) (rest := []) ⟨hx, hb, hml, hown, hts⟩ ((mBE_times l D cI cG b lf rt gl1 gr1 (cm.getD i (-1)) key (hkv i (by omega)) hkey) H.size) (cwV 2 hts (gT1 lkCL_63 (gT1 imBE_times (gT1 seBE_times (gT1 iniBE (gTW kcBE_times))))) rfl rfl rfl (by decide +kernel) ⟨Nat.le_of_ble_eq_true rfl, Nat.le_of_ble_eq_true rfl⟩) ⟨zPre_blind, va_recv hK hP (ci := 1) (q0 := 1) rfl rfl, zPre.at (wc := [(b, .inr (1, [.ref lf, .ref rt])), (lf, .inl (cI, 9, .inl (zf gl1))), (rt, .inl (cI, 9, .inl (zf gr1)))]) hK hP hD hS hA hX [1, 2, 3] (by decide) rfl⟩ rfl rfl hl.1 rfl (lv_room (Nat.le_of_ble_eq_true rfl)) dCL_addCoset_27 ⟨Nat.le_of_ble_eq_true rfl, Nat.le_of_ble_eq_true rfl⟩) (wr := [(cl, .inr (2, [.ref b, .ref fr, .ref ca, .int (iI ((cm.length + i : Nat) : Int)), .ref ge, .int (iI gc)])), (fr, .inr (5, [.ref fa, .int (iI fs1)])), (fa, .inl (cI, 192, .inl (zf ff1))), (ca, .inl (cI, 192, .inl (zf fc1))), (ge, .inl (cI, 10, .inl (zf fg)))]) hP hD hS hA [1, 2, 3] [0, 4, 5, 6, 7] rfl rfl (by decide) (by decide) (fun z_27 u_27 H locs q_27 hP hD hS hz_27 hk_27 => ?_)
          obtain rfl : z_27 = timesK (cm.getD i (-1)) key := q_27
          have hP : va_P D vwCl [(cl, .inr (2, [.ref b, .ref fr, .ref ca, .int (iI ((cm.length + i : Nat) : Int)), .ref ge, .int (iI gc)])), (fr, .inr (5, [.ref fa, .int (iI fs1)])), (fa, .inl (cI, 192, .inl (zf ff1))), (ca, .inl (cI, 192, .inl (zf fc1))), (ge, .inl (cI, 10, .inl (zf fg))), (b, .inr (1, [.ref lf, .ref rt])), (lf, .inl (cI, 9, .inl (zf (rd (cm.getD i (-1)) gl1)))), (rt, .inl (cI, 9, .inl (zf (rd key gr1))))] H := hP
          have hD : va_D A [(cl, .inr (2, [.ref b, .ref fr, .ref ca, .int (iI ((cm.length + i : Nat) : Int)), .ref ge, .int (iI gc)])), (fr, .inr (5, [.ref fa, .int (iI fs1)])), (fa, .inl (cI, 192, .inl (zf ff1))), (ca, .inl (cI, 192, .inl (zf fc1))), (ge, .inl (cI, 10, .inl (zf fg))), (b, .inr (1, [.ref lf, .ref rt])), (lf, .inl (cI, 9, .inl (zf (rd (cm.getD i (-1)) gl1)))), (rt, .inl (cI, 9, .inl (zf (rd key gr1))))] := hD
          refine lv_istore (lv' := [(4, .int (iI (timesK (cm.getD i (-1)) key))), (0, .ref cl), (1, .int (iI key)), (2, .int (iI (n0 : Int))), (3, .int (iI (i : Int)))]) hx hb dCL_addCoset_30 hl (by decide) rfl (fun ls hl => ?_)
          refine lv_iload hx hb dCL_addCoset_32 (lv_at hl 0 rfl) ?_
          refine lv_iconst (v := iI (-1)) hx hb dCL_addCoset_34 rfl ?_
          refine lz_icmp_eq (tgt := 62) hx hb dCL_addCoset_35 (by decide) (by have := times_bd (cm.getD i (-1)) key; omega) (by omega) (fun c_35 => ?_) (fun c_35 => ?_)
          · refine lv_iconst (v := iI (0)) hx hb dCL_addCoset_62 rfl ?_
            exact hret H locs 0 0 63 ls 0 (fs1, ff1, fc1, ((cm.length + i : Nat) : Int), fg, gc, rd (cm.getD i (-1)) gl1, rd key gr1) (Or.inr ⟨rfl, ⟨ks1, hI.1, hI.2.1⟩, by first | exact Or.inl ⟨i, by omega, c_35⟩ | exact Or.inr (by omega)⟩) (hP.sub [0, 5, 6, 7, 1, 2, 3, 4] rfl) (hD.sub [0, 5, 6, 7, 1, 2, 3, 4] (by decide) rfl) hS (Nat.zero_le _) (Nat.zero_le _) dCL_addCoset_63
          · refine lv_aload_n hx hb dCL_addCoset_38 rfl (lv_at hl 1 rfl) ?_
            refine va_get (D := D) (ci := 2) (v := .int (iI ((cm.length + i : Nat) : Int))) (C := nCL) (T := fCL) (N := 6) hx hb hts iwCL hown hK hP 0 rfl rfl 3 (by decide) (hts _ (List.mem_cons_of_mem _ lkCL_24)) (fun _ h9 => h9) rfl dCL_addCoset_39 ?_
            refine lv_aload_n hx hb dCL_addCoset_42 rfl (lv_at hl 1 rfl) ?_
            refine va_get (D := D) (ci := 2) (v := .ref ca) (C := nCL) (T := fCL) (N := 6) hx hb hts iwCL hown hK hP 0 rfl rfl 2 (by decide) (hts _ (List.mem_cons_of_mem _ lkCL_20)) (fun _ h9 => h9) rfl dCL_addCoset_43 ?_
            refine lz_alen hx hb hK hP 3 0 rfl rfl dCL_addCoset_46 ?_
            refine lz_icmp_ge (tgt := 62) hx hb dCL_addCoset_47 (by decide) (by omega) (by omega) (fun c_47 => ?_) (fun c_47 => ?_)
            · refine lv_iconst (v := iI (0)) hx hb dCL_addCoset_62 rfl ?_
              exact hret H locs 0 0 63 ls 0 (fs1, ff1, fc1, ((cm.length + i : Nat) : Int), fg, gc, rd (cm.getD i (-1)) gl1, rd key gr1) (Or.inr ⟨rfl, ⟨ks1, hI.1, hI.2.1⟩, by first | exact Or.inl ⟨i, by omega, c_35⟩ | exact Or.inr (by omega)⟩) (hP.sub [0, 5, 6, 7, 1, 2, 3, 4] rfl) (hD.sub [0, 5, 6, 7, 1, 2, 3, 4] (by decide) rfl) hS (Nat.zero_le _) (Nat.zero_le _) dCL_addCoset_63
            · obtain rfl : fs1 = (ks1.length : Int) := hI.2.1
              refine lv_aload_n hx hb dCL_addCoset_50 rfl (lv_at hl 1 rfl) ?_
              refine va_get (D := D) (ci := 2) (v := .ref fr) (C := nCL) (T := fCL) (N := 6) hx hb hts iwCL hown hK hP 0 rfl rfl 1 (by decide) (hts _ (List.mem_cons_of_mem _ lkCL_14)) (fun _ h9 => h9) rfl dCL_addCoset_51 ?_
              refine lv_iload hx hb dCL_addCoset_54 (lv_at hl 0 rfl) ?_
              refine zI.back (va_runV (As := [.int (iI (timesK (cm.getD i (-1)) key))]) (rest := []) ⟨hx, hb, hml, hown, hts⟩ ((mRO_add l D cI cG fr fa 192 ff1 ks1 (timesK (cm.getD i (-1)) key) hI.1 (by have := times_bd (cm.getD i (-1)) key; omega)) H.size) (cwV 1 hts (gT1 lkCL_42 (gT1 imRO_add (gT1 seRO_add (gT1 iniRO (gTW kcRO_add))))) rfl rfl rfl (by decide +kernel) ⟨Nat.le_of_ble_eq_true rfl, Nat.le_of_ble_eq_true rfl⟩) ⟨zPre_blind, va_recv hK hP (ci := 5) (q0 := 1) rfl rfl, zPre.at (wc := [(fr, .inr (5, [.ref fa, .int (iI (ks1.length : Int))])), (fa, .inl (cI, 192, .inl (zf ff1)))]) hK hP hD hS hA hX [1, 2] (by decide) rfl⟩ rfl rfl hl.1 rfl (lv_room (Nat.le_of_ble_eq_true rfl)) dCL_addCoset_56 ⟨Nat.le_of_ble_eq_true rfl, Nat.le_of_ble_eq_true rfl⟩) (wr := [(cl, .inr (2, [.ref b, .ref fr, .ref ca, .int (iI ((cm.length + i : Nat) : Int)), .ref ge, .int (iI gc)])), (ca, .inl (cI, 192, .inl (zf fc1))), (ge, .inl (cI, 10, .inl (zf fg))), (b, .inr (1, [.ref lf, .ref rt])), (lf, .inl (cI, 9, .inl (zf (rd (cm.getD i (-1)) gl1)))), (rt, .inl (cI, 9, .inl (zf (rd key gr1))))]) hP hD hS hA [1, 2] [0, 3, 4, 5, 6, 7] rfl rfl (by decide) (by decide) (fun z_56 u_56 H locs q_56 hP hD hS hz_56 hk_56 => ?_)
              obtain ⟨ks2, ho2, hs2, hcs⟩ := q_56
              rw [hs2] at hP hD
              have hins : z_56 = 1 ∧ rowIns ks1 ks2 (timesK (cm.getD i (-1)) key) := by
                have hnot : timesK (cm.getD i (-1)) key ∉ ks1 := by
                  rw [hmm]
                  rintro (q | ⟨j, a, b, e⟩)
                  · exact hfr i (by omega) c_35 q
                  · have := hij j i (by omega) (by omega) (by rw [e]; exact c_35) e
                    omega
                have hlen := hI.2.2.2.2.2.2.2.2
                rw [cmI_len (by omega)] at hlen
                rcases hcs with ⟨_, q, _⟩ | ⟨_, _, q, _⟩ | ⟨q1, _, _, q2⟩
                · exact absurd q hnot
                · omega
                · exact ⟨q1, q2⟩
              obtain ⟨rfl, hins⟩ := hins
              have hP : va_P D vwCl [(cl, .inr (2, [.ref b, .ref fr, .ref ca, .int (iI ((cm.length + i : Nat) : Int)), .ref ge, .int (iI gc)])), (ca, .inl (cI, 192, .inl (zf fc1))), (ge, .inl (cI, 10, .inl (zf fg))), (b, .inr (1, [.ref lf, .ref rt])), (lf, .inl (cI, 9, .inl (zf (rd (cm.getD i (-1)) gl1)))), (rt, .inl (cI, 9, .inl (zf (rd key gr1)))), (fr, .inr (5, [.ref fa, .int (iI (ks2.length : Int))])), (fa, .inl (cI, 192, .inl (zf u_56.2)))] H := hP
              have hD : va_D A [(cl, .inr (2, [.ref b, .ref fr, .ref ca, .int (iI ((cm.length + i : Nat) : Int)), .ref ge, .int (iI gc)])), (ca, .inl (cI, 192, .inl (zf fc1))), (ge, .inl (cI, 10, .inl (zf fg))), (b, .inr (1, [.ref lf, .ref rt])), (lf, .inl (cI, 9, .inl (zf (rd (cm.getD i (-1)) gl1)))), (rt, .inl (cI, 9, .inl (zf (rd key gr1)))), (fr, .inr (5, [.ref fa, .int (iI (ks2.length : Int))])), (fa, .inl (cI, 192, .inl (zf u_56.2)))] := hD
              refine lz_if_ne (tgt := 64) hx hb dCL_addCoset_59 (by decide) (by omega) (fun c_59 => ?_) (fun c_59 => ?_)
              · refine lv_aload_n hx hb dCL_addCoset_64 rfl (lv_at hl 1 rfl) ?_
                refine va_get (D := D) (ci := 2) (v := .ref ca) (C := nCL) (T := fCL) (N := 6) hx hb hts iwCL hown hK hP 0 rfl rfl 2 (by decide) (hts _ (List.mem_cons_of_mem _ lkCL_20)) (fun _ h9 => h9) rfl dCL_addCoset_65 ?_
                refine lv_aload_n hx hb dCL_addCoset_68 rfl (lv_at hl 1 rfl) ?_
                refine va_get (D := D) (ci := 2) (v := .int (iI ((cm.length + i : Nat) : Int))) (C := nCL) (T := fCL) (N := 6) hx hb hts iwCL hown hK hP 0 rfl rfl 3 (by decide) (hts _ (List.mem_cons_of_mem _ lkCL_24)) (fun _ h9 => h9) rfl dCL_addCoset_69 ?_
                refine lv_iload hx hb dCL_addCoset_72 (lv_at hl 0 rfl) ?_
                refine lz_iast hx hb hK hP hD hS 1 0 rfl rfl (z := ((cm.length + i : Nat) : Int)) (v := timesK (cm.getD i (-1)) key) (by omega) dCL_addCoset_74 (fun H locs hP hD hS => ?_)
                have hP : va_P D vwCl [(cl, .inr (2, [.ref b, .ref fr, .ref ca, .int (iI ((cm.length + i : Nat) : Int)), .ref ge, .int (iI gc)])), (ca, .inl (cI, 192, .inl (zf (zu fc1 (((cm.length + i : Nat) : Int)).toNat (timesK (cm.getD i (-1)) key))))), (ge, .inl (cI, 10, .inl (zf fg))), (b, .inr (1, [.ref lf, .ref rt])), (lf, .inl (cI, 9, .inl (zf (rd (cm.getD i (-1)) gl1)))), (rt, .inl (cI, 9, .inl (zf (rd key gr1)))), (fr, .inr (5, [.ref fa, .int (iI (ks2.length : Int))])), (fa, .inl (cI, 192, .inl (zf u_56.2)))] H := hP
                have hD : va_D A [(cl, .inr (2, [.ref b, .ref fr, .ref ca, .int (iI ((cm.length + i : Nat) : Int)), .ref ge, .int (iI gc)])), (ca, .inl (cI, 192, .inl (zf (zu fc1 (((cm.length + i : Nat) : Int)).toNat (timesK (cm.getD i (-1)) key))))), (ge, .inl (cI, 10, .inl (zf fg))), (b, .inr (1, [.ref lf, .ref rt])), (lf, .inl (cI, 9, .inl (zf (rd (cm.getD i (-1)) gl1)))), (rt, .inl (cI, 9, .inl (zf (rd key gr1)))), (fr, .inr (5, [.ref fa, .int (iI (ks2.length : Int))])), (fa, .inl (cI, 192, .inl (zf u_56.2)))] := hD
                refine lv_aload_n hx hb dCL_addCoset_75 rfl (lv_at hl 1 rfl) ?_
                refine lv_dup hx hb dCL_addCoset_76 rfl ?_
                refine va_get (D := D) (ci := 2) (v := .int (iI ((cm.length + i : Nat) : Int))) (C := nCL) (T := fCL) (N := 6) hx hb hts iwCL hown hK hP 0 rfl rfl 3 (by decide) (hts _ (List.mem_cons_of_mem _ lkCL_24)) (fun _ h9 => h9) rfl dCL_addCoset_77 ?_
                refine lv_iconst (v := iI (1)) hx hb dCL_addCoset_80 rfl ?_
                refine lz_iadd hx hb dCL_addCoset_81 ?_
                refine va_put (D := D) (ci := 2) (v := .int (iI (((cm.length + i : Nat) : Int) + 1))) (ty := .int) (C := nCL) (T := fCL) (N := 6) hx hb hts iwCL tCL tkCL nmCL hown hK hP hD hS 0 rfl rfl 3 (by decide) (hts _ (List.mem_cons_of_mem _ lkCL_24)) (fun _ h9 => h9) rfl (by decide +kernel) rfl rfl (Nat.le_of_ble_eq_true rfl) dCL_addCoset_82 (fun H locs hP hD hS => ?_)
                have hP : va_P D vwCl [(cl, .inr (2, [.ref b, .ref fr, .ref ca, .int (iI (((cm.length + i : Nat) : Int) + 1)), .ref ge, .int (iI gc)])), (ca, .inl (cI, 192, .inl (zf (zu fc1 (((cm.length + i : Nat) : Int)).toNat (timesK (cm.getD i (-1)) key))))), (ge, .inl (cI, 10, .inl (zf fg))), (b, .inr (1, [.ref lf, .ref rt])), (lf, .inl (cI, 9, .inl (zf (rd (cm.getD i (-1)) gl1)))), (rt, .inl (cI, 9, .inl (zf (rd key gr1)))), (fr, .inr (5, [.ref fa, .int (iI (ks2.length : Int))])), (fa, .inl (cI, 192, .inl (zf u_56.2)))] H := hP
                have hD : va_D A [(cl, .inr (2, [.ref b, .ref fr, .ref ca, .int (iI (((cm.length + i : Nat) : Int) + 1)), .ref ge, .int (iI gc)])), (ca, .inl (cI, 192, .inl (zf (zu fc1 (((cm.length + i : Nat) : Int)).toNat (timesK (cm.getD i (-1)) key))))), (ge, .inl (cI, 10, .inl (zf fg))), (b, .inr (1, [.ref lf, .ref rt])), (lf, .inl (cI, 9, .inl (zf (rd (cm.getD i (-1)) gl1)))), (rt, .inl (cI, 9, .inl (zf (rd key gr1)))), (fr, .inr (5, [.ref fa, .int (iI (ks2.length : Int))])), (fa, .inl (cI, 192, .inl (zf u_56.2)))] := hD
                refine lz_iinc (lv' := [(3, .int (iI ((i : Int) + 1))), (4, .int (iI (timesK (cm.getD i (-1)) key))), (0, .ref cl), (1, .int (iI key)), (2, .int (iI (n0 : Int)))]) hx hb dCL_addCoset_85 hl (k := 4) rfl (by decide) rfl (fun ls hl => ?_)
                refine lv_goto (tgt := 2) hx hb dCL_addCoset_88 (by decide) ?_
                exact ih2 (i + 1) (ks2.length : Int) u_56.2 (zu fc1 (cm.length + i) (timesK (cm.getD i (-1)) key)) (rd (cm.getD i (-1)) gl1) (rd key gr1) ks2 (by omega) (by have := cst_step hI (by rw [cmI_len (by omega)]; omega) ho2 hins; rw [cmI_s (by omega), show ((cm.length + (i + 1) : Nat) : Int) = ((cm.length + i : Nat) : Int) + 1 by omega]; rw [cmI_len (by omega)] at this; exact this) (fun j hj => by
                    rcases Nat.lt_or_ge j i with q | q
                    · exact hne j q
                    · obtain rfl : j = i := by omega
                      exact c_35) (fun y => by
                    rw [hins.1 y, hmm y]
                    constructor
                    · rintro ((q | ⟨j, a, b, e⟩) | q)
                      · exact Or.inl q
                      · exact Or.inr ⟨j, by omega, b, e⟩
                      · exact Or.inr ⟨i, by omega, by omega, q.symm⟩
                    · rintro (q | ⟨j, a, b, e⟩)
                      · exact Or.inl (Or.inl q)
                      · rcases Nat.lt_or_ge j i with q | q
                        · exact Or.inl (Or.inr ⟨j, q, b, e⟩)
                        · obtain rfl : j = i := by omega
                          exact Or.inr e.symm) (by omega) _ _ (hP.sub [0, 3, 4, 5, 6, 7, 1, 2] rfl) (hD.sub [0, 3, 4, 5, 6, 7, 1, 2] (by decide) rfl) hS _ (lv_sub hl [2, 3, 4, 0] rfl)
              · exact absurd c_59 (by omega)
  exact lp2 _ 0 (ks.length : Int) ff fc gl gr ks (Nat.zero_le _) (by rw [cmI_0]; exact hst) (fun j hj => absurd hj (Nat.not_lt_zero _)) (fun y => ⟨Or.inl, fun q => by rcases q with q | ⟨j, a, _⟩ <;> first | exact q | exact absurd a (Nat.not_lt_zero _)⟩) (Nat.lt_succ_self _) _ _ (hP.sub [0, 1, 2, 3, 4, 5, 6, 7] rfl) (hD.sub [0, 1, 2, 3, 4, 5, 6, 7] (by decide) rfl) hS _ (lv_sub hl [1, 2, 3, 0] rfl)

def rmCL_start : Room := { frames := 2, cells := 0, slots := 0, locals := 82 }
set_option maxHeartbeats 4000000 in
set_option maxRecDepth 100000 in
theorem mCL_start (l : Launch) (D : va_G) (cI cG : ClassId) (cl b lf rt fr fa ca ge : Nat) (fs : Int) (ff fc : Nat → Int) (cc : Int) (fg : Nat → Int) (gc : Int) (gl gr : Nat → Int) (ks : List Int) (hr : rowOK 192 ff ks) (hfs : fs = (ks.length : Int)) : zV l yCL_start wCL_start rmCL_start D vwCl (zT cI cG) [.ref cl] [(cl, .inr (2, [.ref b, .ref fr, .ref ca, .int (iI cc), .ref ge, .int (iI gc)])), (b, .inr (1, [.ref lf, .ref rt])), (lf, .inl (cI, 9, .inl (zf gl))), (rt, .inl (cI, 9, .inl (zf gr))), (fr, .inr (5, [.ref fa, .int (iI fs)])), (fa, .inl (cI, 192, .inl (zf ff))), (ca, .inl (cI, 192, .inl (zf fc))), (ge, .inl (cI, 10, .inl (zf fg)))] (S := CS) (fun u => CSt u.1 u.2.1 u.2.2.1 u.2.2.2.1 u.2.2.2.2.1 u.2.2.2.2.2.1 [u0] [u0] []) (fun u => [(cl, .inr (2, [.ref b, .ref fr, .ref ca, .int (iI u.2.2.2.1), .ref ge, .int (iI u.2.2.2.2.2.1)])), (b, .inr (1, [.ref lf, .ref rt])), (lf, .inl (cI, 9, .inl (zf u.2.2.2.2.2.2.1))), (rt, .inl (cI, 9, .inl (zf u.2.2.2.2.2.2.2))), (fr, .inr (5, [.ref fa, .int (iI u.1)])), (fa, .inl (cI, 192, .inl (zf u.2.1))), (ca, .inl (cI, 192, .inl (zf u.2.2.1))), (ge, .inl (cI, 10, .inl (zf u.2.2.2.2.1)))]) := by
  refine zV.of (cc := cCL_start) (maxL := 1) (by decide) rfl (Nat.le_of_ble_eq_true rfl) ?_
  intro p e s m args below meth c A ls Q hx hb hml hown hts hnm hK hD hA hAe hX hl hret H locs hP hS
  have hl : lv_has ls 1 [(0, .ref cl)] := hl
  subst hfs
  have hr0 : rowOK 192 ff [] := ⟨by decide, by decide, fun j hj => absurd hj (Nat.not_lt_zero _), List.Pairwise.nil, fun x hx => absurd hx List.not_mem_nil⟩
  refine lv_aload_n hx hb dCL_start_0 rfl (lv_at hl 0 rfl) ?_
  refine va_get (D := D) (ci := 2) (v := .ref fr) (C := nCL) (T := fCL) (N := 6) hx hb hts iwCL hown hK hP 0 rfl rfl 1 (by decide) (hts _ (List.mem_cons_of_mem _ lkCL_14)) (fun _ h9 => h9) rfl dCL_start_1 ?_
  refine zV.back (va_runV (As := []) (rest := []) ⟨hx, hb, hml, hown, hts⟩ ((mRO_clear l D cI cG fr fa (ks.length : Int)) H.size) (cwV 0 hts (gT1 lkCL_38 (gT1 imRO_clear (gT1 seRO_clear (gT1 iniRO (gTW kcRO_clear))))) rfl rfl rfl (by decide +kernel) ⟨Nat.le_of_ble_eq_true rfl, Nat.le_of_ble_eq_true rfl⟩) ⟨zPre_blind, va_recv hK hP (ci := 5) (q0 := 4) rfl rfl, zPre.at (wc := [(fr, .inr (5, [.ref fa, .int (iI (ks.length : Int))]))]) hK hP hD hS hA hX [4] (by decide) rfl⟩ rfl rfl hl.1 rfl (lv_room (Nat.le_of_ble_eq_true rfl)) dCL_start_4 ⟨Nat.le_of_ble_eq_true rfl, Nat.le_of_ble_eq_true rfl⟩) (wr := [(cl, .inr (2, [.ref b, .ref fr, .ref ca, .int (iI cc), .ref ge, .int (iI gc)])), (b, .inr (1, [.ref lf, .ref rt])), (lf, .inl (cI, 9, .inl (zf gl))), (rt, .inl (cI, 9, .inl (zf gr))), (fa, .inl (cI, 192, .inl (zf ff))), (ca, .inl (cI, 192, .inl (zf fc))), (ge, .inl (cI, 10, .inl (zf fg)))]) hP hD hS hA [4] [0, 1, 2, 3, 5, 6, 7] rfl rfl (by decide) (by decide) (fun u_4 H locs q_4 hP hD hS hz_4 hk_4 => ?_)
  have hP : va_P D vwCl [(cl, .inr (2, [.ref b, .ref fr, .ref ca, .int (iI cc), .ref ge, .int (iI gc)])), (b, .inr (1, [.ref lf, .ref rt])), (lf, .inl (cI, 9, .inl (zf gl))), (rt, .inl (cI, 9, .inl (zf gr))), (fa, .inl (cI, 192, .inl (zf ff))), (ca, .inl (cI, 192, .inl (zf fc))), (ge, .inl (cI, 10, .inl (zf fg))), (fr, .inr (5, [.ref fa, .int (iI (([] : List Int).length : Int))]))] H := hP
  have hD : va_D A [(cl, .inr (2, [.ref b, .ref fr, .ref ca, .int (iI cc), .ref ge, .int (iI gc)])), (b, .inr (1, [.ref lf, .ref rt])), (lf, .inl (cI, 9, .inl (zf gl))), (rt, .inl (cI, 9, .inl (zf gr))), (fa, .inl (cI, 192, .inl (zf ff))), (ca, .inl (cI, 192, .inl (zf fc))), (ge, .inl (cI, 10, .inl (zf fg))), (fr, .inr (5, [.ref fa, .int (iI (([] : List Int).length : Int))]))] := hD
  refine lv_aload_n hx hb dCL_start_7 rfl (lv_at hl 0 rfl) ?_
  refine va_get (D := D) (ci := 2) (v := .ref fr) (C := nCL) (T := fCL) (N := 6) hx hb hts iwCL hown hK hP 0 rfl rfl 1 (by decide) (hts _ (List.mem_cons_of_mem _ lkCL_14)) (fun _ h9 => h9) rfl dCL_start_8 ?_
  refine lz_ldc (z := 227874816) hx hb hown (hts _ (List.mem_cons_of_mem _ lkCL_41)) (by decide) dCL_start_11 ?_
  refine zI.back (va_runV (As := [.int (iI 227874816)]) (rest := []) ⟨hx, hb, hml, hown, hts⟩ ((mRO_add l D cI cG fr fa 192 ff [] 227874816 hr0 (by decide)) H.size) (cwV 1 hts (gT1 lkCL_42 (gT1 imRO_add (gT1 seRO_add (gT1 iniRO (gTW kcRO_add))))) rfl rfl rfl (by decide +kernel) ⟨Nat.le_of_ble_eq_true rfl, Nat.le_of_ble_eq_true rfl⟩) ⟨zPre_blind, va_recv hK hP (ci := 5) (q0 := 7) rfl rfl, zPre.at (wc := [(fr, .inr (5, [.ref fa, .int (iI (([] : List Int).length : Int))])), (fa, .inl (cI, 192, .inl (zf ff)))]) hK hP hD hS hA hX [7, 4] (by decide) rfl⟩ rfl rfl hl.1 rfl (lv_room (Nat.le_of_ble_eq_true rfl)) dCL_start_13 ⟨Nat.le_of_ble_eq_true rfl, Nat.le_of_ble_eq_true rfl⟩) (wr := [(cl, .inr (2, [.ref b, .ref fr, .ref ca, .int (iI cc), .ref ge, .int (iI gc)])), (b, .inr (1, [.ref lf, .ref rt])), (lf, .inl (cI, 9, .inl (zf gl))), (rt, .inl (cI, 9, .inl (zf gr))), (ca, .inl (cI, 192, .inl (zf fc))), (ge, .inl (cI, 10, .inl (zf fg)))]) hP hD hS hA [7, 4] [0, 1, 2, 3, 5, 6] rfl rfl (by decide) (by decide) (fun z_13 u_13 H locs q_13 hP hD hS hz_13 hk_13 => ?_)
  obtain ⟨ks2, ho2, hs2, hcs⟩ := q_13
  have hk2 : ks2 = [u0] := by
    rcases hcs with ⟨_, q, _⟩ | ⟨_, _, q, _⟩ | ⟨_, _, _, q⟩
    · exact absurd q List.not_mem_nil
    · exact absurd q (by decide)
    · have h1 := q.2
      obtain ⟨x, rfl⟩ := List.length_eq_one_iff.mp h1
      have h2 := (q.1 x).mp List.mem_cons_self
      rcases h2 with h2 | h2
      · exact absurd h2 List.not_mem_nil
      · rw [h2]; rfl
  subst hk2
  have hP : va_P D vwCl [(cl, .inr (2, [.ref b, .ref fr, .ref ca, .int (iI cc), .ref ge, .int (iI gc)])), (b, .inr (1, [.ref lf, .ref rt])), (lf, .inl (cI, 9, .inl (zf gl))), (rt, .inl (cI, 9, .inl (zf gr))), (ca, .inl (cI, 192, .inl (zf fc))), (ge, .inl (cI, 10, .inl (zf fg))), (fr, .inr (5, [.ref fa, .int (iI u_13.1)])), (fa, .inl (cI, 192, .inl (zf u_13.2)))] H := hP
  have hD : va_D A [(cl, .inr (2, [.ref b, .ref fr, .ref ca, .int (iI cc), .ref ge, .int (iI gc)])), (b, .inr (1, [.ref lf, .ref rt])), (lf, .inl (cI, 9, .inl (zf gl))), (rt, .inl (cI, 9, .inl (zf gr))), (ca, .inl (cI, 192, .inl (zf fc))), (ge, .inl (cI, 10, .inl (zf fg))), (fr, .inr (5, [.ref fa, .int (iI u_13.1)])), (fa, .inl (cI, 192, .inl (zf u_13.2)))] := hD
  refine lv_pop hx hb dCL_start_16 rfl ?_
  refine lv_aload_n hx hb dCL_start_17 rfl (lv_at hl 0 rfl) ?_
  refine va_get (D := D) (ci := 2) (v := .ref ca) (C := nCL) (T := fCL) (N := 6) hx hb hts iwCL hown hK hP 0 rfl rfl 2 (by decide) (hts _ (List.mem_cons_of_mem _ lkCL_20)) (fun _ h9 => h9) rfl dCL_start_18 ?_
  refine lv_iconst (v := iI (0)) hx hb dCL_start_21 rfl ?_
  refine lz_ldc (z := 227874816) hx hb hown (hts _ (List.mem_cons_of_mem _ lkCL_41)) (by decide) dCL_start_22 ?_
  refine lz_iask hx hb hK hP hD hS 4 0 rfl rfl (z := 0) (v := 227874816) 0 rfl (by decide) dCL_start_24 (fun H locs hP hD hS => ?_)
  have hP : va_P D vwCl [(cl, .inr (2, [.ref b, .ref fr, .ref ca, .int (iI cc), .ref ge, .int (iI gc)])), (b, .inr (1, [.ref lf, .ref rt])), (lf, .inl (cI, 9, .inl (zf gl))), (rt, .inl (cI, 9, .inl (zf gr))), (ca, .inl (cI, 192, .inl (zf (zu fc 0 227874816)))), (ge, .inl (cI, 10, .inl (zf fg))), (fr, .inr (5, [.ref fa, .int (iI u_13.1)])), (fa, .inl (cI, 192, .inl (zf u_13.2)))] H := hP
  have hD : va_D A [(cl, .inr (2, [.ref b, .ref fr, .ref ca, .int (iI cc), .ref ge, .int (iI gc)])), (b, .inr (1, [.ref lf, .ref rt])), (lf, .inl (cI, 9, .inl (zf gl))), (rt, .inl (cI, 9, .inl (zf gr))), (ca, .inl (cI, 192, .inl (zf (zu fc 0 227874816)))), (ge, .inl (cI, 10, .inl (zf fg))), (fr, .inr (5, [.ref fa, .int (iI u_13.1)])), (fa, .inl (cI, 192, .inl (zf u_13.2)))] := hD
  refine lv_aload_n hx hb dCL_start_25 rfl (lv_at hl 0 rfl) ?_
  refine lv_iconst (v := iI (1)) hx hb dCL_start_26 rfl ?_
  refine va_put (D := D) (ci := 2) (v := .int (iI 1)) (ty := .int) (C := nCL) (T := fCL) (N := 6) hx hb hts iwCL tCL tkCL nmCL hown hK hP hD hS 0 rfl rfl 3 (by decide) (hts _ (List.mem_cons_of_mem _ lkCL_24)) (fun _ h9 => h9) rfl (by decide +kernel) rfl rfl (Nat.le_of_ble_eq_true rfl) dCL_start_27 (fun H locs hP hD hS => ?_)
  have hP : va_P D vwCl [(cl, .inr (2, [.ref b, .ref fr, .ref ca, .int (iI 1), .ref ge, .int (iI gc)])), (b, .inr (1, [.ref lf, .ref rt])), (lf, .inl (cI, 9, .inl (zf gl))), (rt, .inl (cI, 9, .inl (zf gr))), (ca, .inl (cI, 192, .inl (zf (zu fc 0 227874816)))), (ge, .inl (cI, 10, .inl (zf fg))), (fr, .inr (5, [.ref fa, .int (iI u_13.1)])), (fa, .inl (cI, 192, .inl (zf u_13.2)))] H := hP
  have hD : va_D A [(cl, .inr (2, [.ref b, .ref fr, .ref ca, .int (iI 1), .ref ge, .int (iI gc)])), (b, .inr (1, [.ref lf, .ref rt])), (lf, .inl (cI, 9, .inl (zf gl))), (rt, .inl (cI, 9, .inl (zf gr))), (ca, .inl (cI, 192, .inl (zf (zu fc 0 227874816)))), (ge, .inl (cI, 10, .inl (zf fg))), (fr, .inr (5, [.ref fa, .int (iI u_13.1)])), (fa, .inl (cI, 192, .inl (zf u_13.2)))] := hD
  refine lv_aload_n hx hb dCL_start_30 rfl (lv_at hl 0 rfl) ?_
  refine lv_iconst (v := iI (0)) hx hb dCL_start_31 rfl ?_
  refine va_put (D := D) (ci := 2) (v := .int (iI 0)) (ty := .int) (C := nCL) (T := fCL) (N := 6) hx hb hts iwCL tCL tkCL nmCL hown hK hP hD hS 0 rfl rfl 5 (by decide) (hts _ (List.mem_cons_of_mem _ lkCL_31)) (fun _ h9 => h9) rfl (by decide +kernel) rfl rfl (Nat.le_of_ble_eq_true rfl) dCL_start_32 (fun H locs hP hD hS => ?_)
  have hP : va_P D vwCl [(cl, .inr (2, [.ref b, .ref fr, .ref ca, .int (iI 1), .ref ge, .int (iI 0)])), (b, .inr (1, [.ref lf, .ref rt])), (lf, .inl (cI, 9, .inl (zf gl))), (rt, .inl (cI, 9, .inl (zf gr))), (ca, .inl (cI, 192, .inl (zf (zu fc 0 227874816)))), (ge, .inl (cI, 10, .inl (zf fg))), (fr, .inr (5, [.ref fa, .int (iI u_13.1)])), (fa, .inl (cI, 192, .inl (zf u_13.2)))] H := hP
  have hD : va_D A [(cl, .inr (2, [.ref b, .ref fr, .ref ca, .int (iI 1), .ref ge, .int (iI 0)])), (b, .inr (1, [.ref lf, .ref rt])), (lf, .inl (cI, 9, .inl (zf gl))), (rt, .inl (cI, 9, .inl (zf gr))), (ca, .inl (cI, 192, .inl (zf (zu fc 0 227874816)))), (ge, .inl (cI, 10, .inl (zf fg))), (fr, .inr (5, [.ref fa, .int (iI u_13.1)])), (fa, .inl (cI, 192, .inl (zf u_13.2)))] := hD
  exact hret H locs 0 0 35 ls (u_13.1, u_13.2, zu fc 0 227874816, 1, fg, 0, gl, gr) ⟨ho2, hs2, (fun j hj => by
      have h0 : j = 0 := by simpa using hj
      subst h0
      rfl), rfl, by decide, fun j hj => absurd hj (Nat.not_lt_zero _), rfl, by decide, rfl⟩ (hP.sub [0, 1, 2, 3, 6, 7, 4, 5] rfl) (hD.sub [0, 1, 2, 3, 6, 7, 4, 5] (by decide) rfl) hS (Nat.zero_le _) (Nat.zero_le _) dCL_start_35
end
section
/-! Taking one more: what holds on the way. -/
theorem pow_small {n k : Nat} (h : 2 ^ n ≤ k) (hk : k ≤ 192) : n < 8 := by
  rcases Nat.lt_or_ge n 8 with q | q
  · exact q
  · have : 2 ^ 8 ≤ 2 ^ n := Nat.pow_le_pow_right (by decide) q
    omega
theorem isG_congr {a b : List Int} (h : isG a) (hn : b.Nodup) (hm : ∀ x, x ∈ a ↔ x ∈ b) : isG b :=
  ⟨hn, (hm _).mp h.2.1, fun x hx => h.2.2.1 x ((hm x).mpr hx), fun x hx y hy => (hm _).mp (h.2.2.2 x ((hm x).mpr hx) y ((hm y).mpr hy))⟩
theorem isG.pos {a : List Int} (h : isG a) : 0 < a.length := List.length_pos_of_mem h.2.1
def TI (cm g ks rs : List Int) (mm : Nat) (key : Int) : Prop := DI cm g ks rs ∧ 1 ≤ mm ∧ mm ≤ rs.length ∧ 2 ≤ rs.length ∧ key ∈ ks ∧ ∀ i, 1 ≤ i → i < mm → ∀ a ∈ g, timesK (rs.getD i (-1)) a ∈ ks
def TJ (cm g ks rs : List Int) (mm : Nat) (key : Int) (gi : Nat) : Prop := TI cm g ks rs mm key ∧ mm < rs.length ∧ gi ≤ g.length ∧ ∀ t, t < gi → timesK (rs.getD mm (-1)) (g.getD t (-1)) ∈ ks
theorem TJ.has {cm g ks rs : List Int} {mm gi : Nat} {key : Int} (h : TJ cm g ks rs mm key gi) (hg : gi < g.length) (hm : timesK (rs.getD mm (-1)) (g.getD gi (-1)) ∈ ks) : TJ cm g ks rs mm key (gi + 1) := by
  refine ⟨h.1, h.2.1, by omega, fun t ht => ?_⟩
  rcases Nat.lt_or_ge t gi with q | q
  · exact h.2.2.2 t q
  · obtain rfl : t = gi := by omega
    exact hm
theorem TJ.add {cm g ks ks3 rs : List Int} {mm gi : Nat} {key : Int} (h : TJ cm g ks rs mm key gi) (hg : gi < g.length) (hgv : ∀ a ∈ g, vOK a) (hne : timesK (rs.getD mm (-1)) (g.getD gi (-1)) ≠ -1) (hx : timesK (rs.getD mm (-1)) (g.getD gi (-1)) ∉ ks) (hb : ∀ j, j < cm.length → timesK (cm.getD j (-1)) (timesK (rs.getD mm (-1)) (g.getD gi (-1))) ≠ -1)
    (hk : ∀ y, y ∈ ks3 ↔ y ∈ ks ∨ newAt cm (timesK (rs.getD mm (-1)) (g.getD gi (-1))) cm.length y) : TJ cm g ks3 (rs ++ [timesK (rs.getD mm (-1)) (g.getD gi (-1))]) mm key (gi + 1) := by
  obtain ⟨⟨hD, h1, h2, h3, h4, h5⟩, h6, h7, h8⟩ := h
  have hnx := hD.next (getD_mem h6) (getD_mem hg) (hgv _ (getD_mem hg)) hne
  have hbne : ∀ a ∈ cm, timesK a (timesK (rs.getD mm (-1)) (g.getD gi (-1))) ≠ -1 := fun a ha => by
    obtain ⟨j, hj, rfl⟩ := mem_getD ha
    exact hb j hj
  have hk2 : ∀ y, y ∈ ks3 ↔ y ∈ ks ∨ y ∈ cm.map (fun a => timesK a (timesK (rs.getD mm (-1)) (g.getD gi (-1)))) := fun y => by
    rw [hk y, ← mem_new, List.take_length]
  have hD2 := hD.add hnx.1 hx hbne (fun a ha => hnx.2 a ha (hbne a ha)) hk2
  have up : ∀ {y}, y ∈ ks → y ∈ ks3 := fun q => (hk2 _).mpr (Or.inl q)
  have at1 : ∀ i, i < rs.length → (rs ++ [timesK (rs.getD mm (-1)) (g.getD gi (-1))]).getD i (-1) = rs.getD i (-1) := fun i hi => by rw [getD_snoc, if_pos hi]
  refine ⟨⟨hD2, h1, ?_, ?_, up h4, fun i a b c hc => ?_⟩, ?_, by omega, fun t ht => ?_⟩
  · rw [List.length_append]; omega
  · rw [List.length_append]; omega
  · rw [at1 i (by omega)]; exact up (h5 i a b c hc)
  · rw [List.length_append]; omega
  · rw [at1 mm h6]
    rcases Nat.lt_or_ge t gi with q | q
    · exact up (h8 t q)
    · obtain rfl : t = gi := by omega
      refine hD2.rs_in (List.mem_append_right _ List.mem_cons_self)
theorem TJ.done {cm g ks rs : List Int} {mm gi : Nat} {key : Int} (h : TJ cm g ks rs mm key gi) (hg : g.length ≤ gi) : TI cm g ks rs (mm + 1) key := by
  obtain ⟨⟨hD, h1, h2, h3, h4, h5⟩, h6, h7, h8⟩ := h
  refine ⟨hD, by omega, by omega, h3, h4, fun i a b c hc => ?_⟩
  rcases Nat.lt_or_ge i mm with q | q
  · exact h5 i a q c hc
  · obtain rfl : i = mm := by omega
    obtain ⟨t, ht, rfl⟩ := mem_getD hc
    exact h8 t (by omega)
theorem TI.done {ks0 cm gs ks rs : List Int} {mm : Nat} {key : Int} (hc : CIv ks0 cm gs) (hkv : vOK key) (h : TI cm (gs ++ [key]) ks rs mm key) (hm : rs.length ≤ mm) (hs : ks.Pairwise (· < ·)) (hl : ks.length ≤ 192) (hlen : (cosets cm rs).length = ks.length) : CIv ks (cosets cm rs) (gs ++ [key]) := by
  obtain ⟨hD, h1, h2, h3, h4, h5⟩ := h
  have hgv : ∀ a ∈ gs ++ [key], vOK a := fun a ha => by
    rcases List.mem_append.mp ha with q | q
    · exact hc.2.2.2.2.2.1 a q
    · rw [List.mem_singleton.mp q]; exact hkv
  have hcl : ∀ r ∈ rs, ∀ a ∈ gs ++ [key], timesK r a ∈ ks := fun r hr a ha => by
    obtain ⟨i, hi, rfl⟩ := mem_getD hr
    rcases Nat.eq_zero_or_pos i with q | q
    · subst q
      rw [hD.2.2.1, u0_l (hgv a ha).1]
      rcases List.mem_append.mp ha with q | q
      · refine hD.H_in ((hc.2.2.2.1 a).mp ((hc.2.2.1.2.2.1 a).mpr ?_))
        have := Reach.step (Reach.u gs) q (by rw [u0_l (hgv a ha).1]; have := (hgv a ha).1.1; omega)
        rw [u0_l (hgv a ha).1] at this
        exact this
      · rw [List.mem_singleton.mp q]; exact h4
    · exact h5 i q (by omega) a ha
  have hgen := hD.gen hcl hs hl
  have hG := hgen.isG hgv
  refine ⟨isG_congr hG hD.2.2.2.2.2.1 hD.2.2.2.2.2.2, ?_, hgen, hD.2.2.2.2.2.2, ?_, hgv, hlen⟩
  · have := cosets_at cm hc.1.pos rs 0 (by omega)
    rw [Nat.mul_zero] at this
    rw [this, hc.2.1, hD.2.2.1, u0_l u0_ok]
  · rw [cosets_len, List.length_append, List.length_singleton, Nat.pow_succ]
    exact Nat.mul_le_mul hc.2.2.2.2.1 h3
theorem TJ.bad {cm g ks rs G : List Int} {mm gi : Nat} {key : Int} (h : TJ cm g ks rs mm key gi) (hg : gi < g.length) (hgv : ∀ a ∈ g, vOK a) (hG : genOK g G) : timesK (rs.getD mm (-1)) (g.getD gi (-1)) ∈ G := by
  have gG := hG.isG hgv
  refine gG.2.2.2 _ (h.1.1.in_gen hG (h.1.1.rs_in (getD_mem h.2.1))) _ ?_
  rw [hG.2.2.1]
  have hv := (hgv _ (getD_mem hg)).1
  have := Reach.step (Reach.u g) (getD_mem hg) (by rw [u0_l hv]; have := hv.1; omega)
  rw [u0_l hv] at this
  exact this
theorem DI.hfr {H g ks rs : List Int} (h : DI H g ks rs) {x : Int} (hv : vOK x) (hx : x ∉ ks) : ∀ j, j < H.length → timesK (H.getD j (-1)) x ≠ -1 → timesK (H.getD j (-1)) x ∉ ks := fun _ hj hn => h.fresh hv.1 hx (getD_mem hj) hn
theorem getD_nd {H : List Int} (h : H.Nodup) {i j : Nat} (hi : i < H.length) (hj : j < H.length) (e : H.getD i (-1) = H.getD j (-1)) : i = j := by
  rw [List.getD_eq_getElem?_getD, List.getD_eq_getElem?_getD, List.getElem?_eq_getElem hi, List.getElem?_eq_getElem hj] at e
  have e : H[i] = H[j] := e
  rw [List.nodup_iff_pairwise_ne, List.pairwise_iff_getElem] at h
  rcases Nat.lt_trichotomy i j with q | q | q
  · exact absurd e (h i j hi hj q)
  · exact q
  · exact absurd e.symm (h j i hj hi q)
theorem DI.hij {H g ks rs : List Int} (h : DI H g ks rs) {x : Int} (hv : vOK x) : ∀ i j, i < H.length → j < H.length → timesK (H.getD i (-1)) x ≠ -1 → timesK (H.getD i (-1)) x = timesK (H.getD j (-1)) x → i = j := fun i j hi hj hn e =>
  getD_nd h.1.1 hi hj (times_rcancel hv (h.1.2.2.1 _ (getD_mem hi)).1 (h.1.2.2.1 _ (getD_mem hj)).1 hn e)
/-- came's list behind a coset more -/
theorem cos_cmI (cm rs : List Int) (x : Int) (n : Nat) (h : ∀ j, j < n → (cosets cm rs).getD j (-1) = cm.getD j (-1)) (hn : n = cm.length) (hl : n ≤ (cosets cm rs).length) : cmI (cosets cm rs) x n = cosets cm (rs ++ [x]) := by
  rw [cosets_add]
  unfold cmI
  congr 1
  have e : (cosets cm rs).take n = cm := by
    refine list_eq_getD (by rw [List.length_take]; omega) fun j hj => ?_
    rw [List.length_take] at hj
    rw [← h j (by omega), List.getD_eq_getElem?_getD, List.getElem?_take, if_pos (by omega), List.getD_eq_getElem?_getD]
  rw [e]
theorem DI.front {H g ks rs : List Int} (h : DI H g ks rs) : ∀ j, j < H.length → (cosets H rs).getD j (-1) = H.getD j (-1) := by
  intro j hj
  have h0 := h.u
  cases hr : rs with
  | nil => rw [hr] at h0; exact absurd h0 List.not_mem_nil
  | cons r rs2 =>
    have h3 := h.2.2.1
    rw [hr] at h3
    have e : r = u0 := h3
    have e2 : cosets H (r :: rs2) = H.map (fun h => timesK h r) ++ cosets H rs2 := by unfold cosets; rw [List.flatMap_cons]
    rw [e2, getD_app, List.length_map, if_pos hj, e]
    simp only [List.getD_eq_getElem?_getD, List.getElem?_map, List.getElem?_eq_getElem hj]
    exact u0_r (h.1.2.2.1 _ (List.getElem_mem hj)).1
theorem DI.ckv {H g ks rs : List Int} (h : DI H g ks rs) : ∀ j, j < H.length → kOK ((cosets H rs).getD j (-1)) := fun j hj => by
  rw [h.front j hj]; exact (h.1.2.2.1 _ (getD_mem hj)).1
theorem DI.cfr {H g ks rs : List Int} (h : DI H g ks rs) {x : Int} (hv : vOK x) (hx : x ∉ ks) : ∀ j, j < H.length → timesK ((cosets H rs).getD j (-1)) x ≠ -1 → timesK ((cosets H rs).getD j (-1)) x ∉ ks := fun j hj => by
  rw [h.front j hj]; exact h.hfr hv hx j hj
theorem DI.cij {H g ks rs : List Int} (h : DI H g ks rs) {x : Int} (hv : vOK x) : ∀ i j, i < H.length → j < H.length → timesK ((cosets H rs).getD i (-1)) x ≠ -1 → timesK ((cosets H rs).getD i (-1)) x = timesK ((cosets H rs).getD j (-1)) x → i = j := fun i j hi hj => by
  rw [h.front i hi, h.front j hj]; exact h.hij hv i j hi hj
theorem DI.rpos {H g ks rs : List Int} (h : DI H g ks rs) : 0 < rs.length := List.length_pos_of_mem h.u
theorem DI.clen {H g ks rs : List Int} (h : DI H g ks rs) : H.length ≤ (cosets H rs).length := by
  rw [cosets_len]
  exact Nat.le_mul_of_pos_right _ h.rpos
theorem newAt_front {H g ks rs : List Int} (h : DI H g ks rs) {x y : Int} : newAt (cosets H rs) x H.length y ↔ newAt H x H.length y := by
  have hl := h.clen
  constructor
  · rintro ⟨j, a, b, e⟩
    rw [h.front j a] at e
    exact ⟨j, a, a, e⟩
  · rintro ⟨j, a, b, e⟩
    refine ⟨j, a, by omega, ?_⟩
    rw [h.front j a]; exact e
theorem cosets_u {H : List Int} (h : isG H) : cosets H [u0] = H := by
  unfold cosets
  simp only [List.flatMap_cons, List.flatMap_nil, List.append_nil]
  have e2 : H.map (fun h => timesK h u0) = H.map id := List.map_congr_left fun a ha => u0_r (h.2.2.1 a ha).1
  rw [e2, List.map_id]
theorem first_TI {ks cm gs ks2 : List Int} {key : Int} (hc : CIv ks cm gs) (hkv : vOK key) (hx : key ∉ ks) (hb : ∀ j, j < cm.length → timesK (cm.getD j (-1)) key ≠ -1) (hk : ∀ y, y ∈ ks2 ↔ y ∈ ks ∨ newAt cm key cm.length y) : TI cm (gs ++ [key]) ks2 [u0, key] 1 key ∧ cmI cm key cm.length = cosets cm [u0, key] := by
  have hD := hc.DI key
  have hbne : ∀ a ∈ cm, timesK a key ≠ -1 := fun a ha => by
    obtain ⟨j, hj, rfl⟩ := mem_getD ha
    exact hb j hj
  have hk2 : ∀ y, y ∈ ks2 ↔ y ∈ ks ∨ y ∈ cm.map (fun a => timesK a key) := fun y => by
    rw [hk y, ← mem_new, List.take_length]
  have hre : ∀ a ∈ cm, Reach (gs ++ [key]) (timesK a key) := fun a ha => by
    refine Reach.step ?_ (List.mem_append_right _ List.mem_cons_self) (hbne a ha)
    have := (hD.2.2.2.2.1 u0 List.mem_cons_self a ha).2
    rw [u0_r (hc.1.2.2.1 a ha).1] at this
    exact this
  have hD2 := hD.add hkv hx hbne hre hk2
  refine ⟨⟨hD2, Nat.le_refl _, Nat.le_add_left 1 1, Nat.le_refl 2, hD2.rs_in (List.mem_append_right _ List.mem_cons_self), fun i a b => absurd a (by omega)⟩, ?_⟩
  have e := cos_cmI cm [u0] key cm.length (fun j hj => by rw [cosets_u hc.1]) rfl (by rw [cosets_u hc.1]; exact Nat.le_refl _)
  rw [cosets_u hc.1] at e
  exact e
theorem first_bad {ks cm gs : List Int} {key : Int} (hc : CIv ks cm gs) (hkv : vOK key) (hx : key ∉ ks) (hf : (∃ j, j < cm.length ∧ timesK (cm.getD j (-1)) key = -1) ∨ 192 < cm.length + cm.length) : ¬ ∃ G, genOK (gs ++ [key]) G := by
  rintro ⟨G, hG⟩
  have hgv : ∀ a ∈ gs ++ [key], vOK a := fun a ha => by
    rcases List.mem_append.mp ha with q | q
    · exact hc.2.2.2.2.2.1 a q
    · rw [List.mem_singleton.mp q]; exact hkv
  have hkG : key ∈ G := by
    rw [hG.2.2.1]
    have := Reach.step (Reach.u (gs ++ [key])) (List.mem_append_right gs (List.mem_cons_self (a := key) (l := []))) (by rw [u0_l hkv.1]; have := hkv.1.1; omega)
    rw [u0_l hkv.1] at this
    exact this
  have hft := (hc.DI key).fit hG hgv hkG hx
  rw [cosets_u hc.1] at hft
  rcases hf with ⟨j, hj, e⟩ | hf
  · exact hft.1 _ (getD_mem hj) e
  · omega
theorem next_bad {cm g ks rs : List Int} {mm gi : Nat} {key : Int} (h : TJ cm g ks rs mm key gi) (hg : gi < g.length) (hgv : ∀ a ∈ g, vOK a) (hx : timesK (rs.getD mm (-1)) (g.getD gi (-1)) ∉ ks) (hf : (∃ j, j < cm.length ∧ timesK ((cosets cm rs).getD j (-1)) (timesK (rs.getD mm (-1)) (g.getD gi (-1))) = -1) ∨ 192 < (cosets cm rs).length + cm.length) : ¬ ∃ G, genOK g G := by
  rintro ⟨G, hG⟩
  have hft := h.1.1.fit hG hgv (h.bad hg hgv hG) hx
  rcases hf with ⟨j, hj, e⟩ | hf
  · rw [h.1.1.front j hj] at e
    exact hft.1 _ (getD_mem hj) e
  · omega
theorem next_none {cm g ks rs : List Int} {mm gi : Nat} {key : Int} (h : TJ cm g ks rs mm key gi) (hg : gi < g.length) (hgv : ∀ a ∈ g, vOK a) (hx : timesK (rs.getD mm (-1)) (g.getD gi (-1)) = -1) : ¬ ∃ G, genOK g G := by
  rintro ⟨G, hG⟩
  exact (hG.isG hgv).ne (h.bad hg hgv hG) hx
end
section
/-! Closure.take: written by wip/whole/gentake.py -/
def rmCL_take : Room := { frames := 3, cells := 0, slots := 0, locals := 106 }
set_option maxHeartbeats 4000000 in
set_option maxRecDepth 100000 in
theorem mCL_take (l : Launch) (D : va_G) (cI cG : ClassId) (cl b lf rt fr fa ca ge : Nat) (fs : Int) (ff fc : Nat → Int) (cc : Int) (fg : Nat → Int) (gc : Int) (gl gr : Nat → Int) (ks cm gs : List Int) (key : Int) (hst : CSt fs ff fc cc fg gc ks cm gs) (hci : CIv ks cm gs) (hkv : vOK key) : zI l yCL_take wCL_take rmCL_take D vwCl (zT cI cG) [.ref cl, .int (iI key)] [(cl, .inr (2, [.ref b, .ref fr, .ref ca, .int (iI cc), .ref ge, .int (iI gc)])), (b, .inr (1, [.ref lf, .ref rt])), (lf, .inl (cI, 9, .inl (zf gl))), (rt, .inl (cI, 9, .inl (zf gr))), (fr, .inr (5, [.ref fa, .int (iI fs)])), (fa, .inl (cI, 192, .inl (zf ff))), (ca, .inl (cI, 192, .inl (zf fc))), (ge, .inl (cI, 10, .inl (zf fg)))] (S := CS) (fun z u => (z = 1 ∧ ∃ ks2 cm2 gs2, CSt u.1 u.2.1 u.2.2.1 u.2.2.2.1 u.2.2.2.2.1 u.2.2.2.2.2.1 ks2 cm2 gs2 ∧ CIv ks2 cm2 gs2 ∧ key ∈ ks2 ∧ (gs2 = gs ∨ gs2 = gs ++ [key])) ∨ (z = 0 ∧ (∃ ks2, rowOK 192 u.2.1 ks2 ∧ u.1 = (ks2.length : Int)) ∧ ¬ ∃ G, genOK (gs ++ [key]) G)) (fun u => [(cl, .inr (2, [.ref b, .ref fr, .ref ca, .int (iI u.2.2.2.1), .ref ge, .int (iI u.2.2.2.2.2.1)])), (b, .inr (1, [.ref lf, .ref rt])), (lf, .inl (cI, 9, .inl (zf u.2.2.2.2.2.2.1))), (rt, .inl (cI, 9, .inl (zf u.2.2.2.2.2.2.2))), (fr, .inr (5, [.ref fa, .int (iI u.1)])), (fa, .inl (cI, 192, .inl (zf u.2.1))), (ca, .inl (cI, 192, .inl (zf u.2.2.1))), (ge, .inl (cI, 10, .inl (zf u.2.2.2.2.1)))]) := by
  refine zI.of (cc := cCL_take) (maxL := 6) (rt := .boolean) (by decide) rfl (Nat.le_of_ble_eq_true rfl) (fun z u h => by rcases h with ⟨rfl, _⟩ | ⟨rfl, _⟩ <;> decide) ?_
  intro p e s m args below meth c A ls Q hx hb hml hown hts hnm hK hD hA hAe hX hl hret H locs hP hS
  have hl : lv_has ls 6 [(0, .ref cl), (1, .int (iI key))] := hl
  have hcm := hst.2.2.2.2.1
  have hkey2 := hkv.1
  unfold kOK at hkey2
  have hgl := pow_small hci.2.2.2.2.1 hcm
  have hcp := hci.1.pos
  obtain rfl : fs = (ks.length : Int) := hst.2.1
  obtain rfl : cc = (cm.length : Int) := hst.2.2.2.1
  obtain rfl : gc = (gs.length : Int) := hst.2.2.2.2.2.2.1
  have hgv : ∀ a ∈ gs ++ [key], vOK a := fun a ha => (List.mem_append.mp ha).elim (fun q => hci.2.2.2.2.2.1 a q) (fun q => by rw [List.mem_singleton.mp q]; exact hkv)
  have hgln : (gs ++ [key]).length = gs.length + 1 := by rw [List.length_append]; rfl
  refine lv_aload_n hx hb dCL_take_0 rfl (lv_at hl 0 rfl) ?_
  refine va_get (D := D) (ci := 2) (v := .ref fr) (C := nCL) (T := fCL) (N := 6) hx hb hts iwCL hown hK hP 0 rfl rfl 1 (by decide) (hts _ (List.mem_cons_of_mem _ lkCL_14)) (fun _ h9 => h9) rfl dCL_take_1 ?_
  refine lv_iload_n hx hb dCL_take_4 rfl (lv_at hl 1 rfl) ?_
  refine zRI.back ((va_runV (As := [.int (iI key)]) (rest := []) ⟨hx, hb, hml, hown, hts⟩ (mRO_has l D cI cG fr fa 192 ff ks key hst.1 (by omega)) (cwV 1 hts (gT1 lkCL_46 (gT1 imRO_has (gT1 seRO_has (gT1 iniRO (gTW kcRO_has))))) rfl rfl rfl (by decide +kernel) ⟨Nat.le_of_ble_eq_true rfl, Nat.le_of_ble_eq_true rfl⟩) ⟨zRd_blind, va_recv hK hP (ci := 5) (q0 := 4) rfl rfl, zRd.at (wc := [(fr, .inr (5, [.ref fa, .int (iI (ks.length : Int))])), (fa, .inl (cI, 192, .inl (zf ff)))]) hK (hP.sub (ws' := [(fr, .inr (5, [.ref fa, .int (iI (ks.length : Int))])), (fa, .inl (cI, 192, .inl (zf ff)))]) [4, 5] rfl) (stF.now hX hS)⟩ rfl rfl hl.1 rfl (lv_room (Nat.le_of_ble_eq_true rfl)) dCL_take_5 ⟨Nat.le_of_ble_eq_true rfl, Nat.le_of_ble_eq_true rfl⟩).run) (fun z_5 q_5 => ?_)
  have q_5 : (z_5 = 1 ∧ key ∈ ks) ∨ (z_5 = 0 ∧ key ∉ ks) := q_5
  refine lz_if_eq (tgt := 13) hx hb dCL_take_8 (by decide) (by rcases q_5 with ⟨q, _⟩ | ⟨q, _⟩ <;> omega) (fun c_8 => ?_) (fun c_8 => ?_)
  · have hkx : key ∉ ks := by rcases q_5 with ⟨q, _⟩ | ⟨_, q⟩ <;> first | exact q | omega
    refine lv_aload_n hx hb dCL_take_13 rfl (lv_at hl 0 rfl) ?_
    refine va_get (D := D) (ci := 2) (v := .int (iI (gs.length : Int))) (C := nCL) (T := fCL) (N := 6) hx hb hts iwCL hown hK hP 0 rfl rfl 5 (by decide) (hts _ (List.mem_cons_of_mem _ lkCL_31)) (fun _ h9 => h9) rfl dCL_take_14 ?_
    refine lv_aload_n hx hb dCL_take_17 rfl (lv_at hl 0 rfl) ?_
    refine va_get (D := D) (ci := 2) (v := .ref ge) (C := nCL) (T := fCL) (N := 6) hx hb hts iwCL hown hK hP 0 rfl rfl 4 (by decide) (hts _ (List.mem_cons_of_mem _ lkCL_28)) (fun _ h9 => h9) rfl dCL_take_18 ?_
    refine lz_alen hx hb hK hP 7 0 rfl rfl dCL_take_21 ?_
    refine lz_icmp_lt (tgt := 27) hx hb dCL_take_22 (by decide) (by omega) (by omega) (fun c_22 => ?_) (fun c_22 => ?_)
    · refine lv_aload_n hx hb dCL_take_27 rfl (lv_at hl 0 rfl) ?_
      refine va_get (D := D) (ci := 2) (v := .ref ge) (C := nCL) (T := fCL) (N := 6) hx hb hts iwCL hown hK hP 0 rfl rfl 4 (by decide) (hts _ (List.mem_cons_of_mem _ lkCL_28)) (fun _ h9 => h9) rfl dCL_take_28 ?_
      refine lv_aload_n hx hb dCL_take_31 rfl (lv_at hl 0 rfl) ?_
      refine va_get (D := D) (ci := 2) (v := .int (iI (gs.length : Int))) (C := nCL) (T := fCL) (N := 6) hx hb hts iwCL hown hK hP 0 rfl rfl 5 (by decide) (hts _ (List.mem_cons_of_mem _ lkCL_31)) (fun _ h9 => h9) rfl dCL_take_32 ?_
      refine lv_iload_n hx hb dCL_take_35 rfl (lv_at hl 1 rfl) ?_
      refine lz_iask hx hb hK hP hD hS 7 0 rfl rfl (z := (gs.length : Int)) (v := key) gs.length rfl (by omega) dCL_take_36 (fun H locs hP hD hS => ?_)
      have hP : va_P D vwCl [(cl, .inr (2, [.ref b, .ref fr, .ref ca, .int (iI (cm.length : Int)), .ref ge, .int (iI (gs.length : Int))])), (b, .inr (1, [.ref lf, .ref rt])), (lf, .inl (cI, 9, .inl (zf gl))), (rt, .inl (cI, 9, .inl (zf gr))), (fr, .inr (5, [.ref fa, .int (iI (ks.length : Int))])), (fa, .inl (cI, 192, .inl (zf ff))), (ca, .inl (cI, 192, .inl (zf fc))), (ge, .inl (cI, 10, .inl (zf (zu fg gs.length key))))] H := hP
      have hD : va_D A [(cl, .inr (2, [.ref b, .ref fr, .ref ca, .int (iI (cm.length : Int)), .ref ge, .int (iI (gs.length : Int))])), (b, .inr (1, [.ref lf, .ref rt])), (lf, .inl (cI, 9, .inl (zf gl))), (rt, .inl (cI, 9, .inl (zf gr))), (fr, .inr (5, [.ref fa, .int (iI (ks.length : Int))])), (fa, .inl (cI, 192, .inl (zf ff))), (ca, .inl (cI, 192, .inl (zf fc))), (ge, .inl (cI, 10, .inl (zf (zu fg gs.length key))))] := hD
      refine lv_aload_n hx hb dCL_take_37 rfl (lv_at hl 0 rfl) ?_
      refine lv_dup hx hb dCL_take_38 rfl ?_
      refine va_get (D := D) (ci := 2) (v := .int (iI (gs.length : Int))) (C := nCL) (T := fCL) (N := 6) hx hb hts iwCL hown hK hP 0 rfl rfl 5 (by decide) (hts _ (List.mem_cons_of_mem _ lkCL_31)) (fun _ h9 => h9) rfl dCL_take_39 ?_
      refine lv_iconst (v := iI (1)) hx hb dCL_take_42 rfl ?_
      refine lz_iadd hx hb dCL_take_43 ?_
      refine va_put (D := D) (ci := 2) (v := .int (iI ((gs.length : Int) + 1))) (ty := .int) (C := nCL) (T := fCL) (N := 6) hx hb hts iwCL tCL tkCL nmCL hown hK hP hD hS 0 rfl rfl 5 (by decide) (hts _ (List.mem_cons_of_mem _ lkCL_31)) (fun _ h9 => h9) rfl (by decide +kernel) rfl rfl (Nat.le_of_ble_eq_true rfl) dCL_take_44 (fun H locs hP hD hS => ?_)
      have hP : va_P D vwCl [(cl, .inr (2, [.ref b, .ref fr, .ref ca, .int (iI (cm.length : Int)), .ref ge, .int (iI ((gs.length : Int) + 1))])), (b, .inr (1, [.ref lf, .ref rt])), (lf, .inl (cI, 9, .inl (zf gl))), (rt, .inl (cI, 9, .inl (zf gr))), (fr, .inr (5, [.ref fa, .int (iI (ks.length : Int))])), (fa, .inl (cI, 192, .inl (zf ff))), (ca, .inl (cI, 192, .inl (zf fc))), (ge, .inl (cI, 10, .inl (zf (zu fg gs.length key))))] H := hP
      have hD : va_D A [(cl, .inr (2, [.ref b, .ref fr, .ref ca, .int (iI (cm.length : Int)), .ref ge, .int (iI ((gs.length : Int) + 1))])), (b, .inr (1, [.ref lf, .ref rt])), (lf, .inl (cI, 9, .inl (zf gl))), (rt, .inl (cI, 9, .inl (zf gr))), (fr, .inr (5, [.ref fa, .int (iI (ks.length : Int))])), (fa, .inl (cI, 192, .inl (zf ff))), (ca, .inl (cI, 192, .inl (zf fc))), (ge, .inl (cI, 10, .inl (zf (zu fg gs.length key))))] := hD
      rw [show (gs.length : Int) + 1 = ((gs ++ [key]).length : Int) from by rw [hgln]; rfl] at hP hD
      have hst2 : CSt (ks.length : Int) ff fc (cm.length : Int) (zu fg gs.length key) ((gs ++ [key]).length : Int) ks cm (gs ++ [key]) := ⟨hst.1, rfl, hst.2.2.1, rfl, hcm, (fun j hj => by
        rw [getD_snoc]
        unfold zu
        rw [hgln] at hj
        by_cases q : j < gs.length
        · rw [if_neg (by omega), if_pos q]; exact hst.2.2.2.2.2.1 j q
        · rw [if_pos (by omega), if_neg q, if_pos (by omega)]), rfl, by rw [hgln]; omega, hst.2.2.2.2.2.2.2.2⟩
      refine lv_aload_n hx hb dCL_take_47 rfl (lv_at hl 0 rfl) ?_
      refine va_get (D := D) (ci := 2) (v := .int (iI (cm.length : Int))) (C := nCL) (T := fCL) (N := 6) hx hb hts iwCL hown hK hP 0 rfl rfl 3 (by decide) (hts _ (List.mem_cons_of_mem _ lkCL_24)) (fun _ h9 => h9) rfl dCL_take_48 ?_
      refine lv_iconst (v := iI (1)) hx hb dCL_take_51 rfl ?_
      refine lz_max (z := (cm.length : Int)) hx hb (by rw [hml]; exact hl.1.symm) hown (hts _ (List.mem_cons_of_mem _ lkCL_49)) (hts _ (List.mem_cons_of_mem _ smJM_max)) (hts _ (List.mem_cons_of_mem _ iniJM)) (hts _ (List.mem_cons_of_mem _ kcJM_max)) (Nat.le_of_ble_eq_true rfl) (Nat.le_of_ble_eq_true rfl) (Nat.zero_le _) (Nat.zero_le _) (by omega) (by omega) (by rw [if_neg (by omega)]) dCL_take_52 ?_
      refine lv_istore_n (lv' := [(2, .int (iI (cm.length : Int))), (0, .ref cl), (1, .int (iI key))]) hx hb dCL_take_55 rfl hl (by decide) rfl (fun ls hl => ?_)
      refine lv_aload_n hx hb dCL_take_56 rfl (lv_at hl 1 rfl) ?_
      refine lv_iload_n hx hb dCL_take_57 rfl (lv_at hl 2 rfl) ?_
      refine lv_iload_n hx hb dCL_take_58 rfl (lv_at hl 0 rfl) ?_
      refine zI.back (va_runV (As := [.int (iI key), .int (iI (cm.length : Int))]) (rest := []) ⟨hx, hb, hml, hown, hts⟩ ((mCL_addCoset l D cI cG cl b lf rt fr fa ca ge (ks.length : Int) ff fc (cm.length : Int) (zu fg gs.length key) ((gs ++ [key]).length : Int) gl gr ks cm (gs ++ [key]) key cm.length hst2 (Nat.le_refl _) (fun j hj => (hci.1.2.2.1 _ (getD_mem hj)).1) hkv.1 ((hci.DI key).hfr hkv hkx) ((hci.DI key).hij hkv)) H.size) (cwV 2 hts (gT1 lkCL_55 (gT1 imCL_addCoset (gT1 seCL_addCoset (gT1 iniCL (gTW kcCL_addCoset))))) rfl rfl rfl (by decide +kernel) ⟨Nat.le_of_ble_eq_true rfl, Nat.le_of_ble_eq_true rfl⟩) ⟨zPre_blind, va_recv hK hP (ci := 2) (q0 := 0) rfl rfl, zPre.at (wc := [(cl, .inr (2, [.ref b, .ref fr, .ref ca, .int (iI (cm.length : Int)), .ref ge, .int (iI ((gs ++ [key]).length : Int))])), (b, .inr (1, [.ref lf, .ref rt])), (lf, .inl (cI, 9, .inl (zf gl))), (rt, .inl (cI, 9, .inl (zf gr))), (fr, .inr (5, [.ref fa, .int (iI (ks.length : Int))])), (fa, .inl (cI, 192, .inl (zf ff))), (ca, .inl (cI, 192, .inl (zf fc))), (ge, .inl (cI, 10, .inl (zf (zu fg gs.length key))))]) hK hP hD hS hA hX [0, 1, 2, 3, 4, 5, 6, 7] (by decide) rfl⟩ rfl rfl hl.1 rfl (lv_room (Nat.le_of_ble_eq_true rfl)) dCL_take_59 ⟨Nat.le_of_ble_eq_true rfl, Nat.le_of_ble_eq_true rfl⟩) (wr := []) hP hD hS hA [0, 1, 2, 3, 4, 5, 6, 7] [] rfl rfl (by decide) (by decide) (fun z_59 u_59 H locs q_59 hP hD hS hz_59 hk_59 => ?_)
      obtain ⟨fs2, ff2, fc2, cc2, fg2, gc2, gl2, gr2⟩ := u_59
      have q_59 : (z_59 = 1 ∧ ∃ ks2, CSt fs2 ff2 fc2 cc2 fg2 gc2 ks2 (cmI cm key cm.length) (gs ++ [key]) ∧ (∀ j, j < cm.length → timesK (cm.getD j (-1)) key ≠ -1) ∧ ∀ y, y ∈ ks2 ↔ y ∈ ks ∨ newAt cm key cm.length y) ∨ (z_59 = 0 ∧ (∃ ks2, rowOK 192 ff2 ks2 ∧ fs2 = (ks2.length : Int)) ∧ ((∃ j, j < cm.length ∧ timesK (cm.getD j (-1)) key = -1) ∨ 192 < cm.length + cm.length)) := q_59
      have hz59 : z_59 = 0 ∨ z_59 = 1 := by rcases q_59 with ⟨q, _⟩ | ⟨q, _⟩ <;> omega
      have hP : va_P D vwCl [(cl, .inr (2, [.ref b, .ref fr, .ref ca, .int (iI cc2), .ref ge, .int (iI gc2)])), (b, .inr (1, [.ref lf, .ref rt])), (lf, .inl (cI, 9, .inl (zf gl2))), (rt, .inl (cI, 9, .inl (zf gr2))), (fr, .inr (5, [.ref fa, .int (iI fs2)])), (fa, .inl (cI, 192, .inl (zf ff2))), (ca, .inl (cI, 192, .inl (zf fc2))), (ge, .inl (cI, 10, .inl (zf fg2)))] H := hP
      have hD : va_D A [(cl, .inr (2, [.ref b, .ref fr, .ref ca, .int (iI cc2), .ref ge, .int (iI gc2)])), (b, .inr (1, [.ref lf, .ref rt])), (lf, .inl (cI, 9, .inl (zf gl2))), (rt, .inl (cI, 9, .inl (zf gr2))), (fr, .inr (5, [.ref fa, .int (iI fs2)])), (fa, .inl (cI, 192, .inl (zf ff2))), (ca, .inl (cI, 192, .inl (zf fc2))), (ge, .inl (cI, 10, .inl (zf fg2)))] := hD
      refine lz_if_ne (tgt := 67) hx hb dCL_take_62 (by decide) (by omega) (fun c_62 => ?_) (fun c_62 => ?_)
      · obtain ⟨ks2, hC2, hb2, hk2⟩ : ∃ ks2, CSt fs2 ff2 fc2 cc2 fg2 gc2 ks2 (cmI cm key cm.length) (gs ++ [key]) ∧ (∀ j, j < cm.length → timesK (cm.getD j (-1)) key ≠ -1) ∧ ∀ y, y ∈ ks2 ↔ y ∈ ks ∨ newAt cm key cm.length y := by
          rcases q_59 with ⟨_, q⟩ | ⟨q, _⟩
          · exact q
          · omega
        clear q_59
        obtain ⟨hT2, hce⟩ := first_TI hci hkv hkx hb2 hk2
        rw [hce] at hC2
        obtain rfl := hC2.2.2.2.1
        obtain rfl := hC2.2.2.2.2.2.2.1
        refine lv_iload_n hx hb dCL_take_67 rfl (lv_at hl 0 rfl) ?_
        refine lv_istore_n (lv' := [(3, .int (iI (cm.length : Int))), (2, .int (iI (cm.length : Int))), (0, .ref cl), (1, .int (iI key))]) hx hb dCL_take_68 rfl hl (by decide) rfl (fun ls hl => ?_)
        have hl : lv_has ls 6 [(3, .int (iI ((cm.length * 1 : Nat) : Int))), (2, .int (iI (cm.length : Int))), (0, .ref cl), (1, .int (iI key))] := by rw [Nat.mul_one]; exact hl
        have lp69 : ∀ (n9 : Nat) (mm : Nat) (rs : List Int) (fs3 : Int) (ff3 fc3 fg3 gl3 gr3 : Nat → Int) (ks3 : List Int), (CSt fs3 ff3 fc3 ((cosets cm rs).length : Int) fg3 ((gs ++ [key]).length : Int) ks3 (cosets cm rs) (gs ++ [key])) → (TI cm (gs ++ [key]) ks3 rs mm key) → (193 - mm) < n9 → ∀ (H : Heap) (locs : List Loc), va_P D vwCl [(cl, .inr (2, [.ref b, .ref fr, .ref ca, .int (iI ((cosets cm rs).length : Int)), .ref ge, .int (iI ((gs ++ [key]).length : Int))])), (b, .inr (1, [.ref lf, .ref rt])), (lf, .inl (cI, 9, .inl (zf gl3))), (rt, .inl (cI, 9, .inl (zf gr3))), (fr, .inr (5, [.ref fa, .int (iI fs3)])), (fa, .inl (cI, 192, .inl (zf ff3))), (ca, .inl (cI, 192, .inl (zf fc3))), (ge, .inl (cI, 10, .inl (zf fg3)))] H → va_D A [(cl, .inr (2, [.ref b, .ref fr, .ref ca, .int (iI ((cosets cm rs).length : Int)), .ref ge, .int (iI ((gs ++ [key]).length : Int))])), (b, .inr (1, [.ref lf, .ref rt])), (lf, .inl (cI, 9, .inl (zf gl3))), (rt, .inl (cI, 9, .inl (zf gr3))), (fr, .inr (5, [.ref fa, .int (iI fs3)])), (fa, .inl (cI, 192, .inl (zf ff3))), (ca, .inl (cI, 192, .inl (zf fc3))), (ge, .inl (cI, 10, .inl (zf fg3)))] → va_S A s.heap H locs → ∀ (ls : Array Slot), lv_has ls 6 [(0, .ref cl), (1, .int (iI key)), (2, .int (iI (cm.length : Int))), (3, .int (iI ((cm.length * mm : Nat) : Int)))] → W p l e (headSpec wCL_take rmCL_take).room s m args below meth c H locs 0 0 Q (F0 m 69 ls []) := by
          intro n9
          induction n9 with
          | zero => intro mm rs fs3 ff3 fc3 fg3 gl3 gr3 ks3 hC3 hT3 hm; exact absurd hm (Nat.not_lt_zero _)
          | succ n9 ih69 =>
            intro mm rs fs3 ff3 fc3 fg3 gl3 gr3 ks3 hC3 hT3 hm69 H locs hP hD hS ls hl
            have hcl3 := hC3.2.2.2.2.1
            have hmr2 := hT3.2.2.1
            have hml3 : cm.length * mm ≤ (cosets cm rs).length := by rw [cosets_len]; exact Nat.mul_le_mul_left _ hmr2
            have hmm9 : mm ≤ cm.length * mm := Nat.le_mul_of_pos_left _ hcp
            refine lv_iload_n hx hb dCL_take_69 rfl (lv_at hl 3 rfl) ?_
            refine lv_aload_n hx hb dCL_take_70 rfl (lv_at hl 0 rfl) ?_
            refine va_get (D := D) (ci := 2) (v := .int (iI ((cosets cm rs).length : Int))) (C := nCL) (T := fCL) (N := 6) hx hb hts iwCL hown hK hP 0 rfl rfl 3 (by decide) (hts _ (List.mem_cons_of_mem _ lkCL_24)) (fun _ h9 => h9) rfl dCL_take_71 ?_
            refine lz_icmp_ge (tgt := 160) hx hb dCL_take_74 (by decide) (by omega) (by omega) (fun c_74 => ?_) (fun c_74 => ?_)
            · have hmr : rs.length ≤ mm := by
                rcases Nat.lt_or_ge mm rs.length with q | q
                · have := Nat.mul_lt_mul_of_pos_left q hcp
                  rw [cosets_len] at c_74
                  omega
                · exact q
              refine lv_iconst (v := iI (1)) hx hb dCL_take_160 rfl ?_
              exact hret H locs 0 0 161 ls 1 (fs3, ff3, fc3, ((cosets cm rs).length : Int), fg3, ((gs ++ [key]).length : Int), gl3, gr3) (Or.inl ⟨rfl, ks3, cosets cm rs, gs ++ [key], hC3, hT3.done hci hkv hmr hC3.1.2.2.2.1 hC3.1.1 hC3.2.2.2.2.2.2.2.2, hT3.2.2.2.2.1, Or.inr rfl⟩) (hP.sub [0, 1, 2, 3, 4, 5, 6, 7] rfl) (hD.sub [0, 1, 2, 3, 4, 5, 6, 7] (by decide) rfl) hS (Nat.zero_le _) (Nat.zero_le _) dCL_take_161
            · have hmr : mm < rs.length := by
                rcases Nat.lt_or_ge mm rs.length with q | q
                · exact q
                · have := Nat.mul_le_mul_left cm.length q
                  rw [cosets_len] at c_74
                  omega
              have hcl3 := hC3.2.2.2.2.1
              refine lv_iload_n hx hb dCL_take_77 rfl (lv_at hl 3 rfl) ?_
              refine lv_sipush (v := iI (192)) hx hb dCL_take_78 (by decide) ?_
              refine lz_icmp_ge (tgt := 160) hx hb dCL_take_81 (by decide) (by omega) (by omega) (fun c_81 => ?_) (fun c_81 => ?_)
              · exact absurd c_81 (by omega)
              · refine lv_iconst (v := iI (0)) hx hb dCL_take_84 rfl ?_
                refine lv_istore (lv' := [(4, .int (iI 0)), (0, .ref cl), (1, .int (iI key)), (2, .int (iI (cm.length : Int))), (3, .int (iI ((cm.length * mm : Nat) : Int)))]) hx hb dCL_take_85 hl (by decide) rfl (fun ls hl => ?_)
                have lp87 : ∀ (n9 : Nat) (gi : Nat) (rs : List Int) (fs4 : Int) (ff4 fc4 fg4 gl4 gr4 : Nat → Int) (ks4 : List Int), (CSt fs4 ff4 fc4 ((cosets cm rs).length : Int) fg4 ((gs ++ [key]).length : Int) ks4 (cosets cm rs) (gs ++ [key])) → (TJ cm (gs ++ [key]) ks4 rs mm key gi) → ((gs ++ [key]).length - gi) < n9 → ∀ (H : Heap) (locs : List Loc), va_P D vwCl [(cl, .inr (2, [.ref b, .ref fr, .ref ca, .int (iI ((cosets cm rs).length : Int)), .ref ge, .int (iI ((gs ++ [key]).length : Int))])), (b, .inr (1, [.ref lf, .ref rt])), (lf, .inl (cI, 9, .inl (zf gl4))), (rt, .inl (cI, 9, .inl (zf gr4))), (fr, .inr (5, [.ref fa, .int (iI fs4)])), (fa, .inl (cI, 192, .inl (zf ff4))), (ca, .inl (cI, 192, .inl (zf fc4))), (ge, .inl (cI, 10, .inl (zf fg4)))] H → va_D A [(cl, .inr (2, [.ref b, .ref fr, .ref ca, .int (iI ((cosets cm rs).length : Int)), .ref ge, .int (iI ((gs ++ [key]).length : Int))])), (b, .inr (1, [.ref lf, .ref rt])), (lf, .inl (cI, 9, .inl (zf gl4))), (rt, .inl (cI, 9, .inl (zf gr4))), (fr, .inr (5, [.ref fa, .int (iI fs4)])), (fa, .inl (cI, 192, .inl (zf ff4))), (ca, .inl (cI, 192, .inl (zf fc4))), (ge, .inl (cI, 10, .inl (zf fg4)))] → va_S A s.heap H locs → ∀ (ls : Array Slot), lv_has ls 6 [(0, .ref cl), (1, .int (iI key)), (2, .int (iI (cm.length : Int))), (3, .int (iI ((cm.length * mm : Nat) : Int))), (4, .int (iI (gi : Int)))] → W p l e (headSpec wCL_take rmCL_take).room s m args below meth c H locs 0 0 Q (F0 m 87 ls []) := by
                  intro n9
                  induction n9 with
                  | zero => intro gi rs fs4 ff4 fc4 fg4 gl4 gr4 ks4 hC4 hT4 hm; exact absurd hm (Nat.not_lt_zero _)
                  | succ n9 ih87 =>
                    intro gi rs fs4 ff4 fc4 fg4 gl4 gr4 ks4 hC4 hT4 hm87 H locs hP hD hS ls hl
                    have hgi9 := hT4.2.2.1
                    refine lv_iload hx hb dCL_take_87 (lv_at hl 4 rfl) ?_
                    refine lv_aload_n hx hb dCL_take_89 rfl (lv_at hl 0 rfl) ?_
                    refine va_get (D := D) (ci := 2) (v := .int (iI ((gs ++ [key]).length : Int))) (C := nCL) (T := fCL) (N := 6) hx hb hts iwCL hown hK hP 0 rfl rfl 5 (by decide) (hts _ (List.mem_cons_of_mem _ lkCL_31)) (fun _ h9 => h9) rfl dCL_take_90 ?_
                    refine lz_icmp_ge (tgt := 153) hx hb dCL_take_93 (by decide) (by omega) (by omega) (fun c_93 => ?_) (fun c_93 => ?_)
                    · refine lv_iload_n hx hb dCL_take_153 rfl (lv_at hl 3 rfl) ?_
                      refine lv_iload_n hx hb dCL_take_154 rfl (lv_at hl 2 rfl) ?_
                      refine lz_iadd hx hb dCL_take_155 ?_
                      refine lv_istore_n (lv' := [(3, .int (iI (((cm.length * mm : Nat) : Int) + (cm.length : Int)))), (0, .ref cl), (1, .int (iI key)), (2, .int (iI (cm.length : Int))), (4, .int (iI (gi : Int)))]) hx hb dCL_take_156 rfl hl (by decide) rfl (fun ls hl => ?_)
                      refine lv_goto (tgt := 69) hx hb dCL_take_157 (by decide) ?_
                      rw [show ((cm.length * mm : Nat) : Int) + (cm.length : Int) = ((cm.length * (mm + 1) : Nat) : Int) from by rw [Nat.mul_succ]; omega] at hl
                      exact ih69 (mm + 1) rs fs4 ff4 fc4 fg4 gl4 gr4 ks4 hC4 (hT4.done (by omega)) (by omega) _ _ (hP.sub [0, 1, 2, 3, 4, 5, 6, 7] rfl) (hD.sub [0, 1, 2, 3, 4, 5, 6, 7] (by decide) rfl) hS _ (lv_sub hl [1, 2, 3, 0] rfl)
                    · have hgi : gi < (gs ++ [key]).length := by omega
                      have hcl4 := hC4.2.2.2.2.1
                      have hm4 := hT4.2.1
                      have hix : cm.length * mm < (cosets cm rs).length := by rw [cosets_len]; exact Nat.mul_lt_mul_of_pos_left hm4 hcp
                      have hgk := (hgv _ (getD_mem hgi)).1
                      have hrk := (hT4.1.1.2.2.2.1 _ (getD_mem hm4)).1
                      refine lv_aload_n hx hb dCL_take_96 rfl (lv_at hl 0 rfl) ?_
                      refine va_get (D := D) (ci := 2) (v := .ref b) (C := nCL) (T := fCL) (N := 6) hx hb hts iwCL hown hK hP 0 rfl rfl 0 (by decide) (hts _ (List.mem_cons_of_mem _ lkCL_34)) (fun _ h9 => h9) rfl dCL_take_97 ?_
                      refine lv_aload_n hx hb dCL_take_100 rfl (lv_at hl 0 rfl) ?_
                      refine va_get (D := D) (ci := 2) (v := .ref ca) (C := nCL) (T := fCL) (N := 6) hx hb hts iwCL hown hK hP 0 rfl rfl 2 (by decide) (hts _ (List.mem_cons_of_mem _ lkCL_20)) (fun _ h9 => h9) rfl dCL_take_101 ?_
                      refine lv_iload_n hx hb dCL_take_104 rfl (lv_at hl 3 rfl) ?_
                      refine lz_iald hx hb hK hP 6 0 rfl rfl (z := ((cm.length * mm : Nat) : Int)) (by omega) dCL_take_105 ?_
                      refine lz_as (x := fc4 (((cm.length * mm : Nat) : Int)).toNat) (y := rs.getD mm (-1)) (by rw [show ((cm.length * mm : Nat) : Int).toNat = cm.length * mm by omega, hC4.2.2.1 _ hix, cosets_at cm hcp rs mm hm4, hci.2.1, u0_l hrk]) ?_
                      refine lv_aload_n hx hb dCL_take_106 rfl (lv_at hl 0 rfl) ?_
                      refine lv_iload hx hb dCL_take_107 (lv_at hl 4 rfl) ?_
                      refine zRI.back ((va_runV (As := [.int (iI (gi : Int))]) (rest := [.int (iI (rs.getD mm (-1))), .ref b]) ⟨hx, hb, hml, hown, hts⟩ (mCL_generator l D cI cG cl b lf rt fr fa ca ge ((cosets cm rs).length : Int) fg4 (gs ++ [key]) (gi : Int) hC4.2.2.2.2.2.1 (by omega) (by omega)) (cwV 1 hts (gT1 lkCL_59 (gT1 imCL_generator (gT1 seCL_generator (gT1 iniCL (gTW kcCL_generator))))) rfl rfl rfl (by decide +kernel) ⟨Nat.le_of_ble_eq_true rfl, Nat.le_of_ble_eq_true rfl⟩) ⟨zRd_blind, va_recv hK hP (ci := 2) (q0 := 0) rfl rfl, zRd.at (wc := [(cl, .inr (2, [.ref b, .ref fr, .ref ca, .int (iI ((cosets cm rs).length : Int)), .ref ge, .int (iI ((gs ++ [key]).length : Int))])), (ge, .inl (cI, 10, .inl (zf fg4)))]) hK (hP.sub (ws' := [(cl, .inr (2, [.ref b, .ref fr, .ref ca, .int (iI ((cosets cm rs).length : Int)), .ref ge, .int (iI ((gs ++ [key]).length : Int))])), (ge, .inl (cI, 10, .inl (zf fg4)))]) [0, 7] rfl) (stF.now hX hS)⟩ rfl rfl hl.1 rfl (lv_room (Nat.le_of_ble_eq_true rfl)) dCL_take_109 ⟨Nat.le_of_ble_eq_true rfl, Nat.le_of_ble_eq_true rfl⟩).run) (fun z_109 q_109 => ?_)
                      obtain rfl : z_109 = (gs ++ [key]).getD gi (-1) := by have q_109 : z_109 = lat (gs ++ [key]) (gi : Int) := q_109; rw [q_109]; exact (lat_in (by omega) (by omega)).1
                      refine zI.back (va_runV (As := [.int (iI (rs.getD mm (-1))), .int (iI ((gs ++ [key]).getD gi (-1)))]) (rest := []) ⟨hx, hb, hml, hown, hts⟩ ((mBE_times l D cI cG b lf rt gl4 gr4 (rs.getD mm (-1)) ((gs ++ [key]).getD gi (-1)) hrk hgk) H.size) (cwV 2 hts (gT1 lkCL_63 (gT1 imBE_times (gT1 seBE_times (gT1 iniBE (gTW kcBE_times))))) rfl rfl rfl (by decide +kernel) ⟨Nat.le_of_ble_eq_true rfl, Nat.le_of_ble_eq_true rfl⟩) ⟨zPre_blind, va_recv hK hP (ci := 1) (q0 := 1) rfl rfl, zPre.at (wc := [(b, .inr (1, [.ref lf, .ref rt])), (lf, .inl (cI, 9, .inl (zf gl4))), (rt, .inl (cI, 9, .inl (zf gr4)))]) hK hP hD hS hA hX [1, 2, 3] (by decide) rfl⟩ rfl rfl hl.1 rfl (lv_room (Nat.le_of_ble_eq_true rfl)) dCL_take_112 ⟨Nat.le_of_ble_eq_true rfl, Nat.le_of_ble_eq_true rfl⟩) (wr := [(cl, .inr (2, [.ref b, .ref fr, .ref ca, .int (iI ((cosets cm rs).length : Int)), .ref ge, .int (iI ((gs ++ [key]).length : Int))])), (fr, .inr (5, [.ref fa, .int (iI fs4)])), (fa, .inl (cI, 192, .inl (zf ff4))), (ca, .inl (cI, 192, .inl (zf fc4))), (ge, .inl (cI, 10, .inl (zf fg4)))]) hP hD hS hA [1, 2, 3] [0, 4, 5, 6, 7] rfl rfl (by decide) (by decide) (fun z_112 u_112 H locs q_112 hP hD hS hz_112 hk_112 => ?_)
                      obtain rfl : z_112 = timesK (rs.getD mm (-1)) ((gs ++ [key]).getD gi (-1)) := q_112
                      have hP : va_P D vwCl [(cl, .inr (2, [.ref b, .ref fr, .ref ca, .int (iI ((cosets cm rs).length : Int)), .ref ge, .int (iI ((gs ++ [key]).length : Int))])), (fr, .inr (5, [.ref fa, .int (iI fs4)])), (fa, .inl (cI, 192, .inl (zf ff4))), (ca, .inl (cI, 192, .inl (zf fc4))), (ge, .inl (cI, 10, .inl (zf fg4))), (b, .inr (1, [.ref lf, .ref rt])), (lf, .inl (cI, 9, .inl (zf (rd (rs.getD mm (-1)) gl4)))), (rt, .inl (cI, 9, .inl (zf (rd ((gs ++ [key]).getD gi (-1)) gr4))))] H := hP
                      have hD : va_D A [(cl, .inr (2, [.ref b, .ref fr, .ref ca, .int (iI ((cosets cm rs).length : Int)), .ref ge, .int (iI ((gs ++ [key]).length : Int))])), (fr, .inr (5, [.ref fa, .int (iI fs4)])), (fa, .inl (cI, 192, .inl (zf ff4))), (ca, .inl (cI, 192, .inl (zf fc4))), (ge, .inl (cI, 10, .inl (zf fg4))), (b, .inr (1, [.ref lf, .ref rt])), (lf, .inl (cI, 9, .inl (zf (rd (rs.getD mm (-1)) gl4)))), (rt, .inl (cI, 9, .inl (zf (rd ((gs ++ [key]).getD gi (-1)) gr4))))] := hD
                      refine lv_istore (lv' := [(5, .int (iI (timesK (rs.getD mm (-1)) ((gs ++ [key]).getD gi (-1))))), (0, .ref cl), (1, .int (iI key)), (2, .int (iI (cm.length : Int))), (3, .int (iI ((cm.length * mm : Nat) : Int))), (4, .int (iI (gi : Int)))]) hx hb dCL_take_115 hl (by decide) rfl (fun ls hl => ?_)
                      refine lv_iload hx hb dCL_take_117 (lv_at hl 0 rfl) ?_
                      refine lv_iconst (v := iI (-1)) hx hb dCL_take_119 rfl ?_
                      refine lz_icmp_eq (tgt := 145) hx hb dCL_take_120 (by decide) (by have := times_bd (rs.getD mm (-1)) ((gs ++ [key]).getD gi (-1)); omega) (by omega) (fun c_120 => ?_) (fun c_120 => ?_)
                      · have hbad := next_none hT4 hgi hgv c_120
                        refine lv_iconst (v := iI (0)) hx hb dCL_take_145 rfl ?_
                        exact hret H locs 0 0 146 ls 0 (fs4, ff4, fc4, ((cosets cm rs).length : Int), fg4, ((gs ++ [key]).length : Int), rd (rs.getD mm (-1)) gl4, rd ((gs ++ [key]).getD gi (-1)) gr4) (Or.inr ⟨rfl, ⟨ks4, hC4.1, hC4.2.1⟩, hbad⟩) (hP.sub [0, 5, 6, 7, 1, 2, 3, 4] rfl) (hD.sub [0, 5, 6, 7, 1, 2, 3, 4] (by decide) rfl) hS (Nat.zero_le _) (Nat.zero_le _) dCL_take_146
                      · have hnx := hT4.1.1.next (getD_mem hm4) (getD_mem hgi) (hgv _ (getD_mem hgi)) c_120
                        obtain rfl : fs4 = (ks4.length : Int) := hC4.2.1
                        refine lv_aload_n hx hb dCL_take_123 rfl (lv_at hl 1 rfl) ?_
                        refine va_get (D := D) (ci := 2) (v := .ref fr) (C := nCL) (T := fCL) (N := 6) hx hb hts iwCL hown hK hP 0 rfl rfl 1 (by decide) (hts _ (List.mem_cons_of_mem _ lkCL_14)) (fun _ h9 => h9) rfl dCL_take_124 ?_
                        refine lv_iload hx hb dCL_take_127 (lv_at hl 0 rfl) ?_
                        refine zRI.back ((va_runV (As := [.int (iI (timesK (rs.getD mm (-1)) ((gs ++ [key]).getD gi (-1))))]) (rest := []) ⟨hx, hb, hml, hown, hts⟩ (mRO_has l D cI cG fr fa 192 ff4 ks4 (timesK (rs.getD mm (-1)) ((gs ++ [key]).getD gi (-1))) hC4.1 (by have := times_bd (rs.getD mm (-1)) ((gs ++ [key]).getD gi (-1)); omega)) (cwV 1 hts (gT1 lkCL_46 (gT1 imRO_has (gT1 seRO_has (gT1 iniRO (gTW kcRO_has))))) rfl rfl rfl (by decide +kernel) ⟨Nat.le_of_ble_eq_true rfl, Nat.le_of_ble_eq_true rfl⟩) ⟨zRd_blind, va_recv hK hP (ci := 5) (q0 := 1) rfl rfl, zRd.at (wc := [(fr, .inr (5, [.ref fa, .int (iI (ks4.length : Int))])), (fa, .inl (cI, 192, .inl (zf ff4)))]) hK (hP.sub (ws' := [(fr, .inr (5, [.ref fa, .int (iI (ks4.length : Int))])), (fa, .inl (cI, 192, .inl (zf ff4)))]) [1, 2] rfl) (stF.now hX hS)⟩ rfl rfl hl.1 rfl (lv_room (Nat.le_of_ble_eq_true rfl)) dCL_take_129 ⟨Nat.le_of_ble_eq_true rfl, Nat.le_of_ble_eq_true rfl⟩).run) (fun z_129 q_129 => ?_)
                        have q_129 : (z_129 = 1 ∧ timesK (rs.getD mm (-1)) ((gs ++ [key]).getD gi (-1)) ∈ ks4) ∨ (z_129 = 0 ∧ timesK (rs.getD mm (-1)) ((gs ++ [key]).getD gi (-1)) ∉ ks4) := q_129
                        refine lz_if_ne (tgt := 147) hx hb dCL_take_132 (by decide) (by rcases q_129 with ⟨q, _⟩ | ⟨q, _⟩ <;> omega) (fun c_132 => ?_) (fun c_132 => ?_)
                        · have hin4 : timesK (rs.getD mm (-1)) ((gs ++ [key]).getD gi (-1)) ∈ ks4 := by rcases q_129 with ⟨_, q⟩ | ⟨q, _⟩ <;> first | exact q | omega
                          refine lz_iinc (lv' := [(4, .int (iI ((gi : Int) + 1))), (5, .int (iI (timesK (rs.getD mm (-1)) ((gs ++ [key]).getD gi (-1))))), (0, .ref cl), (1, .int (iI key)), (2, .int (iI (cm.length : Int))), (3, .int (iI ((cm.length * mm : Nat) : Int)))]) hx hb dCL_take_147 hl (k := 5) rfl (by decide) rfl (fun ls hl => ?_)
                          refine lv_goto (tgt := 87) hx hb dCL_take_150 (by decide) ?_
                          exact ih87 (gi + 1) rs (ks4.length : Int) ff4 fc4 fg4 (rd (rs.getD mm (-1)) gl4) (rd ((gs ++ [key]).getD gi (-1)) gr4) ks4 hC4 (hT4.has (by omega) hin4) (by omega) _ _ (hP.sub [0, 5, 6, 7, 1, 2, 3, 4] rfl) (hD.sub [0, 5, 6, 7, 1, 2, 3, 4] (by decide) rfl) hS _ (lv_sub hl [2, 3, 4, 5, 0] rfl)
                        · have hin4 : timesK (rs.getD mm (-1)) ((gs ++ [key]).getD gi (-1)) ∉ ks4 := by rcases q_129 with ⟨q, _⟩ | ⟨_, q⟩ <;> first | exact q | omega
                          refine lv_aload_n hx hb dCL_take_135 rfl (lv_at hl 1 rfl) ?_
                          refine lv_iload hx hb dCL_take_136 (lv_at hl 0 rfl) ?_
                          refine lv_iload_n hx hb dCL_take_138 rfl (lv_at hl 3 rfl) ?_
                          refine zI.back (va_runV (As := [.int (iI (timesK (rs.getD mm (-1)) ((gs ++ [key]).getD gi (-1)))), .int (iI (cm.length : Int))]) (rest := []) ⟨hx, hb, hml, hown, hts⟩ ((mCL_addCoset l D cI cG cl b lf rt fr fa ca ge (ks4.length : Int) ff4 fc4 ((cosets cm rs).length : Int) fg4 ((gs ++ [key]).length : Int) (rd (rs.getD mm (-1)) gl4) (rd ((gs ++ [key]).getD gi (-1)) gr4) ks4 (cosets cm rs) (gs ++ [key]) (timesK (rs.getD mm (-1)) ((gs ++ [key]).getD gi (-1))) cm.length hC4 hT4.1.1.clen hT4.1.1.ckv hnx.1.1 (hT4.1.1.cfr hnx.1 hin4) (hT4.1.1.cij hnx.1)) H.size) (cwV 2 hts (gT1 lkCL_55 (gT1 imCL_addCoset (gT1 seCL_addCoset (gT1 iniCL (gTW kcCL_addCoset))))) rfl rfl rfl (by decide +kernel) ⟨Nat.le_of_ble_eq_true rfl, Nat.le_of_ble_eq_true rfl⟩) ⟨zPre_blind, va_recv hK hP (ci := 2) (q0 := 0) rfl rfl, zPre.at (wc := [(cl, .inr (2, [.ref b, .ref fr, .ref ca, .int (iI ((cosets cm rs).length : Int)), .ref ge, .int (iI ((gs ++ [key]).length : Int))])), (b, .inr (1, [.ref lf, .ref rt])), (lf, .inl (cI, 9, .inl (zf (rd (rs.getD mm (-1)) gl4)))), (rt, .inl (cI, 9, .inl (zf (rd ((gs ++ [key]).getD gi (-1)) gr4)))), (fr, .inr (5, [.ref fa, .int (iI (ks4.length : Int))])), (fa, .inl (cI, 192, .inl (zf ff4))), (ca, .inl (cI, 192, .inl (zf fc4))), (ge, .inl (cI, 10, .inl (zf fg4)))]) hK hP hD hS hA hX [0, 5, 6, 7, 1, 2, 3, 4] (by decide) rfl⟩ rfl rfl hl.1 rfl (lv_room (Nat.le_of_ble_eq_true rfl)) dCL_take_139 ⟨Nat.le_of_ble_eq_true rfl, Nat.le_of_ble_eq_true rfl⟩) (wr := []) hP hD hS hA [0, 5, 6, 7, 1, 2, 3, 4] [] rfl rfl (by decide) (by decide) (fun z_139 u_139 H locs q_139 hP hD hS hz_139 hk_139 => ?_)
                          obtain ⟨fs5, ff5, fc5, cc5, fg5, gc5, gl5, gr5⟩ := u_139
                          have q_139 : (z_139 = 1 ∧ ∃ ks5, CSt fs5 ff5 fc5 cc5 fg5 gc5 ks5 (cmI (cosets cm rs) (timesK (rs.getD mm (-1)) ((gs ++ [key]).getD gi (-1))) cm.length) (gs ++ [key]) ∧ (∀ j, j < cm.length → timesK ((cosets cm rs).getD j (-1)) (timesK (rs.getD mm (-1)) ((gs ++ [key]).getD gi (-1))) ≠ -1) ∧ ∀ y, y ∈ ks5 ↔ y ∈ ks4 ∨ newAt (cosets cm rs) (timesK (rs.getD mm (-1)) ((gs ++ [key]).getD gi (-1))) cm.length y) ∨ (z_139 = 0 ∧ (∃ ks2, rowOK 192 ff5 ks2 ∧ fs5 = (ks2.length : Int)) ∧ ((∃ j, j < cm.length ∧ timesK ((cosets cm rs).getD j (-1)) (timesK (rs.getD mm (-1)) ((gs ++ [key]).getD gi (-1))) = -1) ∨ 192 < (cosets cm rs).length + cm.length)) := q_139
                          have hz139 : z_139 = 0 ∨ z_139 = 1 := by rcases q_139 with ⟨q, _⟩ | ⟨q, _⟩ <;> omega
                          have hP : va_P D vwCl [(cl, .inr (2, [.ref b, .ref fr, .ref ca, .int (iI cc5), .ref ge, .int (iI gc5)])), (b, .inr (1, [.ref lf, .ref rt])), (lf, .inl (cI, 9, .inl (zf gl5))), (rt, .inl (cI, 9, .inl (zf gr5))), (fr, .inr (5, [.ref fa, .int (iI fs5)])), (fa, .inl (cI, 192, .inl (zf ff5))), (ca, .inl (cI, 192, .inl (zf fc5))), (ge, .inl (cI, 10, .inl (zf fg5)))] H := hP
                          have hD : va_D A [(cl, .inr (2, [.ref b, .ref fr, .ref ca, .int (iI cc5), .ref ge, .int (iI gc5)])), (b, .inr (1, [.ref lf, .ref rt])), (lf, .inl (cI, 9, .inl (zf gl5))), (rt, .inl (cI, 9, .inl (zf gr5))), (fr, .inr (5, [.ref fa, .int (iI fs5)])), (fa, .inl (cI, 192, .inl (zf ff5))), (ca, .inl (cI, 192, .inl (zf fc5))), (ge, .inl (cI, 10, .inl (zf fg5)))] := hD
                          refine lz_if_ne (tgt := 147) hx hb dCL_take_142 (by decide) (by omega) (fun c_142 => ?_) (fun c_142 => ?_)
                          · obtain ⟨ks5, hC5, hb5, hk5⟩ : ∃ ks5, CSt fs5 ff5 fc5 cc5 fg5 gc5 ks5 (cmI (cosets cm rs) (timesK (rs.getD mm (-1)) ((gs ++ [key]).getD gi (-1))) cm.length) (gs ++ [key]) ∧ (∀ j, j < cm.length → timesK ((cosets cm rs).getD j (-1)) (timesK (rs.getD mm (-1)) ((gs ++ [key]).getD gi (-1))) ≠ -1) ∧ ∀ y, y ∈ ks5 ↔ y ∈ ks4 ∨ newAt (cosets cm rs) (timesK (rs.getD mm (-1)) ((gs ++ [key]).getD gi (-1))) cm.length y := by
                              rcases q_139 with ⟨_, q⟩ | ⟨q, _⟩
                              · exact q
                              · omega
                            clear q_139
                            rw [cos_cmI cm rs _ cm.length hT4.1.1.front rfl hT4.1.1.clen] at hC5
                            obtain rfl := hC5.2.2.2.1
                            obtain rfl := hC5.2.2.2.2.2.2.1
                            have hT5 := hT4.add hgi hgv c_120 hin4 (fun j hj => by rw [← hT4.1.1.front j hj]; exact hb5 j hj) (fun y => by rw [hk5 y, newAt_front hT4.1.1])
                            refine lz_iinc (lv' := [(4, .int (iI ((gi : Int) + 1))), (5, .int (iI (timesK (rs.getD mm (-1)) ((gs ++ [key]).getD gi (-1))))), (0, .ref cl), (1, .int (iI key)), (2, .int (iI (cm.length : Int))), (3, .int (iI ((cm.length * mm : Nat) : Int)))]) hx hb dCL_take_147 hl (k := 5) rfl (by decide) rfl (fun ls hl => ?_)
                            refine lv_goto (tgt := 87) hx hb dCL_take_150 (by decide) ?_
                            exact ih87 (gi + 1) (rs ++ [timesK (rs.getD mm (-1)) ((gs ++ [key]).getD gi (-1))]) fs5 ff5 fc5 fg5 gl5 gr5 ks5 hC5 hT5 (by omega) _ _ (hP.sub [0, 1, 2, 3, 4, 5, 6, 7] rfl) (hD.sub [0, 1, 2, 3, 4, 5, 6, 7] (by decide) rfl) hS _ (lv_sub hl [2, 3, 4, 5, 0] rfl)
                          · obtain ⟨hr5, hf5⟩ : (∃ ks2, rowOK 192 ff5 ks2 ∧ fs5 = (ks2.length : Int)) ∧ ((∃ j, j < cm.length ∧ timesK ((cosets cm rs).getD j (-1)) (timesK (rs.getD mm (-1)) ((gs ++ [key]).getD gi (-1))) = -1) ∨ 192 < (cosets cm rs).length + cm.length) := by
                              rcases q_139 with ⟨q, _⟩ | ⟨_, q⟩
                              · omega
                              · exact q
                            have hbad := next_bad hT4 hgi hgv hin4 hf5
                            refine lv_iconst (v := iI (0)) hx hb dCL_take_145 rfl ?_
                            exact hret H locs 0 0 146 ls 0 (fs5, ff5, fc5, cc5, fg5, gc5, gl5, gr5) (Or.inr ⟨rfl, hr5, hbad⟩) (hP.sub [0, 1, 2, 3, 4, 5, 6, 7] rfl) (hD.sub [0, 1, 2, 3, 4, 5, 6, 7] (by decide) rfl) hS (Nat.zero_le _) (Nat.zero_le _) dCL_take_146
                exact lp87 _ 0 rs fs3 ff3 fc3 fg3 gl3 gr3 ks3 hC3 ⟨hT3, hmr, Nat.zero_le _, fun t ht => absurd ht (Nat.not_lt_zero _)⟩ (Nat.lt_succ_self _) _ _ (hP.sub [0, 1, 2, 3, 4, 5, 6, 7] rfl) (hD.sub [0, 1, 2, 3, 4, 5, 6, 7] (by decide) rfl) hS _ (lv_sub hl [1, 2, 3, 4, 0] rfl)
        exact lp69 _ 1 ([u0, key]) fs2 ff2 fc2 fg2 gl2 gr2 ks2 hC2 hT2 (Nat.lt_succ_self _) _ _ (hP.sub [0, 1, 2, 3, 4, 5, 6, 7] rfl) (hD.sub [0, 1, 2, 3, 4, 5, 6, 7] (by decide) rfl) hS _ (lv_sub hl [2, 3, 1, 0] rfl)
      · obtain ⟨hr2, hf2⟩ : (∃ ks2, rowOK 192 ff2 ks2 ∧ fs2 = (ks2.length : Int)) ∧ ((∃ j, j < cm.length ∧ timesK (cm.getD j (-1)) key = -1) ∨ 192 < cm.length + cm.length) := by
          rcases q_59 with ⟨q, _⟩ | ⟨_, q⟩
          · omega
          · exact q
        refine lv_iconst (v := iI (0)) hx hb dCL_take_65 rfl ?_
        exact hret H locs 0 0 66 ls 0 (fs2, ff2, fc2, cc2, fg2, gc2, gl2, gr2) (Or.inr ⟨rfl, hr2, first_bad hci hkv hkx hf2⟩) (hP.sub [0, 1, 2, 3, 4, 5, 6, 7] rfl) (hD.sub [0, 1, 2, 3, 4, 5, 6, 7] (by decide) rfl) hS (Nat.zero_le _) (Nat.zero_le _) dCL_take_66
    · exact absurd c_22 (by omega)
  · have hkx : key ∈ ks := by rcases q_5 with ⟨_, q⟩ | ⟨q, _⟩ <;> first | exact q | omega
    refine lv_iconst (v := iI (1)) hx hb dCL_take_11 rfl ?_
    exact hret H locs 0 0 12 ls 1 ((ks.length : Int), ff, fc, (cm.length : Int), fg, (gs.length : Int), gl, gr) (Or.inl ⟨rfl, ks, cm, gs, hst, hci, hkx, Or.inl rfl⟩) (hP.sub [0, 1, 2, 3, 4, 5, 6, 7] rfl) (hD.sub [0, 1, 2, 3, 4, 5, 6, 7] (by decide) rfl) hS (Nat.zero_le _) (Nat.zero_le _) dCL_take_12
end
section
/-! Counting MATRICES, CENTRINGS, SORTS along a row; the LETTER. -/
def digK (s : Int) : Int := if s = 2 then 100000000 else if s = 3 then 10000000 else if s = 4 then 1000000 else if s = 6 then 100000 else if s = -1 then 10000 else if s = -2 then 1000 else if s = -3 then 100 else if s = -4 then 10 else if s = -6 then 1 else 0
def bef (ks : List Int) (i : Nat) : Int := if i = 0 then -1 else ks.getD (i - 1) (-1) / 13824
def rowT (ks : List Int) : Nat → Int
  | 0 => 0
  | i + 1 => rowT ks i + if ks.getD i (-1) / 13824 = bef ks i then 0 else digK (sortK (ks.getD i (-1)))
def matT (ks : List Int) : Nat → Int
  | 0 => 0
  | i + 1 => matT ks i + if ks.getD i (-1) / 13824 = bef ks i then 0 else 1
def cenT (ks : List Int) : Nat → Int
  | 0 => 0
  | i + 1 => cenT ks i + if ks.getD i (-1) / 13824 = 16484 then 1 else 0
theorem bef_s (ks : List Int) (i : Nat) : bef ks (i + 1) = ks.getD i (-1) / 13824 := by
  unfold bef
  rw [if_neg (by omega)]
  rfl
theorem sort_rng (k : Int) : -6 ≤ sortK k ∧ sortK k ≤ 6 := by
  unfold sortK
  by_cases h : detF (mdg k) = 1 ∨ detF (mdg k) = -1
  · rw [if_pos h]
    by_cases h2 : 0 ≤ detF (mdg k) * trK k + 1 ∧ detF (mdg k) * trK k + 1 < 5
    · rw [if_pos h2]
      have : ∀ n : Nat, n < 5 → 0 ≤ st_sorts.getD n 0 ∧ st_sorts.getD n 0 ≤ 6 := by decide
      have h3 := this (detF (mdg k) * trK k + 1).toNat (by omega)
      exact mul_in2 (n := 6) (by omega) (by omega)
    · rw [if_neg h2]; omega
  · rw [if_neg h]; omega
theorem dig_rng (s : Int) : 0 ≤ digK s ∧ digK s ≤ 100000000 := by
  unfold digK
  repeat' split
  all_goals omega
theorem matT_rng (ks : List Int) : ∀ i : Nat, 0 ≤ matT ks i ∧ matT ks i ≤ (i : Int)
  | 0 => by simp [matT]
  | i + 1 => by
    have := matT_rng ks i
    unfold matT
    split <;> omega
theorem cenT_rng (ks : List Int) : ∀ i : Nat, 0 ≤ cenT ks i ∧ cenT ks i ≤ (i : Int)
  | 0 => by simp [cenT]
  | i + 1 => by
    have := cenT_rng ks i
    unfold cenT
    split <;> omega
/-- the CLASS, by the row -/
def clsF (r z : Int) : Prop := (∃ i : Nat, i < 32 ∧ st_rows.getD i 0 = r ∧ z = (i : Int) + 1 ∧ ∀ j, j < i → st_rows.getD j 0 ≠ r) ∨ (z = -1 ∧ ∀ j, j < 32 → st_rows.getD j 0 ≠ r)
theorem rows_rng : ∀ j, j < 32 → 0 ≤ st_rows.getD j 0 ∧ st_rows.getD j 0 < 1000000000 := by decide
def let2 (s : Int) : Int := if s = 300 then 1 else if s = 6924 then 2 else if s = 7200 then 3 else if s = 7212 then 4 else 8
/-- the LETTER as the class finds it: by the OPERATIONS behind the one that leaves all, whose place is i -/
def letK (ks : List Int) (i c : Int) : Int :=
  if c = 1 then 0 else if c = 2 then let2 (lat ks (i + 1) - u0)
  else if c = 3 then (if lat ks (i + 1) - u0 = 5008 ∧ lat ks (i + 2) - u0 = 9416 then 6 else if lat ks (i + 1) - u0 = 5000 ∧ lat ks (i + 2) - u0 = 9424 then 7 else 8)
  else if c = 4 then (if lat ks (i + 1) - u0 = 300 ∧ lat ks (i + 2) - u0 = 6924 ∧ lat ks (i + 3) - u0 = 7200 then 5 else 8) else 8
theorem lat_bd {n : Nat} {f : Nat → Int} {ks : List Int} (h : rowOK n f ks) (k : Int) : -2147483648 ≤ lat ks k - 227874816 ∧ lat ks k - 227874816 < 2147483648 := by
  have := h.latr k
  omega
end
section
/-! decode rows: written by wip/whole/names.py -/
theorem dGR_keys_0 : decode cGR_keys 0 = .ok (.aload_n 0, 1) := by decide +kernel
theorem dGR_keys_1 : decode cGR_keys 1 = .ok (.getfield 28, 3) := by decide +kernel
theorem dGR_keys_4 : decode cGR_keys 4 = .ok (.areturn, 1) := by decide +kernel
theorem dGR_init_0 : decode cGR_init 0 = .ok (.aload_n 0, 1) := by decide +kernel
theorem dGR_init_1 : decode cGR_init 1 = .ok (.invokespecial 3, 3) := by decide +kernel
theorem dGR_init_4 : decode cGR_init 4 = .ok (.aload_n 0, 1) := by decide +kernel
theorem dGR_init_5 : decode cGR_init 5 = .ok (.aconst_null, 1) := by decide +kernel
theorem dGR_init_6 : decode cGR_init 6 = .ok (.putfield 9, 3) := by decide +kernel
theorem dGR_init_9 : decode cGR_init 9 = .ok (.aload_n 0, 1) := by decide +kernel
theorem dGR_init_10 : decode cGR_init 10 = .ok (.aconst_null, 1) := by decide +kernel
theorem dGR_init_11 : decode cGR_init 11 = .ok (.putfield 15, 3) := by decide +kernel
theorem dGR_init_14 : decode cGR_init 14 = .ok (.aload_n 0, 1) := by decide +kernel
theorem dGR_init_15 : decode cGR_init 15 = .ok (.new 19, 3) := by decide +kernel
theorem dGR_init_18 : decode cGR_init 18 = .ok (.dup, 1) := by decide +kernel
theorem dGR_init_19 : decode cGR_init 19 = .ok (.aload_n 1, 1) := by decide +kernel
theorem dGR_init_20 : decode cGR_init 20 = .ok (.invokevirtual 21, 3) := by decide +kernel
theorem dGR_init_23 : decode cGR_init 23 = .ok (.invokespecial 25, 3) := by decide +kernel
theorem dGR_init_26 : decode cGR_init 26 = .ok (.putfield 28, 3) := by decide +kernel
theorem dGR_init_29 : decode cGR_init 29 = .ok (.iconst 0, 1) := by decide +kernel
theorem dGR_init_30 : decode cGR_init 30 = .ok (.istore_n 3, 1) := by decide +kernel
theorem dGR_init_31 : decode cGR_init 31 = .ok (.iconst 0, 1) := by decide +kernel
theorem dGR_init_32 : decode cGR_init 32 = .ok (.istore 4, 2) := by decide +kernel
theorem dGR_init_34 : decode cGR_init 34 = .ok (.iconst (-1), 1) := by decide +kernel
theorem dGR_init_35 : decode cGR_init 35 = .ok (.istore 5, 2) := by decide +kernel
theorem dGR_init_37 : decode cGR_init 37 = .ok (.iconst 0, 1) := by decide +kernel
theorem dGR_init_38 : decode cGR_init 38 = .ok (.istore 6, 2) := by decide +kernel
theorem dGR_init_40 : decode cGR_init 40 = .ok (.iload 6, 2) := by decide +kernel
theorem dGR_init_42 : decode cGR_init 42 = .ok (.aload_n 1, 1) := by decide +kernel
theorem dGR_init_43 : decode cGR_init 43 = .ok (.invokevirtual 21, 3) := by decide +kernel
theorem dGR_init_46 : decode cGR_init 46 = .ok (.if_icmp .ge 72, 3) := by decide +kernel
theorem dGR_init_49 : decode cGR_init 49 = .ok (.aload_n 1, 1) := by decide +kernel
theorem dGR_init_50 : decode cGR_init 50 = .ok (.iload 6, 2) := by decide +kernel
theorem dGR_init_52 : decode cGR_init 52 = .ok (.invokevirtual 32, 3) := by decide +kernel
theorem dGR_init_55 : decode cGR_init 55 = .ok (.sipush 13824, 3) := by decide +kernel
theorem dGR_init_58 : decode cGR_init 58 = .ok (.idiv, 1) := by decide +kernel
theorem dGR_init_59 : decode cGR_init 59 = .ok (.istore 7, 2) := by decide +kernel
theorem dGR_init_61 : decode cGR_init 61 = .ok (.aload_n 0, 1) := by decide +kernel
theorem dGR_init_62 : decode cGR_init 62 = .ok (.getfield 28, 3) := by decide +kernel
theorem dGR_init_65 : decode cGR_init 65 = .ok (.aload_n 1, 1) := by decide +kernel
theorem dGR_init_66 : decode cGR_init 66 = .ok (.iload 6, 2) := by decide +kernel
theorem dGR_init_68 : decode cGR_init 68 = .ok (.invokevirtual 32, 3) := by decide +kernel
theorem dGR_init_71 : decode cGR_init 71 = .ok (.invokevirtual 36, 3) := by decide +kernel
theorem dGR_init_74 : decode cGR_init 74 = .ok (.pop, 1) := by decide +kernel
theorem dGR_init_75 : decode cGR_init 75 = .ok (.iload_n 3, 1) := by decide +kernel
theorem dGR_init_76 : decode cGR_init 76 = .ok (.iload 7, 2) := by decide +kernel
theorem dGR_init_78 : decode cGR_init 78 = .ok (.iload 5, 2) := by decide +kernel
theorem dGR_init_80 : decode cGR_init 80 = .ok (.if_icmp .ne 7, 3) := by decide +kernel
theorem dGR_init_83 : decode cGR_init 83 = .ok (.iconst 0, 1) := by decide +kernel
theorem dGR_init_84 : decode cGR_init 84 = .ok (.goto 4, 3) := by decide +kernel
theorem dGR_init_87 : decode cGR_init 87 = .ok (.iconst 1, 1) := by decide +kernel
theorem dGR_init_88 : decode cGR_init 88 = .ok (.iadd, 1) := by decide +kernel
theorem dGR_init_89 : decode cGR_init 89 = .ok (.istore_n 3, 1) := by decide +kernel
theorem dGR_init_90 : decode cGR_init 90 = .ok (.iload 4, 2) := by decide +kernel
theorem dGR_init_92 : decode cGR_init 92 = .ok (.iload 7, 2) := by decide +kernel
theorem dGR_init_94 : decode cGR_init 94 = .ok (.sipush 16484, 3) := by decide +kernel
theorem dGR_init_97 : decode cGR_init 97 = .ok (.if_icmp .ne 7, 3) := by decide +kernel
theorem dGR_init_100 : decode cGR_init 100 = .ok (.iconst 1, 1) := by decide +kernel
theorem dGR_init_101 : decode cGR_init 101 = .ok (.goto 4, 3) := by decide +kernel
theorem dGR_init_104 : decode cGR_init 104 = .ok (.iconst 0, 1) := by decide +kernel
theorem dGR_init_105 : decode cGR_init 105 = .ok (.iadd, 1) := by decide +kernel
theorem dGR_init_106 : decode cGR_init 106 = .ok (.istore 4, 2) := by decide +kernel
theorem dGR_init_108 : decode cGR_init 108 = .ok (.iload 7, 2) := by decide +kernel
theorem dGR_init_110 : decode cGR_init 110 = .ok (.istore 5, 2) := by decide +kernel
theorem dGR_init_112 : decode cGR_init 112 = .ok (.iinc 6 1, 3) := by decide +kernel
theorem dGR_init_115 : decode cGR_init 115 = .ok (.goto (-75), 3) := by decide +kernel
theorem dGR_init_118 : decode cGR_init 118 = .ok (.aload_n 0, 1) := by decide +kernel
theorem dGR_init_119 : decode cGR_init 119 = .ok (.iload_n 3, 1) := by decide +kernel
theorem dGR_init_120 : decode cGR_init 120 = .ok (.putfield 40, 3) := by decide +kernel
theorem dGR_init_123 : decode cGR_init 123 = .ok (.aload_n 0, 1) := by decide +kernel
theorem dGR_init_124 : decode cGR_init 124 = .ok (.iload 4, 2) := by decide +kernel
theorem dGR_init_126 : decode cGR_init 126 = .ok (.putfield 44, 3) := by decide +kernel
theorem dGR_init_129 : decode cGR_init 129 = .ok (.aload_n 0, 1) := by decide +kernel
theorem dGR_init_130 : decode cGR_init 130 = .ok (.aload_n 0, 1) := by decide +kernel
theorem dGR_init_131 : decode cGR_init 131 = .ok (.getfield 28, 3) := by decide +kernel
theorem dGR_init_134 : decode cGR_init 134 = .ok (.iload 4, 2) := by decide +kernel
theorem dGR_init_136 : decode cGR_init 136 = .ok (.invokestatic 47, 3) := by decide +kernel
theorem dGR_init_139 : decode cGR_init 139 = .ok (.putfield 51, 3) := by decide +kernel
theorem dGR_init_142 : decode cGR_init 142 = .ok (.aload_n 0, 1) := by decide +kernel
theorem dGR_init_143 : decode cGR_init 143 = .ok (.aload_n 0, 1) := by decide +kernel
theorem dGR_init_144 : decode cGR_init 144 = .ok (.getfield 28, 3) := by decide +kernel
theorem dGR_init_147 : decode cGR_init 147 = .ok (.aload_n 2, 1) := by decide +kernel
theorem dGR_init_148 : decode cGR_init 148 = .ok (.invokestatic 54, 3) := by decide +kernel
theorem dGR_init_151 : decode cGR_init 151 = .ok (.putfield 58, 3) := by decide +kernel
theorem dGR_init_154 : decode cGR_init 154 = .ok (.return_, 1) := by decide +kernel
theorem dGR_letterOf_0 : decode cGR_letterOf 0 = .ok (.aload_n 0, 1) := by decide +kernel
theorem dGR_letterOf_1 : decode cGR_letterOf 1 = .ok (.ldc 69, 2) := by decide +kernel
theorem dGR_letterOf_3 : decode cGR_letterOf 3 = .ok (.invokevirtual 70, 3) := by decide +kernel
theorem dGR_letterOf_6 : decode cGR_letterOf 6 = .ok (.istore_n 2, 1) := by decide +kernel
theorem dGR_letterOf_7 : decode cGR_letterOf 7 = .ok (.aload_n 0, 1) := by decide +kernel
theorem dGR_letterOf_8 : decode cGR_letterOf 8 = .ok (.iload_n 2, 1) := by decide +kernel
theorem dGR_letterOf_9 : decode cGR_letterOf 9 = .ok (.iconst 1, 1) := by decide +kernel
theorem dGR_letterOf_10 : decode cGR_letterOf 10 = .ok (.iadd, 1) := by decide +kernel
theorem dGR_letterOf_11 : decode cGR_letterOf 11 = .ok (.invokevirtual 32, 3) := by decide +kernel
theorem dGR_letterOf_14 : decode cGR_letterOf 14 = .ok (.ldc 69, 2) := by decide +kernel
theorem dGR_letterOf_16 : decode cGR_letterOf 16 = .ok (.isub, 1) := by decide +kernel
theorem dGR_letterOf_17 : decode cGR_letterOf 17 = .ok (.istore_n 3, 1) := by decide +kernel
theorem dGR_letterOf_18 : decode cGR_letterOf 18 = .ok (.aload_n 0, 1) := by decide +kernel
theorem dGR_letterOf_19 : decode cGR_letterOf 19 = .ok (.iload_n 2, 1) := by decide +kernel
theorem dGR_letterOf_20 : decode cGR_letterOf 20 = .ok (.iconst 2, 1) := by decide +kernel
theorem dGR_letterOf_21 : decode cGR_letterOf 21 = .ok (.iadd, 1) := by decide +kernel
theorem dGR_letterOf_22 : decode cGR_letterOf 22 = .ok (.invokevirtual 32, 3) := by decide +kernel
theorem dGR_letterOf_25 : decode cGR_letterOf 25 = .ok (.ldc 69, 2) := by decide +kernel
theorem dGR_letterOf_27 : decode cGR_letterOf 27 = .ok (.isub, 1) := by decide +kernel
theorem dGR_letterOf_28 : decode cGR_letterOf 28 = .ok (.istore 4, 2) := by decide +kernel
theorem dGR_letterOf_30 : decode cGR_letterOf 30 = .ok (.aload_n 0, 1) := by decide +kernel
theorem dGR_letterOf_31 : decode cGR_letterOf 31 = .ok (.iload_n 2, 1) := by decide +kernel
theorem dGR_letterOf_32 : decode cGR_letterOf 32 = .ok (.iconst 3, 1) := by decide +kernel
theorem dGR_letterOf_33 : decode cGR_letterOf 33 = .ok (.iadd, 1) := by decide +kernel
theorem dGR_letterOf_34 : decode cGR_letterOf 34 = .ok (.invokevirtual 32, 3) := by decide +kernel
theorem dGR_letterOf_37 : decode cGR_letterOf 37 = .ok (.ldc 69, 2) := by decide +kernel
theorem dGR_letterOf_39 : decode cGR_letterOf 39 = .ok (.isub, 1) := by decide +kernel
theorem dGR_letterOf_40 : decode cGR_letterOf 40 = .ok (.istore 5, 2) := by decide +kernel
theorem dGR_letterOf_42 : decode cGR_letterOf 42 = .ok (.iload_n 1, 1) := by decide +kernel
theorem dGR_letterOf_43 : decode cGR_letterOf 43 = .ok (.tableswitch 107 1 4 #[29, 31, 36, 77], 29) := by decide +kernel
theorem dGR_letterOf_72 : decode cGR_letterOf 72 = .ok (.iconst 0, 1) := by decide +kernel
theorem dGR_letterOf_73 : decode cGR_letterOf 73 = .ok (.ireturn, 1) := by decide +kernel
theorem dGR_letterOf_74 : decode cGR_letterOf 74 = .ok (.iload_n 3, 1) := by decide +kernel
theorem dGR_letterOf_75 : decode cGR_letterOf 75 = .ok (.invokestatic 73, 3) := by decide +kernel
theorem dGR_letterOf_78 : decode cGR_letterOf 78 = .ok (.ireturn, 1) := by decide +kernel
theorem dGR_letterOf_79 : decode cGR_letterOf 79 = .ok (.iload_n 3, 1) := by decide +kernel
theorem dGR_letterOf_80 : decode cGR_letterOf 80 = .ok (.sipush 5008, 3) := by decide +kernel
theorem dGR_letterOf_83 : decode cGR_letterOf 83 = .ok (.if_icmp .ne 14, 3) := by decide +kernel
theorem dGR_letterOf_86 : decode cGR_letterOf 86 = .ok (.iload 4, 2) := by decide +kernel
theorem dGR_letterOf_88 : decode cGR_letterOf 88 = .ok (.sipush 9416, 3) := by decide +kernel
theorem dGR_letterOf_91 : decode cGR_letterOf 91 = .ok (.if_icmp .ne 6, 3) := by decide +kernel
theorem dGR_letterOf_94 : decode cGR_letterOf 94 = .ok (.bipush 6, 2) := by decide +kernel
theorem dGR_letterOf_96 : decode cGR_letterOf 96 = .ok (.ireturn, 1) := by decide +kernel
theorem dGR_letterOf_97 : decode cGR_letterOf 97 = .ok (.iload_n 3, 1) := by decide +kernel
theorem dGR_letterOf_98 : decode cGR_letterOf 98 = .ok (.sipush 5000, 3) := by decide +kernel
theorem dGR_letterOf_101 : decode cGR_letterOf 101 = .ok (.if_icmp .ne 16, 3) := by decide +kernel
theorem dGR_letterOf_104 : decode cGR_letterOf 104 = .ok (.iload 4, 2) := by decide +kernel
theorem dGR_letterOf_106 : decode cGR_letterOf 106 = .ok (.sipush 9424, 3) := by decide +kernel
theorem dGR_letterOf_109 : decode cGR_letterOf 109 = .ok (.if_icmp .ne 8, 3) := by decide +kernel
theorem dGR_letterOf_112 : decode cGR_letterOf 112 = .ok (.bipush 7, 2) := by decide +kernel
theorem dGR_letterOf_114 : decode cGR_letterOf 114 = .ok (.goto 5, 3) := by decide +kernel
theorem dGR_letterOf_117 : decode cGR_letterOf 117 = .ok (.bipush 8, 2) := by decide +kernel
theorem dGR_letterOf_119 : decode cGR_letterOf 119 = .ok (.ireturn, 1) := by decide +kernel
theorem dGR_letterOf_120 : decode cGR_letterOf 120 = .ok (.iload_n 3, 1) := by decide +kernel
theorem dGR_letterOf_121 : decode cGR_letterOf 121 = .ok (.sipush 300, 3) := by decide +kernel
theorem dGR_letterOf_124 : decode cGR_letterOf 124 = .ok (.if_icmp .ne 23, 3) := by decide +kernel
theorem dGR_letterOf_127 : decode cGR_letterOf 127 = .ok (.iload 4, 2) := by decide +kernel
theorem dGR_letterOf_129 : decode cGR_letterOf 129 = .ok (.sipush 6924, 3) := by decide +kernel
theorem dGR_letterOf_132 : decode cGR_letterOf 132 = .ok (.if_icmp .ne 15, 3) := by decide +kernel
theorem dGR_letterOf_135 : decode cGR_letterOf 135 = .ok (.iload 5, 2) := by decide +kernel
theorem dGR_letterOf_137 : decode cGR_letterOf 137 = .ok (.sipush 7200, 3) := by decide +kernel
theorem dGR_letterOf_140 : decode cGR_letterOf 140 = .ok (.if_icmp .ne 7, 3) := by decide +kernel
theorem dGR_letterOf_143 : decode cGR_letterOf 143 = .ok (.iconst 5, 1) := by decide +kernel
theorem dGR_letterOf_144 : decode cGR_letterOf 144 = .ok (.goto 5, 3) := by decide +kernel
theorem dGR_letterOf_147 : decode cGR_letterOf 147 = .ok (.bipush 8, 2) := by decide +kernel
theorem dGR_letterOf_149 : decode cGR_letterOf 149 = .ok (.ireturn, 1) := by decide +kernel
theorem dGR_letterOf_150 : decode cGR_letterOf 150 = .ok (.bipush 8, 2) := by decide +kernel
theorem dGR_letterOf_152 : decode cGR_letterOf 152 = .ok (.ireturn, 1) := by decide +kernel
theorem dGR_letterOfTwo_0 : decode cGR_letterOfTwo 0 = .ok (.iload_n 0, 1) := by decide +kernel
theorem dGR_letterOfTwo_1 : decode cGR_letterOfTwo 1 = .ok (.lookupswitch 51 #[(300, 43), (6924, 45), (7200, 47), (7212, 49)], 43) := by decide +kernel
theorem dGR_letterOfTwo_44 : decode cGR_letterOfTwo 44 = .ok (.iconst 1, 1) := by decide +kernel
theorem dGR_letterOfTwo_45 : decode cGR_letterOfTwo 45 = .ok (.ireturn, 1) := by decide +kernel
theorem dGR_letterOfTwo_46 : decode cGR_letterOfTwo 46 = .ok (.iconst 2, 1) := by decide +kernel
theorem dGR_letterOfTwo_47 : decode cGR_letterOfTwo 47 = .ok (.ireturn, 1) := by decide +kernel
theorem dGR_letterOfTwo_48 : decode cGR_letterOfTwo 48 = .ok (.iconst 3, 1) := by decide +kernel
theorem dGR_letterOfTwo_49 : decode cGR_letterOfTwo 49 = .ok (.ireturn, 1) := by decide +kernel
theorem dGR_letterOfTwo_50 : decode cGR_letterOfTwo 50 = .ok (.iconst 4, 1) := by decide +kernel
theorem dGR_letterOfTwo_51 : decode cGR_letterOfTwo 51 = .ok (.ireturn, 1) := by decide +kernel
theorem dGR_letterOfTwo_52 : decode cGR_letterOfTwo 52 = .ok (.bipush 8, 2) := by decide +kernel
theorem dGR_letterOfTwo_54 : decode cGR_letterOfTwo 54 = .ok (.ireturn, 1) := by decide +kernel
theorem dGR_matrices_0 : decode cGR_matrices 0 = .ok (.aload_n 0, 1) := by decide +kernel
theorem dGR_matrices_1 : decode cGR_matrices 1 = .ok (.getfield 40, 3) := by decide +kernel
theorem dGR_matrices_4 : decode cGR_matrices 4 = .ok (.ireturn, 1) := by decide +kernel
theorem dGR_centrings_0 : decode cGR_centrings 0 = .ok (.aload_n 0, 1) := by decide +kernel
theorem dGR_centrings_1 : decode cGR_centrings 1 = .ok (.getfield 44, 3) := by decide +kernel
theorem dGR_centrings_4 : decode cGR_centrings 4 = .ok (.ireturn, 1) := by decide +kernel
theorem dGR_letter_0 : decode cGR_letter 0 = .ok (.aload_n 0, 1) := by decide +kernel
theorem dGR_letter_1 : decode cGR_letter 1 = .ok (.getfield 51, 3) := by decide +kernel
theorem dGR_letter_4 : decode cGR_letter 4 = .ok (.ireturn, 1) := by decide +kernel
theorem dGR_pointClass_0 : decode cGR_pointClass 0 = .ok (.aload_n 0, 1) := by decide +kernel
theorem dGR_pointClass_1 : decode cGR_pointClass 1 = .ok (.getfield 58, 3) := by decide +kernel
theorem dGR_pointClass_4 : decode cGR_pointClass 4 = .ok (.ireturn, 1) := by decide +kernel
theorem dGR_alikeSets_0 : decode cGR_alikeSets 0 = .ok (.aload_n 0, 1) := by decide +kernel
theorem dGR_alikeSets_1 : decode cGR_alikeSets 1 = .ok (.getfield 9, 3) := by decide +kernel
theorem dGR_alikeSets_4 : decode cGR_alikeSets 4 = .ok (.ifnonnull 20, 3) := by decide +kernel
theorem dGR_alikeSets_7 : decode cGR_alikeSets 7 = .ok (.aload_n 0, 1) := by decide +kernel
theorem dGR_alikeSets_8 : decode cGR_alikeSets 8 = .ok (.new 61, 3) := by decide +kernel
theorem dGR_alikeSets_11 : decode cGR_alikeSets 11 = .ok (.dup, 1) := by decide +kernel
theorem dGR_alikeSets_12 : decode cGR_alikeSets 12 = .ok (.aload_n 0, 1) := by decide +kernel
theorem dGR_alikeSets_13 : decode cGR_alikeSets 13 = .ok (.getfield 28, 3) := by decide +kernel
theorem dGR_alikeSets_16 : decode cGR_alikeSets 16 = .ok (.aload_n 1, 1) := by decide +kernel
theorem dGR_alikeSets_17 : decode cGR_alikeSets 17 = .ok (.aload_n 2, 1) := by decide +kernel
theorem dGR_alikeSets_18 : decode cGR_alikeSets 18 = .ok (.invokespecial 63, 3) := by decide +kernel
theorem dGR_alikeSets_21 : decode cGR_alikeSets 21 = .ok (.putfield 9, 3) := by decide +kernel
theorem dGR_alikeSets_24 : decode cGR_alikeSets 24 = .ok (.aload_n 0, 1) := by decide +kernel
theorem dGR_alikeSets_25 : decode cGR_alikeSets 25 = .ok (.getfield 9, 3) := by decide +kernel
theorem dGR_alikeSets_28 : decode cGR_alikeSets 28 = .ok (.areturn, 1) := by decide +kernel
theorem dGR_halves_0 : decode cGR_halves 0 = .ok (.aload_n 0, 1) := by decide +kernel
theorem dGR_halves_1 : decode cGR_halves 1 = .ok (.getfield 15, 3) := by decide +kernel
theorem dGR_halves_4 : decode cGR_halves 4 = .ok (.ifnonnull 20, 3) := by decide +kernel
theorem dGR_halves_7 : decode cGR_halves 7 = .ok (.aload_n 0, 1) := by decide +kernel
theorem dGR_halves_8 : decode cGR_halves 8 = .ok (.new 66, 3) := by decide +kernel
theorem dGR_halves_11 : decode cGR_halves 11 = .ok (.dup, 1) := by decide +kernel
theorem dGR_halves_12 : decode cGR_halves 12 = .ok (.aload_n 0, 1) := by decide +kernel
theorem dGR_halves_13 : decode cGR_halves 13 = .ok (.getfield 28, 3) := by decide +kernel
theorem dGR_halves_16 : decode cGR_halves 16 = .ok (.aload_n 1, 1) := by decide +kernel
theorem dGR_halves_17 : decode cGR_halves 17 = .ok (.aload_n 2, 1) := by decide +kernel
theorem dGR_halves_18 : decode cGR_halves 18 = .ok (.invokespecial 68, 3) := by decide +kernel
theorem dGR_halves_21 : decode cGR_halves 21 = .ok (.putfield 15, 3) := by decide +kernel
theorem dGR_halves_24 : decode cGR_halves 24 = .ok (.aload_n 0, 1) := by decide +kernel
theorem dGR_halves_25 : decode cGR_halves 25 = .ok (.getfield 15, 3) := by decide +kernel
theorem dGR_halves_28 : decode cGR_halves 28 = .ok (.areturn, 1) := by decide +kernel
end
section
/-! decode rows: written by wip/whole/names.py -/
theorem dGH_init_0 : decode cGH_init 0 = .ok (.aload_n 0, 1) := by decide +kernel
theorem dGH_init_1 : decode cGH_init 1 = .ok (.invokespecial 3, 3) := by decide +kernel
theorem dGH_init_4 : decode cGH_init 4 = .ok (.aload_n 0, 1) := by decide +kernel
theorem dGH_init_5 : decode cGH_init 5 = .ok (.bipush 40, 2) := by decide +kernel
theorem dGH_init_7 : decode cGH_init 7 = .ok (.anewarray 9, 3) := by decide +kernel
theorem dGH_init_10 : decode cGH_init 10 = .ok (.putfield 11, 3) := by decide +kernel
theorem dGH_init_13 : decode cGH_init 13 = .ok (.aload_n 0, 1) := by decide +kernel
theorem dGH_init_14 : decode cGH_init 14 = .ok (.iconst 0, 1) := by decide +kernel
theorem dGH_init_15 : decode cGH_init 15 = .ok (.putfield 15, 3) := by decide +kernel
theorem dGH_init_18 : decode cGH_init 18 = .ok (.aload_n 0, 1) := by decide +kernel
theorem dGH_init_19 : decode cGH_init 19 = .ok (.bipush 10, 2) := by decide +kernel
theorem dGH_init_21 : decode cGH_init 21 = .ok (.newarray .int, 2) := by decide +kernel
theorem dGH_init_23 : decode cGH_init 23 = .ok (.putfield 19, 3) := by decide +kernel
theorem dGH_init_26 : decode cGH_init 26 = .ok (.aload_n 0, 1) := by decide +kernel
theorem dGH_init_27 : decode cGH_init 27 = .ok (.iconst 0, 1) := by decide +kernel
theorem dGH_init_28 : decode cGH_init 28 = .ok (.putfield 23, 3) := by decide +kernel
theorem dGH_init_31 : decode cGH_init 31 = .ok (.aload_n 0, 1) := by decide +kernel
theorem dGH_init_32 : decode cGH_init 32 = .ok (.new 26, 3) := by decide +kernel
theorem dGH_init_35 : decode cGH_init 35 = .ok (.dup, 1) := by decide +kernel
theorem dGH_init_36 : decode cGH_init 36 = .ok (.invokespecial 28, 3) := by decide +kernel
theorem dGH_init_39 : decode cGH_init 39 = .ok (.putfield 29, 3) := by decide +kernel
theorem dGH_init_42 : decode cGH_init 42 = .ok (.aload_n 0, 1) := by decide +kernel
theorem dGH_init_43 : decode cGH_init 43 = .ok (.new 33, 3) := by decide +kernel
theorem dGH_init_46 : decode cGH_init 46 = .ok (.dup, 1) := by decide +kernel
theorem dGH_init_47 : decode cGH_init 47 = .ok (.aload_n 0, 1) := by decide +kernel
theorem dGH_init_48 : decode cGH_init 48 = .ok (.getfield 29, 3) := by decide +kernel
theorem dGH_init_51 : decode cGH_init 51 = .ok (.invokespecial 35, 3) := by decide +kernel
theorem dGH_init_54 : decode cGH_init 54 = .ok (.putfield 38, 3) := by decide +kernel
theorem dGH_init_57 : decode cGH_init 57 = .ok (.aload_n 0, 1) := by decide +kernel
theorem dGH_init_58 : decode cGH_init 58 = .ok (.new 42, 3) := by decide +kernel
theorem dGH_init_61 : decode cGH_init 61 = .ok (.dup, 1) := by decide +kernel
theorem dGH_init_62 : decode cGH_init 62 = .ok (.sipush 192, 3) := by decide +kernel
theorem dGH_init_65 : decode cGH_init 65 = .ok (.invokespecial 44, 3) := by decide +kernel
theorem dGH_init_68 : decode cGH_init 68 = .ok (.putfield 47, 3) := by decide +kernel
theorem dGH_init_71 : decode cGH_init 71 = .ok (.return_, 1) := by decide +kernel
theorem dGH_choose_0 : decode cGH_choose 0 = .ok (.aload_n 0, 1) := by decide +kernel
theorem dGH_choose_1 : decode cGH_choose 1 = .ok (.getfield 23, 3) := by decide +kernel
theorem dGH_choose_4 : decode cGH_choose 4 = .ok (.bipush 10, 2) := by decide +kernel
theorem dGH_choose_6 : decode cGH_choose 6 = .ok (.if_icmp .ge 17, 3) := by decide +kernel
theorem dGH_choose_9 : decode cGH_choose 9 = .ok (.iload_n 1, 1) := by decide +kernel
theorem dGH_choose_10 : decode cGH_choose 10 = .ok (.invokestatic 51, 3) := by decide +kernel
theorem dGH_choose_13 : decode cGH_choose 13 = .ok (.ifCond .eq 10, 3) := by decide +kernel
theorem dGH_choose_16 : decode cGH_choose 16 = .ok (.iload_n 2, 1) := by decide +kernel
theorem dGH_choose_17 : decode cGH_choose 17 = .ok (.invokestatic 55, 3) := by decide +kernel
theorem dGH_choose_20 : decode cGH_choose 20 = .ok (.ifCond .ne 5, 3) := by decide +kernel
theorem dGH_choose_23 : decode cGH_choose 23 = .ok (.iconst (-1), 1) := by decide +kernel
theorem dGH_choose_24 : decode cGH_choose 24 = .ok (.ireturn, 1) := by decide +kernel
theorem dGH_choose_25 : decode cGH_choose 25 = .ok (.iload_n 1, 1) := by decide +kernel
theorem dGH_choose_26 : decode cGH_choose 26 = .ok (.sipush 13824, 3) := by decide +kernel
theorem dGH_choose_29 : decode cGH_choose 29 = .ok (.imul, 1) := by decide +kernel
theorem dGH_choose_30 : decode cGH_choose 30 = .ok (.iload_n 2, 1) := by decide +kernel
theorem dGH_choose_31 : decode cGH_choose 31 = .ok (.iadd, 1) := by decide +kernel
theorem dGH_choose_32 : decode cGH_choose 32 = .ok (.istore_n 3, 1) := by decide +kernel
theorem dGH_choose_33 : decode cGH_choose 33 = .ok (.aload_n 0, 1) := by decide +kernel
theorem dGH_choose_34 : decode cGH_choose 34 = .ok (.getfield 29, 3) := by decide +kernel
theorem dGH_choose_37 : decode cGH_choose 37 = .ok (.iload_n 3, 1) := by decide +kernel
theorem dGH_choose_38 : decode cGH_choose 38 = .ok (.invokevirtual 58, 3) := by decide +kernel
theorem dGH_choose_41 : decode cGH_choose 41 = .ok (.istore 4, 2) := by decide +kernel
theorem dGH_choose_43 : decode cGH_choose 43 = .ok (.iload 4, 2) := by decide +kernel
theorem dGH_choose_45 : decode cGH_choose 45 = .ok (.iconst 1, 1) := by decide +kernel
theorem dGH_choose_46 : decode cGH_choose 46 = .ok (.if_icmp .eq 11, 3) := by decide +kernel
theorem dGH_choose_49 : decode cGH_choose 49 = .ok (.iload 4, 2) := by decide +kernel
theorem dGH_choose_51 : decode cGH_choose 51 = .ok (.iconst (-1), 1) := by decide +kernel
theorem dGH_choose_52 : decode cGH_choose 52 = .ok (.if_icmp .eq 5, 3) := by decide +kernel
theorem dGH_choose_55 : decode cGH_choose 55 = .ok (.iconst (-1), 1) := by decide +kernel
theorem dGH_choose_56 : decode cGH_choose 56 = .ok (.ireturn, 1) := by decide +kernel
theorem dGH_choose_57 : decode cGH_choose 57 = .ok (.aload_n 0, 1) := by decide +kernel
theorem dGH_choose_58 : decode cGH_choose 58 = .ok (.getfield 19, 3) := by decide +kernel
theorem dGH_choose_61 : decode cGH_choose 61 = .ok (.aload_n 0, 1) := by decide +kernel
theorem dGH_choose_62 : decode cGH_choose 62 = .ok (.getfield 23, 3) := by decide +kernel
theorem dGH_choose_65 : decode cGH_choose 65 = .ok (.iload_n 3, 1) := by decide +kernel
theorem dGH_choose_66 : decode cGH_choose 66 = .ok (.iastore, 1) := by decide +kernel
theorem dGH_choose_67 : decode cGH_choose 67 = .ok (.aload_n 0, 1) := by decide +kernel
theorem dGH_choose_68 : decode cGH_choose 68 = .ok (.dup, 1) := by decide +kernel
theorem dGH_choose_69 : decode cGH_choose 69 = .ok (.getfield 23, 3) := by decide +kernel
theorem dGH_choose_72 : decode cGH_choose 72 = .ok (.iconst 1, 1) := by decide +kernel
theorem dGH_choose_73 : decode cGH_choose 73 = .ok (.iadd, 1) := by decide +kernel
theorem dGH_choose_74 : decode cGH_choose 74 = .ok (.putfield 23, 3) := by decide +kernel
theorem dGH_choose_77 : decode cGH_choose 77 = .ok (.aload_n 0, 1) := by decide +kernel
theorem dGH_choose_78 : decode cGH_choose 78 = .ok (.getfield 23, 3) := by decide +kernel
theorem dGH_choose_81 : decode cGH_choose 81 = .ok (.ireturn, 1) := by decide +kernel
theorem dGH_isNine_0 : decode cGH_isNine 0 = .ok (.iload_n 0, 1) := by decide +kernel
theorem dGH_isNine_1 : decode cGH_isNine 1 = .ok (.ifCond .lt 14, 3) := by decide +kernel
theorem dGH_isNine_4 : decode cGH_isNine 4 = .ok (.iload_n 0, 1) := by decide +kernel
theorem dGH_isNine_5 : decode cGH_isNine 5 = .ok (.sipush 19683, 3) := by decide +kernel
theorem dGH_isNine_8 : decode cGH_isNine 8 = .ok (.if_icmp .ge 7, 3) := by decide +kernel
theorem dGH_isNine_11 : decode cGH_isNine 11 = .ok (.iconst 1, 1) := by decide +kernel
theorem dGH_isNine_12 : decode cGH_isNine 12 = .ok (.goto 4, 3) := by decide +kernel
theorem dGH_isNine_15 : decode cGH_isNine 15 = .ok (.iconst 0, 1) := by decide +kernel
theorem dGH_isNine_16 : decode cGH_isNine 16 = .ok (.ireturn, 1) := by decide +kernel
theorem dGH_isPlace_0 : decode cGH_isPlace 0 = .ok (.iload_n 0, 1) := by decide +kernel
theorem dGH_isPlace_1 : decode cGH_isPlace 1 = .ok (.ifCond .lt 14, 3) := by decide +kernel
theorem dGH_isPlace_4 : decode cGH_isPlace 4 = .ok (.iload_n 0, 1) := by decide +kernel
theorem dGH_isPlace_5 : decode cGH_isPlace 5 = .ok (.sipush 13824, 3) := by decide +kernel
theorem dGH_isPlace_8 : decode cGH_isPlace 8 = .ok (.if_icmp .ge 7, 3) := by decide +kernel
theorem dGH_isPlace_11 : decode cGH_isPlace 11 = .ok (.iconst 1, 1) := by decide +kernel
theorem dGH_isPlace_12 : decode cGH_isPlace 12 = .ok (.goto 4, 3) := by decide +kernel
theorem dGH_isPlace_15 : decode cGH_isPlace 15 = .ok (.iconst 0, 1) := by decide +kernel
theorem dGH_isPlace_16 : decode cGH_isPlace 16 = .ok (.ireturn, 1) := by decide +kernel
theorem dGH_group_0 : decode cGH_group 0 = .ok (.aload_n 0, 1) := by decide +kernel
theorem dGH_group_1 : decode cGH_group 1 = .ok (.getfield 38, 3) := by decide +kernel
theorem dGH_group_4 : decode cGH_group 4 = .ok (.invokevirtual 62, 3) := by decide +kernel
theorem dGH_group_7 : decode cGH_group 7 = .ok (.iconst 1, 1) := by decide +kernel
theorem dGH_group_8 : decode cGH_group 8 = .ok (.istore_n 1, 1) := by decide +kernel
theorem dGH_group_9 : decode cGH_group 9 = .ok (.iconst 0, 1) := by decide +kernel
theorem dGH_group_10 : decode cGH_group 10 = .ok (.istore_n 2, 1) := by decide +kernel
theorem dGH_group_11 : decode cGH_group 11 = .ok (.iload_n 1, 1) := by decide +kernel
theorem dGH_group_12 : decode cGH_group 12 = .ok (.ifCond .eq 37, 3) := by decide +kernel
theorem dGH_group_15 : decode cGH_group 15 = .ok (.iload_n 2, 1) := by decide +kernel
theorem dGH_group_16 : decode cGH_group 16 = .ok (.aload_n 0, 1) := by decide +kernel
theorem dGH_group_17 : decode cGH_group 17 = .ok (.getfield 23, 3) := by decide +kernel
theorem dGH_group_20 : decode cGH_group 20 = .ok (.if_icmp .ge 29, 3) := by decide +kernel
theorem dGH_group_23 : decode cGH_group 23 = .ok (.iload_n 2, 1) := by decide +kernel
theorem dGH_group_24 : decode cGH_group 24 = .ok (.bipush 10, 2) := by decide +kernel
theorem dGH_group_26 : decode cGH_group 26 = .ok (.if_icmp .ge 23, 3) := by decide +kernel
theorem dGH_group_29 : decode cGH_group 29 = .ok (.aload_n 0, 1) := by decide +kernel
theorem dGH_group_30 : decode cGH_group 30 = .ok (.getfield 38, 3) := by decide +kernel
theorem dGH_group_33 : decode cGH_group 33 = .ok (.aload_n 0, 1) := by decide +kernel
theorem dGH_group_34 : decode cGH_group 34 = .ok (.getfield 19, 3) := by decide +kernel
theorem dGH_group_37 : decode cGH_group 37 = .ok (.iload_n 2, 1) := by decide +kernel
theorem dGH_group_38 : decode cGH_group 38 = .ok (.iaload, 1) := by decide +kernel
theorem dGH_group_39 : decode cGH_group 39 = .ok (.invokevirtual 65, 3) := by decide +kernel
theorem dGH_group_42 : decode cGH_group 42 = .ok (.istore_n 1, 1) := by decide +kernel
theorem dGH_group_43 : decode cGH_group 43 = .ok (.iinc 2 1, 3) := by decide +kernel
theorem dGH_group_46 : decode cGH_group 46 = .ok (.goto (-35), 3) := by decide +kernel
theorem dGH_group_49 : decode cGH_group 49 = .ok (.aload_n 0, 1) := by decide +kernel
theorem dGH_group_50 : decode cGH_group 50 = .ok (.iconst 0, 1) := by decide +kernel
theorem dGH_group_51 : decode cGH_group 51 = .ok (.putfield 23, 3) := by decide +kernel
theorem dGH_group_54 : decode cGH_group 54 = .ok (.iload_n 1, 1) := by decide +kernel
theorem dGH_group_55 : decode cGH_group 55 = .ok (.ifCond .eq 17, 3) := by decide +kernel
theorem dGH_group_58 : decode cGH_group 58 = .ok (.aload_n 0, 1) := by decide +kernel
theorem dGH_group_59 : decode cGH_group 59 = .ok (.aload_n 0, 1) := by decide +kernel
theorem dGH_group_60 : decode cGH_group 60 = .ok (.getfield 38, 3) := by decide +kernel
theorem dGH_group_63 : decode cGH_group 63 = .ok (.invokevirtual 68, 3) := by decide +kernel
theorem dGH_group_66 : decode cGH_group 66 = .ok (.invokevirtual 72, 3) := by decide +kernel
theorem dGH_group_69 : decode cGH_group 69 = .ok (.goto 4, 3) := by decide +kernel
theorem dGH_group_72 : decode cGH_group 72 = .ok (.iconst (-1), 1) := by decide +kernel
theorem dGH_group_73 : decode cGH_group 73 = .ok (.ireturn, 1) := by decide +kernel
theorem dGH_numberOf_0 : decode cGH_numberOf 0 = .ok (.iconst 0, 1) := by decide +kernel
theorem dGH_numberOf_1 : decode cGH_numberOf 1 = .ok (.istore_n 2, 1) := by decide +kernel
theorem dGH_numberOf_2 : decode cGH_numberOf 2 = .ok (.iload_n 2, 1) := by decide +kernel
theorem dGH_numberOf_3 : decode cGH_numberOf 3 = .ok (.aload_n 0, 1) := by decide +kernel
theorem dGH_numberOf_4 : decode cGH_numberOf 4 = .ok (.getfield 15, 3) := by decide +kernel
theorem dGH_numberOf_7 : decode cGH_numberOf 7 = .ok (.if_icmp .ge 32, 3) := by decide +kernel
theorem dGH_numberOf_10 : decode cGH_numberOf 10 = .ok (.aload_n 0, 1) := by decide +kernel
theorem dGH_numberOf_11 : decode cGH_numberOf 11 = .ok (.iload_n 2, 1) := by decide +kernel
theorem dGH_numberOf_12 : decode cGH_numberOf 12 = .ok (.invokevirtual 76, 3) := by decide +kernel
theorem dGH_numberOf_15 : decode cGH_numberOf 15 = .ok (.astore_n 3, 1) := by decide +kernel
theorem dGH_numberOf_16 : decode cGH_numberOf 16 = .ok (.aload_n 3, 1) := by decide +kernel
theorem dGH_numberOf_17 : decode cGH_numberOf 17 = .ok (.ifnull 16, 3) := by decide +kernel
theorem dGH_numberOf_20 : decode cGH_numberOf 20 = .ok (.aload_n 3, 1) := by decide +kernel
theorem dGH_numberOf_21 : decode cGH_numberOf 21 = .ok (.invokevirtual 80, 3) := by decide +kernel
theorem dGH_numberOf_24 : decode cGH_numberOf 24 = .ok (.aload_n 1, 1) := by decide +kernel
theorem dGH_numberOf_25 : decode cGH_numberOf 25 = .ok (.invokevirtual 158, 3) := by decide +kernel
theorem dGH_numberOf_28 : decode cGH_numberOf 28 = .ok (.ifCond .eq 5, 3) := by decide +kernel
theorem dGH_numberOf_31 : decode cGH_numberOf 31 = .ok (.iload_n 2, 1) := by decide +kernel
theorem dGH_numberOf_32 : decode cGH_numberOf 32 = .ok (.ireturn, 1) := by decide +kernel
theorem dGH_numberOf_33 : decode cGH_numberOf 33 = .ok (.iinc 2 1, 3) := by decide +kernel
theorem dGH_numberOf_36 : decode cGH_numberOf 36 = .ok (.goto (-34), 3) := by decide +kernel
theorem dGH_numberOf_39 : decode cGH_numberOf 39 = .ok (.aload_n 0, 1) := by decide +kernel
theorem dGH_numberOf_40 : decode cGH_numberOf 40 = .ok (.getfield 15, 3) := by decide +kernel
theorem dGH_numberOf_43 : decode cGH_numberOf 43 = .ok (.bipush 40, 2) := by decide +kernel
theorem dGH_numberOf_45 : decode cGH_numberOf 45 = .ok (.if_icmp .lt 5, 3) := by decide +kernel
theorem dGH_numberOf_48 : decode cGH_numberOf 48 = .ok (.iconst (-1), 1) := by decide +kernel
theorem dGH_numberOf_49 : decode cGH_numberOf 49 = .ok (.ireturn, 1) := by decide +kernel
theorem dGH_numberOf_50 : decode cGH_numberOf 50 = .ok (.aload_n 0, 1) := by decide +kernel
theorem dGH_numberOf_51 : decode cGH_numberOf 51 = .ok (.getfield 11, 3) := by decide +kernel
theorem dGH_numberOf_54 : decode cGH_numberOf 54 = .ok (.aload_n 0, 1) := by decide +kernel
theorem dGH_numberOf_55 : decode cGH_numberOf 55 = .ok (.getfield 15, 3) := by decide +kernel
theorem dGH_numberOf_58 : decode cGH_numberOf 58 = .ok (.new 9, 3) := by decide +kernel
theorem dGH_numberOf_61 : decode cGH_numberOf 61 = .ok (.dup, 1) := by decide +kernel
theorem dGH_numberOf_62 : decode cGH_numberOf 62 = .ok (.aload_n 1, 1) := by decide +kernel
theorem dGH_numberOf_63 : decode cGH_numberOf 63 = .ok (.aload_n 0, 1) := by decide +kernel
theorem dGH_numberOf_64 : decode cGH_numberOf 64 = .ok (.getfield 29, 3) := by decide +kernel
theorem dGH_numberOf_67 : decode cGH_numberOf 67 = .ok (.invokespecial 162, 3) := by decide +kernel
theorem dGH_numberOf_70 : decode cGH_numberOf 70 = .ok (.aastore, 1) := by decide +kernel
theorem dGH_numberOf_71 : decode cGH_numberOf 71 = .ok (.aload_n 0, 1) := by decide +kernel
theorem dGH_numberOf_72 : decode cGH_numberOf 72 = .ok (.dup, 1) := by decide +kernel
theorem dGH_numberOf_73 : decode cGH_numberOf 73 = .ok (.getfield 15, 3) := by decide +kernel
theorem dGH_numberOf_76 : decode cGH_numberOf 76 = .ok (.iconst 1, 1) := by decide +kernel
theorem dGH_numberOf_77 : decode cGH_numberOf 77 = .ok (.iadd, 1) := by decide +kernel
theorem dGH_numberOf_78 : decode cGH_numberOf 78 = .ok (.putfield 15, 3) := by decide +kernel
theorem dGH_numberOf_81 : decode cGH_numberOf 81 = .ok (.aload_n 0, 1) := by decide +kernel
theorem dGH_numberOf_82 : decode cGH_numberOf 82 = .ok (.getfield 15, 3) := by decide +kernel
theorem dGH_numberOf_85 : decode cGH_numberOf 85 = .ok (.iconst 1, 1) := by decide +kernel
theorem dGH_numberOf_86 : decode cGH_numberOf 86 = .ok (.isub, 1) := by decide +kernel
theorem dGH_numberOf_87 : decode cGH_numberOf 87 = .ok (.ireturn, 1) := by decide +kernel
theorem dGH_hallAt_0 : decode cGH_hallAt 0 = .ok (.iload_n 1, 1) := by decide +kernel
theorem dGH_hallAt_1 : decode cGH_hallAt 1 = .ok (.ifCond .lt 26, 3) := by decide +kernel
theorem dGH_hallAt_4 : decode cGH_hallAt 4 = .ok (.iload_n 1, 1) := by decide +kernel
theorem dGH_hallAt_5 : decode cGH_hallAt 5 = .ok (.aload_n 0, 1) := by decide +kernel
theorem dGH_hallAt_6 : decode cGH_hallAt 6 = .ok (.getfield 15, 3) := by decide +kernel
theorem dGH_hallAt_9 : decode cGH_hallAt 9 = .ok (.if_icmp .ge 18, 3) := by decide +kernel
theorem dGH_hallAt_12 : decode cGH_hallAt 12 = .ok (.iload_n 1, 1) := by decide +kernel
theorem dGH_hallAt_13 : decode cGH_hallAt 13 = .ok (.bipush 40, 2) := by decide +kernel
theorem dGH_hallAt_15 : decode cGH_hallAt 15 = .ok (.if_icmp .ge 12, 3) := by decide +kernel
theorem dGH_hallAt_18 : decode cGH_hallAt 18 = .ok (.aload_n 0, 1) := by decide +kernel
theorem dGH_hallAt_19 : decode cGH_hallAt 19 = .ok (.getfield 11, 3) := by decide +kernel
theorem dGH_hallAt_22 : decode cGH_hallAt 22 = .ok (.iload_n 1, 1) := by decide +kernel
theorem dGH_hallAt_23 : decode cGH_hallAt 23 = .ok (.aaload, 1) := by decide +kernel
theorem dGH_hallAt_24 : decode cGH_hallAt 24 = .ok (.goto 4, 3) := by decide +kernel
theorem dGH_hallAt_27 : decode cGH_hallAt 27 = .ok (.aconst_null, 1) := by decide +kernel
theorem dGH_hallAt_28 : decode cGH_hallAt 28 = .ok (.areturn, 1) := by decide +kernel
theorem dGH_classOf_0 : decode cGH_classOf 0 = .ok (.iconst 0, 1) := by decide +kernel
theorem dGH_classOf_1 : decode cGH_classOf 1 = .ok (.istore_n 2, 1) := by decide +kernel
theorem dGH_classOf_2 : decode cGH_classOf 2 = .ok (.iconst (-1), 1) := by decide +kernel
theorem dGH_classOf_3 : decode cGH_classOf 3 = .ok (.istore_n 3, 1) := by decide +kernel
theorem dGH_classOf_4 : decode cGH_classOf 4 = .ok (.iconst 0, 1) := by decide +kernel
theorem dGH_classOf_5 : decode cGH_classOf 5 = .ok (.istore 4, 2) := by decide +kernel
theorem dGH_classOf_7 : decode cGH_classOf 7 = .ok (.iload 4, 2) := by decide +kernel
theorem dGH_classOf_9 : decode cGH_classOf 9 = .ok (.aload_n 0, 1) := by decide +kernel
theorem dGH_classOf_10 : decode cGH_classOf 10 = .ok (.invokevirtual 83, 3) := by decide +kernel
theorem dGH_classOf_13 : decode cGH_classOf 13 = .ok (.if_icmp .ge 46, 3) := by decide +kernel
theorem dGH_classOf_16 : decode cGH_classOf 16 = .ok (.aload_n 0, 1) := by decide +kernel
theorem dGH_classOf_17 : decode cGH_classOf 17 = .ok (.iload 4, 2) := by decide +kernel
theorem dGH_classOf_19 : decode cGH_classOf 19 = .ok (.invokevirtual 115, 3) := by decide +kernel
theorem dGH_classOf_22 : decode cGH_classOf 22 = .ok (.sipush 13824, 3) := by decide +kernel
theorem dGH_classOf_25 : decode cGH_classOf 25 = .ok (.idiv, 1) := by decide +kernel
theorem dGH_classOf_26 : decode cGH_classOf 26 = .ok (.istore 5, 2) := by decide +kernel
theorem dGH_classOf_28 : decode cGH_classOf 28 = .ok (.iload 5, 2) := by decide +kernel
theorem dGH_classOf_30 : decode cGH_classOf 30 = .ok (.iload_n 3, 1) := by decide +kernel
theorem dGH_classOf_31 : decode cGH_classOf 31 = .ok (.if_icmp .eq 19, 3) := by decide +kernel
theorem dGH_classOf_34 : decode cGH_classOf 34 = .ok (.iload_n 2, 1) := by decide +kernel
theorem dGH_classOf_35 : decode cGH_classOf 35 = .ok (.aload_n 1, 1) := by decide +kernel
theorem dGH_classOf_36 : decode cGH_classOf 36 = .ok (.aload_n 0, 1) := by decide +kernel
theorem dGH_classOf_37 : decode cGH_classOf 37 = .ok (.iload 4, 2) := by decide +kernel
theorem dGH_classOf_39 : decode cGH_classOf 39 = .ok (.invokevirtual 115, 3) := by decide +kernel
theorem dGH_classOf_42 : decode cGH_classOf 42 = .ok (.invokevirtual 118, 3) := by decide +kernel
theorem dGH_classOf_45 : decode cGH_classOf 45 = .ok (.invokestatic 168, 3) := by decide +kernel
theorem dGH_classOf_48 : decode cGH_classOf 48 = .ok (.iadd, 1) := by decide +kernel
theorem dGH_classOf_49 : decode cGH_classOf 49 = .ok (.istore_n 2, 1) := by decide +kernel
theorem dGH_classOf_50 : decode cGH_classOf 50 = .ok (.iload 5, 2) := by decide +kernel
theorem dGH_classOf_52 : decode cGH_classOf 52 = .ok (.istore_n 3, 1) := by decide +kernel
theorem dGH_classOf_53 : decode cGH_classOf 53 = .ok (.iinc 4 1, 3) := by decide +kernel
theorem dGH_classOf_56 : decode cGH_classOf 56 = .ok (.goto (-49), 3) := by decide +kernel
theorem dGH_classOf_59 : decode cGH_classOf 59 = .ok (.iconst 0, 1) := by decide +kernel
theorem dGH_classOf_60 : decode cGH_classOf 60 = .ok (.istore 4, 2) := by decide +kernel
theorem dGH_classOf_62 : decode cGH_classOf 62 = .ok (.iload 4, 2) := by decide +kernel
theorem dGH_classOf_64 : decode cGH_classOf 64 = .ok (.getstatic 171, 3) := by decide +kernel
theorem dGH_classOf_67 : decode cGH_classOf 67 = .ok (.arraylength, 1) := by decide +kernel
theorem dGH_classOf_68 : decode cGH_classOf 68 = .ok (.if_icmp .ge 24, 3) := by decide +kernel
theorem dGH_classOf_71 : decode cGH_classOf 71 = .ok (.getstatic 171, 3) := by decide +kernel
theorem dGH_classOf_74 : decode cGH_classOf 74 = .ok (.iload 4, 2) := by decide +kernel
theorem dGH_classOf_76 : decode cGH_classOf 76 = .ok (.iaload, 1) := by decide +kernel
theorem dGH_classOf_77 : decode cGH_classOf 77 = .ok (.iload_n 2, 1) := by decide +kernel
theorem dGH_classOf_78 : decode cGH_classOf 78 = .ok (.if_icmp .ne 8, 3) := by decide +kernel
theorem dGH_classOf_81 : decode cGH_classOf 81 = .ok (.iload 4, 2) := by decide +kernel
theorem dGH_classOf_83 : decode cGH_classOf 83 = .ok (.iconst 1, 1) := by decide +kernel
theorem dGH_classOf_84 : decode cGH_classOf 84 = .ok (.iadd, 1) := by decide +kernel
theorem dGH_classOf_85 : decode cGH_classOf 85 = .ok (.ireturn, 1) := by decide +kernel
theorem dGH_classOf_86 : decode cGH_classOf 86 = .ok (.iinc 4 1, 3) := by decide +kernel
theorem dGH_classOf_89 : decode cGH_classOf 89 = .ok (.goto (-27), 3) := by decide +kernel
theorem dGH_classOf_92 : decode cGH_classOf 92 = .ok (.iconst (-1), 1) := by decide +kernel
theorem dGH_classOf_93 : decode cGH_classOf 93 = .ok (.ireturn, 1) := by decide +kernel
theorem dGH_digitOf_0 : decode cGH_digitOf 0 = .ok (.iload_n 0, 1) := by decide +kernel
theorem dGH_digitOf_1 : decode cGH_digitOf 1 = .ok (.tableswitch 95 (-6) 6 #[93, 95, 90, 87, 83, 79, 95, 95, 67, 70, 73, 95, 76], 67) := by decide +kernel
theorem dGH_digitOf_68 : decode cGH_digitOf 68 = .ok (.ldc 174, 2) := by decide +kernel
theorem dGH_digitOf_70 : decode cGH_digitOf 70 = .ok (.ireturn, 1) := by decide +kernel
theorem dGH_digitOf_71 : decode cGH_digitOf 71 = .ok (.ldc 175, 2) := by decide +kernel
theorem dGH_digitOf_73 : decode cGH_digitOf 73 = .ok (.ireturn, 1) := by decide +kernel
theorem dGH_digitOf_74 : decode cGH_digitOf 74 = .ok (.ldc 176, 2) := by decide +kernel
theorem dGH_digitOf_76 : decode cGH_digitOf 76 = .ok (.ireturn, 1) := by decide +kernel
theorem dGH_digitOf_77 : decode cGH_digitOf 77 = .ok (.ldc 177, 2) := by decide +kernel
theorem dGH_digitOf_79 : decode cGH_digitOf 79 = .ok (.ireturn, 1) := by decide +kernel
theorem dGH_digitOf_80 : decode cGH_digitOf 80 = .ok (.sipush 10000, 3) := by decide +kernel
theorem dGH_digitOf_83 : decode cGH_digitOf 83 = .ok (.ireturn, 1) := by decide +kernel
theorem dGH_digitOf_84 : decode cGH_digitOf 84 = .ok (.sipush 1000, 3) := by decide +kernel
theorem dGH_digitOf_87 : decode cGH_digitOf 87 = .ok (.ireturn, 1) := by decide +kernel
theorem dGH_digitOf_88 : decode cGH_digitOf 88 = .ok (.bipush 100, 2) := by decide +kernel
theorem dGH_digitOf_90 : decode cGH_digitOf 90 = .ok (.ireturn, 1) := by decide +kernel
theorem dGH_digitOf_91 : decode cGH_digitOf 91 = .ok (.bipush 10, 2) := by decide +kernel
theorem dGH_digitOf_93 : decode cGH_digitOf 93 = .ok (.ireturn, 1) := by decide +kernel
theorem dGH_digitOf_94 : decode cGH_digitOf 94 = .ok (.iconst 1, 1) := by decide +kernel
theorem dGH_digitOf_95 : decode cGH_digitOf 95 = .ok (.ireturn, 1) := by decide +kernel
theorem dGH_digitOf_96 : decode cGH_digitOf 96 = .ok (.iconst 0, 1) := by decide +kernel
theorem dGH_digitOf_97 : decode cGH_digitOf 97 = .ok (.ireturn, 1) := by decide +kernel
theorem dGH_about_0 : decode cGH_about 0 = .ok (.aload_n 0, 1) := by decide +kernel
theorem dGH_about_1 : decode cGH_about 1 = .ok (.iload_n 1, 1) := by decide +kernel
theorem dGH_about_2 : decode cGH_about 2 = .ok (.invokevirtual 76, 3) := by decide +kernel
theorem dGH_about_5 : decode cGH_about 5 = .ok (.astore_n 3, 1) := by decide +kernel
theorem dGH_about_6 : decode cGH_about 6 = .ok (.aload_n 3, 1) := by decide +kernel
theorem dGH_about_7 : decode cGH_about 7 = .ok (.ifnonnull 5, 3) := by decide +kernel
theorem dGH_about_10 : decode cGH_about 10 = .ok (.iconst (-1), 1) := by decide +kernel
theorem dGH_about_11 : decode cGH_about 11 = .ok (.ireturn, 1) := by decide +kernel
theorem dGH_about_12 : decode cGH_about 12 = .ok (.iload_n 2, 1) := by decide +kernel
theorem dGH_about_13 : decode cGH_about 13 = .ok (.tableswitch 103 0 6 #[43, 51, 56, 61, 66, 71, 87], 43) := by decide +kernel
theorem dGH_about_56 : decode cGH_about 56 = .ok (.aload_n 3, 1) := by decide +kernel
theorem dGH_about_57 : decode cGH_about 57 = .ok (.invokevirtual 80, 3) := by decide +kernel
theorem dGH_about_60 : decode cGH_about 60 = .ok (.invokevirtual 83, 3) := by decide +kernel
theorem dGH_about_63 : decode cGH_about 63 = .ok (.ireturn, 1) := by decide +kernel
theorem dGH_about_64 : decode cGH_about 64 = .ok (.aload_n 3, 1) := by decide +kernel
theorem dGH_about_65 : decode cGH_about 65 = .ok (.invokevirtual 87, 3) := by decide +kernel
theorem dGH_about_68 : decode cGH_about 68 = .ok (.ireturn, 1) := by decide +kernel
theorem dGH_about_69 : decode cGH_about 69 = .ok (.aload_n 3, 1) := by decide +kernel
theorem dGH_about_70 : decode cGH_about 70 = .ok (.invokevirtual 90, 3) := by decide +kernel
theorem dGH_about_73 : decode cGH_about 73 = .ok (.ireturn, 1) := by decide +kernel
theorem dGH_about_74 : decode cGH_about 74 = .ok (.aload_n 3, 1) := by decide +kernel
theorem dGH_about_75 : decode cGH_about 75 = .ok (.invokevirtual 93, 3) := by decide +kernel
theorem dGH_about_78 : decode cGH_about 78 = .ok (.ireturn, 1) := by decide +kernel
theorem dGH_about_79 : decode cGH_about 79 = .ok (.aload_n 3, 1) := by decide +kernel
theorem dGH_about_80 : decode cGH_about 80 = .ok (.invokevirtual 96, 3) := by decide +kernel
theorem dGH_about_83 : decode cGH_about 83 = .ok (.ireturn, 1) := by decide +kernel
theorem dGH_about_84 : decode cGH_about 84 = .ok (.aload_n 3, 1) := by decide +kernel
theorem dGH_about_85 : decode cGH_about 85 = .ok (.aload_n 0, 1) := by decide +kernel
theorem dGH_about_86 : decode cGH_about 86 = .ok (.getfield 29, 3) := by decide +kernel
theorem dGH_about_89 : decode cGH_about 89 = .ok (.aload_n 0, 1) := by decide +kernel
theorem dGH_about_90 : decode cGH_about 90 = .ok (.getfield 38, 3) := by decide +kernel
theorem dGH_about_93 : decode cGH_about 93 = .ok (.invokevirtual 99, 3) := by decide +kernel
theorem dGH_about_96 : decode cGH_about 96 = .ok (.invokevirtual 103, 3) := by decide +kernel
theorem dGH_about_99 : decode cGH_about 99 = .ok (.ireturn, 1) := by decide +kernel
theorem dGH_about_100 : decode cGH_about 100 = .ok (.aload_n 3, 1) := by decide +kernel
theorem dGH_about_101 : decode cGH_about 101 = .ok (.aload_n 0, 1) := by decide +kernel
theorem dGH_about_102 : decode cGH_about 102 = .ok (.getfield 29, 3) := by decide +kernel
theorem dGH_about_105 : decode cGH_about 105 = .ok (.aload_n 0, 1) := by decide +kernel
theorem dGH_about_106 : decode cGH_about 106 = .ok (.getfield 38, 3) := by decide +kernel
theorem dGH_about_109 : decode cGH_about 109 = .ok (.invokevirtual 108, 3) := by decide +kernel
theorem dGH_about_112 : decode cGH_about 112 = .ok (.invokevirtual 112, 3) := by decide +kernel
theorem dGH_about_115 : decode cGH_about 115 = .ok (.ireturn, 1) := by decide +kernel
theorem dGH_about_116 : decode cGH_about 116 = .ok (.iconst (-1), 1) := by decide +kernel
theorem dGH_about_117 : decode cGH_about 117 = .ok (.ireturn, 1) := by decide +kernel
theorem dGH_of_0 : decode cGH_of 0 = .ok (.aload_n 0, 1) := by decide +kernel
theorem dGH_of_1 : decode cGH_of 1 = .ok (.iload_n 1, 1) := by decide +kernel
theorem dGH_of_2 : decode cGH_of 2 = .ok (.invokevirtual 76, 3) := by decide +kernel
theorem dGH_of_5 : decode cGH_of 5 = .ok (.astore 4, 2) := by decide +kernel
theorem dGH_of_7 : decode cGH_of 7 = .ok (.aload 4, 2) := by decide +kernel
theorem dGH_of_9 : decode cGH_of 9 = .ok (.ifnull 19, 3) := by decide +kernel
theorem dGH_of_12 : decode cGH_of 12 = .ok (.iload_n 2, 1) := by decide +kernel
theorem dGH_of_13 : decode cGH_of 13 = .ok (.ifCond .lt 15, 3) := by decide +kernel
theorem dGH_of_16 : decode cGH_of 16 = .ok (.iload_n 2, 1) := by decide +kernel
theorem dGH_of_17 : decode cGH_of 17 = .ok (.aload 4, 2) := by decide +kernel
theorem dGH_of_19 : decode cGH_of 19 = .ok (.invokevirtual 80, 3) := by decide +kernel
theorem dGH_of_22 : decode cGH_of 22 = .ok (.invokevirtual 83, 3) := by decide +kernel
theorem dGH_of_25 : decode cGH_of 25 = .ok (.if_icmp .lt 5, 3) := by decide +kernel
theorem dGH_of_28 : decode cGH_of 28 = .ok (.iconst (-1), 1) := by decide +kernel
theorem dGH_of_29 : decode cGH_of 29 = .ok (.ireturn, 1) := by decide +kernel
theorem dGH_of_30 : decode cGH_of 30 = .ok (.aload 4, 2) := by decide +kernel
theorem dGH_of_32 : decode cGH_of 32 = .ok (.invokevirtual 80, 3) := by decide +kernel
theorem dGH_of_35 : decode cGH_of 35 = .ok (.iload_n 2, 1) := by decide +kernel
theorem dGH_of_36 : decode cGH_of 36 = .ok (.invokevirtual 115, 3) := by decide +kernel
theorem dGH_of_39 : decode cGH_of 39 = .ok (.istore 5, 2) := by decide +kernel
theorem dGH_of_41 : decode cGH_of 41 = .ok (.iload_n 3, 1) := by decide +kernel
theorem dGH_of_42 : decode cGH_of 42 = .ok (.tableswitch 86 0 4 #[34, 41, 48, 58, 68], 34) := by decide +kernel
theorem dGH_of_76 : decode cGH_of 76 = .ok (.iload 5, 2) := by decide +kernel
theorem dGH_of_78 : decode cGH_of 78 = .ok (.sipush 13824, 3) := by decide +kernel
theorem dGH_of_81 : decode cGH_of 81 = .ok (.idiv, 1) := by decide +kernel
theorem dGH_of_82 : decode cGH_of 82 = .ok (.ireturn, 1) := by decide +kernel
theorem dGH_of_83 : decode cGH_of 83 = .ok (.iload 5, 2) := by decide +kernel
theorem dGH_of_85 : decode cGH_of 85 = .ok (.sipush 13824, 3) := by decide +kernel
theorem dGH_of_88 : decode cGH_of 88 = .ok (.irem, 1) := by decide +kernel
theorem dGH_of_89 : decode cGH_of 89 = .ok (.ireturn, 1) := by decide +kernel
theorem dGH_of_90 : decode cGH_of 90 = .ok (.aload_n 0, 1) := by decide +kernel
theorem dGH_of_91 : decode cGH_of 91 = .ok (.getfield 29, 3) := by decide +kernel
theorem dGH_of_94 : decode cGH_of 94 = .ok (.iload 5, 2) := by decide +kernel
theorem dGH_of_96 : decode cGH_of 96 = .ok (.invokevirtual 118, 3) := by decide +kernel
theorem dGH_of_99 : decode cGH_of 99 = .ok (.ireturn, 1) := by decide +kernel
theorem dGH_of_100 : decode cGH_of 100 = .ok (.aload_n 0, 1) := by decide +kernel
theorem dGH_of_101 : decode cGH_of 101 = .ok (.getfield 29, 3) := by decide +kernel
theorem dGH_of_104 : decode cGH_of 104 = .ok (.iload 5, 2) := by decide +kernel
theorem dGH_of_106 : decode cGH_of 106 = .ok (.invokevirtual 121, 3) := by decide +kernel
theorem dGH_of_109 : decode cGH_of 109 = .ok (.ireturn, 1) := by decide +kernel
theorem dGH_of_110 : decode cGH_of 110 = .ok (.aload 4, 2) := by decide +kernel
theorem dGH_of_112 : decode cGH_of 112 = .ok (.aload_n 0, 1) := by decide +kernel
theorem dGH_of_113 : decode cGH_of 113 = .ok (.getfield 29, 3) := by decide +kernel
theorem dGH_of_116 : decode cGH_of 116 = .ok (.aload_n 0, 1) := by decide +kernel
theorem dGH_of_117 : decode cGH_of 117 = .ok (.getfield 38, 3) := by decide +kernel
theorem dGH_of_120 : decode cGH_of 120 = .ok (.invokevirtual 99, 3) := by decide +kernel
theorem dGH_of_123 : decode cGH_of 123 = .ok (.iload_n 2, 1) := by decide +kernel
theorem dGH_of_124 : decode cGH_of 124 = .ok (.invokevirtual 124, 3) := by decide +kernel
theorem dGH_of_127 : decode cGH_of 127 = .ok (.ireturn, 1) := by decide +kernel
theorem dGH_of_128 : decode cGH_of 128 = .ok (.iconst (-1), 1) := by decide +kernel
theorem dGH_of_129 : decode cGH_of 129 = .ok (.ireturn, 1) := by decide +kernel
theorem dGH_product_0 : decode cGH_product 0 = .ok (.aload_n 0, 1) := by decide +kernel
theorem dGH_product_1 : decode cGH_product 1 = .ok (.iload_n 1, 1) := by decide +kernel
theorem dGH_product_2 : decode cGH_product 2 = .ok (.invokevirtual 76, 3) := by decide +kernel
theorem dGH_product_5 : decode cGH_product 5 = .ok (.astore 4, 2) := by decide +kernel
theorem dGH_product_7 : decode cGH_product 7 = .ok (.aload 4, 2) := by decide +kernel
theorem dGH_product_9 : decode cGH_product 9 = .ok (.ifnonnull 5, 3) := by decide +kernel
theorem dGH_product_12 : decode cGH_product 12 = .ok (.iconst (-1), 1) := by decide +kernel
theorem dGH_product_13 : decode cGH_product 13 = .ok (.ireturn, 1) := by decide +kernel
theorem dGH_product_14 : decode cGH_product 14 = .ok (.aload 4, 2) := by decide +kernel
theorem dGH_product_16 : decode cGH_product 16 = .ok (.invokevirtual 80, 3) := by decide +kernel
theorem dGH_product_19 : decode cGH_product 19 = .ok (.iload_n 2, 1) := by decide +kernel
theorem dGH_product_20 : decode cGH_product 20 = .ok (.invokevirtual 115, 3) := by decide +kernel
theorem dGH_product_23 : decode cGH_product 23 = .ok (.istore 5, 2) := by decide +kernel
theorem dGH_product_25 : decode cGH_product 25 = .ok (.aload 4, 2) := by decide +kernel
theorem dGH_product_27 : decode cGH_product 27 = .ok (.invokevirtual 80, 3) := by decide +kernel
theorem dGH_product_30 : decode cGH_product 30 = .ok (.iload_n 3, 1) := by decide +kernel
theorem dGH_product_31 : decode cGH_product 31 = .ok (.invokevirtual 115, 3) := by decide +kernel
theorem dGH_product_34 : decode cGH_product 34 = .ok (.istore 6, 2) := by decide +kernel
theorem dGH_product_36 : decode cGH_product 36 = .ok (.iload 5, 2) := by decide +kernel
theorem dGH_product_38 : decode cGH_product 38 = .ok (.iconst (-1), 1) := by decide +kernel
theorem dGH_product_39 : decode cGH_product 39 = .ok (.if_icmp .eq 9, 3) := by decide +kernel
theorem dGH_product_42 : decode cGH_product 42 = .ok (.iload 6, 2) := by decide +kernel
theorem dGH_product_44 : decode cGH_product 44 = .ok (.iconst (-1), 1) := by decide +kernel
theorem dGH_product_45 : decode cGH_product 45 = .ok (.if_icmp .ne 7, 3) := by decide +kernel
theorem dGH_product_48 : decode cGH_product 48 = .ok (.iconst (-1), 1) := by decide +kernel
theorem dGH_product_49 : decode cGH_product 49 = .ok (.goto 22, 3) := by decide +kernel
theorem dGH_product_52 : decode cGH_product 52 = .ok (.aload 4, 2) := by decide +kernel
theorem dGH_product_54 : decode cGH_product 54 = .ok (.invokevirtual 80, 3) := by decide +kernel
theorem dGH_product_57 : decode cGH_product 57 = .ok (.aload_n 0, 1) := by decide +kernel
theorem dGH_product_58 : decode cGH_product 58 = .ok (.getfield 29, 3) := by decide +kernel
theorem dGH_product_61 : decode cGH_product 61 = .ok (.iload 5, 2) := by decide +kernel
theorem dGH_product_63 : decode cGH_product 63 = .ok (.iload 6, 2) := by decide +kernel
theorem dGH_product_65 : decode cGH_product 65 = .ok (.invokevirtual 127, 3) := by decide +kernel
theorem dGH_product_68 : decode cGH_product 68 = .ok (.invokevirtual 131, 3) := by decide +kernel
theorem dGH_product_71 : decode cGH_product 71 = .ok (.ireturn, 1) := by decide +kernel
theorem dGH_find_0 : decode cGH_find 0 = .ok (.aload_n 0, 1) := by decide +kernel
theorem dGH_find_1 : decode cGH_find 1 = .ok (.iload_n 1, 1) := by decide +kernel
theorem dGH_find_2 : decode cGH_find 2 = .ok (.invokevirtual 76, 3) := by decide +kernel
theorem dGH_find_5 : decode cGH_find 5 = .ok (.astore 4, 2) := by decide +kernel
theorem dGH_find_7 : decode cGH_find 7 = .ok (.aload 4, 2) := by decide +kernel
theorem dGH_find_9 : decode cGH_find 9 = .ok (.ifnull 17, 3) := by decide +kernel
theorem dGH_find_12 : decode cGH_find 12 = .ok (.iload_n 2, 1) := by decide +kernel
theorem dGH_find_13 : decode cGH_find 13 = .ok (.invokestatic 51, 3) := by decide +kernel
theorem dGH_find_16 : decode cGH_find 16 = .ok (.ifCond .eq 10, 3) := by decide +kernel
theorem dGH_find_19 : decode cGH_find 19 = .ok (.iload_n 3, 1) := by decide +kernel
theorem dGH_find_20 : decode cGH_find 20 = .ok (.invokestatic 55, 3) := by decide +kernel
theorem dGH_find_23 : decode cGH_find 23 = .ok (.ifCond .ne 5, 3) := by decide +kernel
theorem dGH_find_26 : decode cGH_find 26 = .ok (.iconst (-1), 1) := by decide +kernel
theorem dGH_find_27 : decode cGH_find 27 = .ok (.ireturn, 1) := by decide +kernel
theorem dGH_find_28 : decode cGH_find 28 = .ok (.aload 4, 2) := by decide +kernel
theorem dGH_find_30 : decode cGH_find 30 = .ok (.invokevirtual 80, 3) := by decide +kernel
theorem dGH_find_33 : decode cGH_find 33 = .ok (.iload_n 2, 1) := by decide +kernel
theorem dGH_find_34 : decode cGH_find 34 = .ok (.sipush 13824, 3) := by decide +kernel
theorem dGH_find_37 : decode cGH_find 37 = .ok (.imul, 1) := by decide +kernel
theorem dGH_find_38 : decode cGH_find 38 = .ok (.iload_n 3, 1) := by decide +kernel
theorem dGH_find_39 : decode cGH_find 39 = .ok (.iadd, 1) := by decide +kernel
theorem dGH_find_40 : decode cGH_find 40 = .ok (.invokevirtual 131, 3) := by decide +kernel
theorem dGH_find_43 : decode cGH_find 43 = .ok (.ireturn, 1) := by decide +kernel
theorem dGH_half_0 : decode cGH_half 0 = .ok (.aload_n 0, 1) := by decide +kernel
theorem dGH_half_1 : decode cGH_half 1 = .ok (.iload_n 1, 1) := by decide +kernel
theorem dGH_half_2 : decode cGH_half 2 = .ok (.invokevirtual 76, 3) := by decide +kernel
theorem dGH_half_5 : decode cGH_half 5 = .ok (.astore_n 3, 1) := by decide +kernel
theorem dGH_half_6 : decode cGH_half 6 = .ok (.aload_n 3, 1) := by decide +kernel
theorem dGH_half_7 : decode cGH_half 7 = .ok (.ifnonnull 5, 3) := by decide +kernel
theorem dGH_half_10 : decode cGH_half 10 = .ok (.iconst (-1), 1) := by decide +kernel
theorem dGH_half_11 : decode cGH_half 11 = .ok (.ireturn, 1) := by decide +kernel
theorem dGH_half_12 : decode cGH_half 12 = .ok (.aload_n 3, 1) := by decide +kernel
theorem dGH_half_13 : decode cGH_half 13 = .ok (.aload_n 0, 1) := by decide +kernel
theorem dGH_half_14 : decode cGH_half 14 = .ok (.getfield 29, 3) := by decide +kernel
theorem dGH_half_17 : decode cGH_half 17 = .ok (.aload_n 0, 1) := by decide +kernel
theorem dGH_half_18 : decode cGH_half 18 = .ok (.getfield 38, 3) := by decide +kernel
theorem dGH_half_21 : decode cGH_half 21 = .ok (.invokevirtual 108, 3) := by decide +kernel
theorem dGH_half_24 : decode cGH_half 24 = .ok (.astore 4, 2) := by decide +kernel
theorem dGH_half_26 : decode cGH_half 26 = .ok (.iload_n 2, 1) := by decide +kernel
theorem dGH_half_27 : decode cGH_half 27 = .ok (.ifCond .lt 12, 3) := by decide +kernel
theorem dGH_half_30 : decode cGH_half 30 = .ok (.iload_n 2, 1) := by decide +kernel
theorem dGH_half_31 : decode cGH_half 31 = .ok (.aload 4, 2) := by decide +kernel
theorem dGH_half_33 : decode cGH_half 33 = .ok (.invokevirtual 112, 3) := by decide +kernel
theorem dGH_half_36 : decode cGH_half 36 = .ok (.if_icmp .lt 5, 3) := by decide +kernel
theorem dGH_half_39 : decode cGH_half 39 = .ok (.iconst (-1), 1) := by decide +kernel
theorem dGH_half_40 : decode cGH_half 40 = .ok (.ireturn, 1) := by decide +kernel
theorem dGH_half_41 : decode cGH_half 41 = .ok (.aload 4, 2) := by decide +kernel
theorem dGH_half_43 : decode cGH_half 43 = .ok (.iload_n 2, 1) := by decide +kernel
theorem dGH_half_44 : decode cGH_half 44 = .ok (.aload_n 3, 1) := by decide +kernel
theorem dGH_half_45 : decode cGH_half 45 = .ok (.invokevirtual 80, 3) := by decide +kernel
theorem dGH_half_48 : decode cGH_half 48 = .ok (.aload_n 0, 1) := by decide +kernel
theorem dGH_half_49 : decode cGH_half 49 = .ok (.getfield 47, 3) := by decide +kernel
theorem dGH_half_52 : decode cGH_half 52 = .ok (.invokevirtual 134, 3) := by decide +kernel
theorem dGH_half_55 : decode cGH_half 55 = .ok (.aload_n 0, 1) := by decide +kernel
theorem dGH_half_56 : decode cGH_half 56 = .ok (.aload_n 0, 1) := by decide +kernel
theorem dGH_half_57 : decode cGH_half 57 = .ok (.getfield 47, 3) := by decide +kernel
theorem dGH_half_60 : decode cGH_half 60 = .ok (.invokevirtual 72, 3) := by decide +kernel
theorem dGH_half_63 : decode cGH_half 63 = .ok (.ireturn, 1) := by decide +kernel
theorem dGH_both_0 : decode cGH_both 0 = .ok (.aload_n 0, 1) := by decide +kernel
theorem dGH_both_1 : decode cGH_both 1 = .ok (.iload_n 1, 1) := by decide +kernel
theorem dGH_both_2 : decode cGH_both 2 = .ok (.invokevirtual 76, 3) := by decide +kernel
theorem dGH_both_5 : decode cGH_both 5 = .ok (.astore_n 3, 1) := by decide +kernel
theorem dGH_both_6 : decode cGH_both 6 = .ok (.aload_n 0, 1) := by decide +kernel
theorem dGH_both_7 : decode cGH_both 7 = .ok (.iload_n 2, 1) := by decide +kernel
theorem dGH_both_8 : decode cGH_both 8 = .ok (.invokevirtual 76, 3) := by decide +kernel
theorem dGH_both_11 : decode cGH_both 11 = .ok (.astore 4, 2) := by decide +kernel
theorem dGH_both_13 : decode cGH_both 13 = .ok (.aload_n 3, 1) := by decide +kernel
theorem dGH_both_14 : decode cGH_both 14 = .ok (.ifnull 8, 3) := by decide +kernel
theorem dGH_both_17 : decode cGH_both 17 = .ok (.aload 4, 2) := by decide +kernel
theorem dGH_both_19 : decode cGH_both 19 = .ok (.ifnonnull 5, 3) := by decide +kernel
theorem dGH_both_22 : decode cGH_both 22 = .ok (.iconst (-1), 1) := by decide +kernel
theorem dGH_both_23 : decode cGH_both 23 = .ok (.ireturn, 1) := by decide +kernel
theorem dGH_both_24 : decode cGH_both 24 = .ok (.aload_n 0, 1) := by decide +kernel
theorem dGH_both_25 : decode cGH_both 25 = .ok (.getfield 47, 3) := by decide +kernel
theorem dGH_both_28 : decode cGH_both 28 = .ok (.invokevirtual 138, 3) := by decide +kernel
theorem dGH_both_31 : decode cGH_both 31 = .ok (.iconst 0, 1) := by decide +kernel
theorem dGH_both_32 : decode cGH_both 32 = .ok (.istore 5, 2) := by decide +kernel
theorem dGH_both_34 : decode cGH_both 34 = .ok (.iload 5, 2) := by decide +kernel
theorem dGH_both_36 : decode cGH_both 36 = .ok (.aload_n 3, 1) := by decide +kernel
theorem dGH_both_37 : decode cGH_both 37 = .ok (.invokevirtual 80, 3) := by decide +kernel
theorem dGH_both_40 : decode cGH_both 40 = .ok (.invokevirtual 83, 3) := by decide +kernel
theorem dGH_both_43 : decode cGH_both 43 = .ok (.if_icmp .ge 43, 3) := by decide +kernel
theorem dGH_both_46 : decode cGH_both 46 = .ok (.aload_n 3, 1) := by decide +kernel
theorem dGH_both_47 : decode cGH_both 47 = .ok (.invokevirtual 80, 3) := by decide +kernel
theorem dGH_both_50 : decode cGH_both 50 = .ok (.iload 5, 2) := by decide +kernel
theorem dGH_both_52 : decode cGH_both 52 = .ok (.invokevirtual 115, 3) := by decide +kernel
theorem dGH_both_55 : decode cGH_both 55 = .ok (.istore 6, 2) := by decide +kernel
theorem dGH_both_57 : decode cGH_both 57 = .ok (.aload 4, 2) := by decide +kernel
theorem dGH_both_59 : decode cGH_both 59 = .ok (.invokevirtual 80, 3) := by decide +kernel
theorem dGH_both_62 : decode cGH_both 62 = .ok (.iload 6, 2) := by decide +kernel
theorem dGH_both_64 : decode cGH_both 64 = .ok (.invokevirtual 141, 3) := by decide +kernel
theorem dGH_both_67 : decode cGH_both 67 = .ok (.ifCond .eq 13, 3) := by decide +kernel
theorem dGH_both_70 : decode cGH_both 70 = .ok (.aload_n 0, 1) := by decide +kernel
theorem dGH_both_71 : decode cGH_both 71 = .ok (.getfield 47, 3) := by decide +kernel
theorem dGH_both_74 : decode cGH_both 74 = .ok (.iload 6, 2) := by decide +kernel
theorem dGH_both_76 : decode cGH_both 76 = .ok (.invokevirtual 144, 3) := by decide +kernel
theorem dGH_both_79 : decode cGH_both 79 = .ok (.pop, 1) := by decide +kernel
theorem dGH_both_80 : decode cGH_both 80 = .ok (.iinc 5 1, 3) := by decide +kernel
theorem dGH_both_83 : decode cGH_both 83 = .ok (.goto (-49), 3) := by decide +kernel
theorem dGH_both_86 : decode cGH_both 86 = .ok (.aload_n 0, 1) := by decide +kernel
theorem dGH_both_87 : decode cGH_both 87 = .ok (.aload_n 0, 1) := by decide +kernel
theorem dGH_both_88 : decode cGH_both 88 = .ok (.getfield 47, 3) := by decide +kernel
theorem dGH_both_91 : decode cGH_both 91 = .ok (.invokevirtual 72, 3) := by decide +kernel
theorem dGH_both_94 : decode cGH_both 94 = .ok (.ireturn, 1) := by decide +kernel
theorem dGH_centre_0 : decode cGH_centre 0 = .ok (.aload_n 0, 1) := by decide +kernel
theorem dGH_centre_1 : decode cGH_centre 1 = .ok (.iload_n 1, 1) := by decide +kernel
theorem dGH_centre_2 : decode cGH_centre 2 = .ok (.invokevirtual 76, 3) := by decide +kernel
theorem dGH_centre_5 : decode cGH_centre 5 = .ok (.astore_n 2, 1) := by decide +kernel
theorem dGH_centre_6 : decode cGH_centre 6 = .ok (.aload_n 2, 1) := by decide +kernel
theorem dGH_centre_7 : decode cGH_centre 7 = .ok (.ifnonnull 5, 3) := by decide +kernel
theorem dGH_centre_10 : decode cGH_centre 10 = .ok (.iconst (-1), 1) := by decide +kernel
theorem dGH_centre_11 : decode cGH_centre 11 = .ok (.ireturn, 1) := by decide +kernel
theorem dGH_centre_12 : decode cGH_centre 12 = .ok (.aload_n 2, 1) := by decide +kernel
theorem dGH_centre_13 : decode cGH_centre 13 = .ok (.aload_n 0, 1) := by decide +kernel
theorem dGH_centre_14 : decode cGH_centre 14 = .ok (.getfield 29, 3) := by decide +kernel
theorem dGH_centre_17 : decode cGH_centre 17 = .ok (.aload_n 0, 1) := by decide +kernel
theorem dGH_centre_18 : decode cGH_centre 18 = .ok (.getfield 38, 3) := by decide +kernel
theorem dGH_centre_21 : decode cGH_centre 21 = .ok (.invokevirtual 99, 3) := by decide +kernel
theorem dGH_centre_24 : decode cGH_centre 24 = .ok (.astore_n 3, 1) := by decide +kernel
theorem dGH_centre_25 : decode cGH_centre 25 = .ok (.aload_n 0, 1) := by decide +kernel
theorem dGH_centre_26 : decode cGH_centre 26 = .ok (.getfield 47, 3) := by decide +kernel
theorem dGH_centre_29 : decode cGH_centre 29 = .ok (.invokevirtual 138, 3) := by decide +kernel
theorem dGH_centre_32 : decode cGH_centre 32 = .ok (.iconst 0, 1) := by decide +kernel
theorem dGH_centre_33 : decode cGH_centre 33 = .ok (.istore 4, 2) := by decide +kernel
theorem dGH_centre_35 : decode cGH_centre 35 = .ok (.iload 4, 2) := by decide +kernel
theorem dGH_centre_37 : decode cGH_centre 37 = .ok (.aload_n 2, 1) := by decide +kernel
theorem dGH_centre_38 : decode cGH_centre 38 = .ok (.invokevirtual 80, 3) := by decide +kernel
theorem dGH_centre_41 : decode cGH_centre 41 = .ok (.invokevirtual 83, 3) := by decide +kernel
theorem dGH_centre_44 : decode cGH_centre 44 = .ok (.if_icmp .ge 36, 3) := by decide +kernel
theorem dGH_centre_47 : decode cGH_centre 47 = .ok (.aload_n 3, 1) := by decide +kernel
theorem dGH_centre_48 : decode cGH_centre 48 = .ok (.iload 4, 2) := by decide +kernel
theorem dGH_centre_50 : decode cGH_centre 50 = .ok (.invokevirtual 124, 3) := by decide +kernel
theorem dGH_centre_53 : decode cGH_centre 53 = .ok (.iconst 1, 1) := by decide +kernel
theorem dGH_centre_54 : decode cGH_centre 54 = .ok (.if_icmp .ne 20, 3) := by decide +kernel
theorem dGH_centre_57 : decode cGH_centre 57 = .ok (.aload_n 0, 1) := by decide +kernel
theorem dGH_centre_58 : decode cGH_centre 58 = .ok (.getfield 47, 3) := by decide +kernel
theorem dGH_centre_61 : decode cGH_centre 61 = .ok (.aload_n 2, 1) := by decide +kernel
theorem dGH_centre_62 : decode cGH_centre 62 = .ok (.invokevirtual 80, 3) := by decide +kernel
theorem dGH_centre_65 : decode cGH_centre 65 = .ok (.iload 4, 2) := by decide +kernel
theorem dGH_centre_67 : decode cGH_centre 67 = .ok (.invokevirtual 115, 3) := by decide +kernel
theorem dGH_centre_70 : decode cGH_centre 70 = .ok (.invokevirtual 144, 3) := by decide +kernel
theorem dGH_centre_73 : decode cGH_centre 73 = .ok (.pop, 1) := by decide +kernel
theorem dGH_centre_74 : decode cGH_centre 74 = .ok (.iinc 4 1, 3) := by decide +kernel
theorem dGH_centre_77 : decode cGH_centre 77 = .ok (.goto (-42), 3) := by decide +kernel
theorem dGH_centre_80 : decode cGH_centre 80 = .ok (.aload_n 0, 1) := by decide +kernel
theorem dGH_centre_81 : decode cGH_centre 81 = .ok (.aload_n 0, 1) := by decide +kernel
theorem dGH_centre_82 : decode cGH_centre 82 = .ok (.getfield 47, 3) := by decide +kernel
theorem dGH_centre_85 : decode cGH_centre 85 = .ok (.invokevirtual 72, 3) := by decide +kernel
theorem dGH_centre_88 : decode cGH_centre 88 = .ok (.ireturn, 1) := by decide +kernel
theorem dGH_within_0 : decode cGH_within 0 = .ok (.aload_n 0, 1) := by decide +kernel
theorem dGH_within_1 : decode cGH_within 1 = .ok (.iload_n 1, 1) := by decide +kernel
theorem dGH_within_2 : decode cGH_within 2 = .ok (.invokevirtual 76, 3) := by decide +kernel
theorem dGH_within_5 : decode cGH_within 5 = .ok (.astore_n 3, 1) := by decide +kernel
theorem dGH_within_6 : decode cGH_within 6 = .ok (.aload_n 0, 1) := by decide +kernel
theorem dGH_within_7 : decode cGH_within 7 = .ok (.iload_n 2, 1) := by decide +kernel
theorem dGH_within_8 : decode cGH_within 8 = .ok (.invokevirtual 76, 3) := by decide +kernel
theorem dGH_within_11 : decode cGH_within 11 = .ok (.astore 4, 2) := by decide +kernel
theorem dGH_within_13 : decode cGH_within 13 = .ok (.aload_n 3, 1) := by decide +kernel
theorem dGH_within_14 : decode cGH_within 14 = .ok (.ifnull 8, 3) := by decide +kernel
theorem dGH_within_17 : decode cGH_within 17 = .ok (.aload 4, 2) := by decide +kernel
theorem dGH_within_19 : decode cGH_within 19 = .ok (.ifnonnull 5, 3) := by decide +kernel
theorem dGH_within_22 : decode cGH_within 22 = .ok (.iconst 0, 1) := by decide +kernel
theorem dGH_within_23 : decode cGH_within 23 = .ok (.ireturn, 1) := by decide +kernel
theorem dGH_within_24 : decode cGH_within 24 = .ok (.iconst 0, 1) := by decide +kernel
theorem dGH_within_25 : decode cGH_within 25 = .ok (.istore 5, 2) := by decide +kernel
theorem dGH_within_27 : decode cGH_within 27 = .ok (.iload 5, 2) := by decide +kernel
theorem dGH_within_29 : decode cGH_within 29 = .ok (.aload_n 3, 1) := by decide +kernel
theorem dGH_within_30 : decode cGH_within 30 = .ok (.invokevirtual 80, 3) := by decide +kernel
theorem dGH_within_33 : decode cGH_within 33 = .ok (.invokevirtual 83, 3) := by decide +kernel
theorem dGH_within_36 : decode cGH_within 36 = .ok (.if_icmp .ge 31, 3) := by decide +kernel
theorem dGH_within_39 : decode cGH_within 39 = .ok (.aload 4, 2) := by decide +kernel
theorem dGH_within_41 : decode cGH_within 41 = .ok (.invokevirtual 80, 3) := by decide +kernel
theorem dGH_within_44 : decode cGH_within 44 = .ok (.aload_n 3, 1) := by decide +kernel
theorem dGH_within_45 : decode cGH_within 45 = .ok (.invokevirtual 80, 3) := by decide +kernel
theorem dGH_within_48 : decode cGH_within 48 = .ok (.iload 5, 2) := by decide +kernel
theorem dGH_within_50 : decode cGH_within 50 = .ok (.invokevirtual 115, 3) := by decide +kernel
theorem dGH_within_53 : decode cGH_within 53 = .ok (.invokevirtual 141, 3) := by decide +kernel
theorem dGH_within_56 : decode cGH_within 56 = .ok (.ifCond .ne 5, 3) := by decide +kernel
theorem dGH_within_59 : decode cGH_within 59 = .ok (.iconst 0, 1) := by decide +kernel
theorem dGH_within_60 : decode cGH_within 60 = .ok (.ireturn, 1) := by decide +kernel
theorem dGH_within_61 : decode cGH_within 61 = .ok (.iinc 5 1, 3) := by decide +kernel
theorem dGH_within_64 : decode cGH_within 64 = .ok (.goto (-37), 3) := by decide +kernel
theorem dGH_within_67 : decode cGH_within 67 = .ok (.iconst 1, 1) := by decide +kernel
theorem dGH_within_68 : decode cGH_within 68 = .ok (.ireturn, 1) := by decide +kernel
theorem dGH_orbit_0 : decode cGH_orbit 0 = .ok (.aload_n 0, 1) := by decide +kernel
theorem dGH_orbit_1 : decode cGH_orbit 1 = .ok (.iload_n 1, 1) := by decide +kernel
theorem dGH_orbit_2 : decode cGH_orbit 2 = .ok (.invokevirtual 76, 3) := by decide +kernel
theorem dGH_orbit_5 : decode cGH_orbit 5 = .ok (.astore 4, 2) := by decide +kernel
theorem dGH_orbit_7 : decode cGH_orbit 7 = .ok (.aload 4, 2) := by decide +kernel
theorem dGH_orbit_9 : decode cGH_orbit 9 = .ok (.ifnull 10, 3) := by decide +kernel
theorem dGH_orbit_12 : decode cGH_orbit 12 = .ok (.iload_n 2, 1) := by decide +kernel
theorem dGH_orbit_13 : decode cGH_orbit 13 = .ok (.invokestatic 55, 3) := by decide +kernel
theorem dGH_orbit_16 : decode cGH_orbit 16 = .ok (.ifCond .ne 5, 3) := by decide +kernel
theorem dGH_orbit_19 : decode cGH_orbit 19 = .ok (.iconst (-1), 1) := by decide +kernel
theorem dGH_orbit_20 : decode cGH_orbit 20 = .ok (.ireturn, 1) := by decide +kernel
theorem dGH_orbit_21 : decode cGH_orbit 21 = .ok (.iload_n 3, 1) := by decide +kernel
theorem dGH_orbit_22 : decode cGH_orbit 22 = .ok (.tableswitch 84 (-3) (-1) #[62, 44, 26], 26) := by decide +kernel
theorem dGH_orbit_48 : decode cGH_orbit 48 = .ok (.aload_n 0, 1) := by decide +kernel
theorem dGH_orbit_49 : decode cGH_orbit 49 = .ok (.aload 4, 2) := by decide +kernel
theorem dGH_orbit_51 : decode cGH_orbit 51 = .ok (.invokevirtual 80, 3) := by decide +kernel
theorem dGH_orbit_54 : decode cGH_orbit 54 = .ok (.iload_n 2, 1) := by decide +kernel
theorem dGH_orbit_55 : decode cGH_orbit 55 = .ok (.invokevirtual 147, 3) := by decide +kernel
theorem dGH_orbit_58 : decode cGH_orbit 58 = .ok (.aload_n 0, 1) := by decide +kernel
theorem dGH_orbit_59 : decode cGH_orbit 59 = .ok (.getfield 47, 3) := by decide +kernel
theorem dGH_orbit_62 : decode cGH_orbit 62 = .ok (.invokevirtual 83, 3) := by decide +kernel
theorem dGH_orbit_65 : decode cGH_orbit 65 = .ok (.ireturn, 1) := by decide +kernel
theorem dGH_orbit_66 : decode cGH_orbit 66 = .ok (.aload_n 0, 1) := by decide +kernel
theorem dGH_orbit_67 : decode cGH_orbit 67 = .ok (.aload 4, 2) := by decide +kernel
theorem dGH_orbit_69 : decode cGH_orbit 69 = .ok (.invokevirtual 80, 3) := by decide +kernel
theorem dGH_orbit_72 : decode cGH_orbit 72 = .ok (.iload_n 2, 1) := by decide +kernel
theorem dGH_orbit_73 : decode cGH_orbit 73 = .ok (.invokevirtual 151, 3) := by decide +kernel
theorem dGH_orbit_76 : decode cGH_orbit 76 = .ok (.aload_n 0, 1) := by decide +kernel
theorem dGH_orbit_77 : decode cGH_orbit 77 = .ok (.getfield 47, 3) := by decide +kernel
theorem dGH_orbit_80 : decode cGH_orbit 80 = .ok (.invokevirtual 83, 3) := by decide +kernel
theorem dGH_orbit_83 : decode cGH_orbit 83 = .ok (.ireturn, 1) := by decide +kernel
theorem dGH_orbit_84 : decode cGH_orbit 84 = .ok (.aload_n 0, 1) := by decide +kernel
theorem dGH_orbit_85 : decode cGH_orbit 85 = .ok (.aload 4, 2) := by decide +kernel
theorem dGH_orbit_87 : decode cGH_orbit 87 = .ok (.invokevirtual 80, 3) := by decide +kernel
theorem dGH_orbit_90 : decode cGH_orbit 90 = .ok (.iload_n 2, 1) := by decide +kernel
theorem dGH_orbit_91 : decode cGH_orbit 91 = .ok (.invokevirtual 151, 3) := by decide +kernel
theorem dGH_orbit_94 : decode cGH_orbit 94 = .ok (.aload_n 0, 1) := by decide +kernel
theorem dGH_orbit_95 : decode cGH_orbit 95 = .ok (.getfield 47, 3) := by decide +kernel
theorem dGH_orbit_98 : decode cGH_orbit 98 = .ok (.aload_n 0, 1) := by decide +kernel
theorem dGH_orbit_99 : decode cGH_orbit 99 = .ok (.getfield 29, 3) := by decide +kernel
theorem dGH_orbit_102 : decode cGH_orbit 102 = .ok (.invokestatic 154, 3) := by decide +kernel
theorem dGH_orbit_105 : decode cGH_orbit 105 = .ok (.ireturn, 1) := by decide +kernel
theorem dGH_orbit_106 : decode cGH_orbit 106 = .ok (.aload_n 0, 1) := by decide +kernel
theorem dGH_orbit_107 : decode cGH_orbit 107 = .ok (.aload 4, 2) := by decide +kernel
theorem dGH_orbit_109 : decode cGH_orbit 109 = .ok (.invokevirtual 80, 3) := by decide +kernel
theorem dGH_orbit_112 : decode cGH_orbit 112 = .ok (.iload_n 2, 1) := by decide +kernel
theorem dGH_orbit_113 : decode cGH_orbit 113 = .ok (.invokevirtual 147, 3) := by decide +kernel
theorem dGH_orbit_116 : decode cGH_orbit 116 = .ok (.aload_n 0, 1) := by decide +kernel
theorem dGH_orbit_117 : decode cGH_orbit 117 = .ok (.getfield 47, 3) := by decide +kernel
theorem dGH_orbit_120 : decode cGH_orbit 120 = .ok (.iload_n 3, 1) := by decide +kernel
theorem dGH_orbit_121 : decode cGH_orbit 121 = .ok (.invokevirtual 115, 3) := by decide +kernel
theorem dGH_orbit_124 : decode cGH_orbit 124 = .ok (.ireturn, 1) := by decide +kernel
theorem dGH_gatherOrbit_0 : decode cGH_gatherOrbit 0 = .ok (.aload_n 0, 1) := by decide +kernel
theorem dGH_gatherOrbit_1 : decode cGH_gatherOrbit 1 = .ok (.getfield 47, 3) := by decide +kernel
theorem dGH_gatherOrbit_4 : decode cGH_gatherOrbit 4 = .ok (.invokevirtual 138, 3) := by decide +kernel
theorem dGH_gatherOrbit_7 : decode cGH_gatherOrbit 7 = .ok (.iconst 0, 1) := by decide +kernel
theorem dGH_gatherOrbit_8 : decode cGH_gatherOrbit 8 = .ok (.istore_n 3, 1) := by decide +kernel
theorem dGH_gatherOrbit_9 : decode cGH_gatherOrbit 9 = .ok (.iload_n 3, 1) := by decide +kernel
theorem dGH_gatherOrbit_10 : decode cGH_gatherOrbit 10 = .ok (.aload_n 1, 1) := by decide +kernel
theorem dGH_gatherOrbit_11 : decode cGH_gatherOrbit 11 = .ok (.invokevirtual 83, 3) := by decide +kernel
theorem dGH_gatherOrbit_14 : decode cGH_gatherOrbit 14 = .ok (.if_icmp .ge 30, 3) := by decide +kernel
theorem dGH_gatherOrbit_17 : decode cGH_gatherOrbit 17 = .ok (.aload_n 0, 1) := by decide +kernel
theorem dGH_gatherOrbit_18 : decode cGH_gatherOrbit 18 = .ok (.getfield 47, 3) := by decide +kernel
theorem dGH_gatherOrbit_21 : decode cGH_gatherOrbit 21 = .ok (.aload_n 0, 1) := by decide +kernel
theorem dGH_gatherOrbit_22 : decode cGH_gatherOrbit 22 = .ok (.getfield 29, 3) := by decide +kernel
theorem dGH_gatherOrbit_25 : decode cGH_gatherOrbit 25 = .ok (.aload_n 1, 1) := by decide +kernel
theorem dGH_gatherOrbit_26 : decode cGH_gatherOrbit 26 = .ok (.iload_n 3, 1) := by decide +kernel
theorem dGH_gatherOrbit_27 : decode cGH_gatherOrbit 27 = .ok (.invokevirtual 115, 3) := by decide +kernel
theorem dGH_gatherOrbit_30 : decode cGH_gatherOrbit 30 = .ok (.iload_n 2, 1) := by decide +kernel
theorem dGH_gatherOrbit_31 : decode cGH_gatherOrbit 31 = .ok (.invokevirtual 165, 3) := by decide +kernel
theorem dGH_gatherOrbit_34 : decode cGH_gatherOrbit 34 = .ok (.invokevirtual 144, 3) := by decide +kernel
theorem dGH_gatherOrbit_37 : decode cGH_gatherOrbit 37 = .ok (.pop, 1) := by decide +kernel
theorem dGH_gatherOrbit_38 : decode cGH_gatherOrbit 38 = .ok (.iinc 3 1, 3) := by decide +kernel
theorem dGH_gatherOrbit_41 : decode cGH_gatherOrbit 41 = .ok (.goto (-32), 3) := by decide +kernel
theorem dGH_gatherOrbit_44 : decode cGH_gatherOrbit 44 = .ok (.return_, 1) := by decide +kernel
theorem dGH_gatherKeepers_0 : decode cGH_gatherKeepers 0 = .ok (.aload_n 0, 1) := by decide +kernel
theorem dGH_gatherKeepers_1 : decode cGH_gatherKeepers 1 = .ok (.getfield 47, 3) := by decide +kernel
theorem dGH_gatherKeepers_4 : decode cGH_gatherKeepers 4 = .ok (.invokevirtual 138, 3) := by decide +kernel
theorem dGH_gatherKeepers_7 : decode cGH_gatherKeepers 7 = .ok (.iconst 0, 1) := by decide +kernel
theorem dGH_gatherKeepers_8 : decode cGH_gatherKeepers 8 = .ok (.istore_n 3, 1) := by decide +kernel
theorem dGH_gatherKeepers_9 : decode cGH_gatherKeepers 9 = .ok (.iload_n 3, 1) := by decide +kernel
theorem dGH_gatherKeepers_10 : decode cGH_gatherKeepers 10 = .ok (.aload_n 1, 1) := by decide +kernel
theorem dGH_gatherKeepers_11 : decode cGH_gatherKeepers 11 = .ok (.invokevirtual 83, 3) := by decide +kernel
theorem dGH_gatherKeepers_14 : decode cGH_gatherKeepers 14 = .ok (.if_icmp .ge 40, 3) := by decide +kernel
theorem dGH_gatherKeepers_17 : decode cGH_gatherKeepers 17 = .ok (.aload_n 1, 1) := by decide +kernel
theorem dGH_gatherKeepers_18 : decode cGH_gatherKeepers 18 = .ok (.iload_n 3, 1) := by decide +kernel
theorem dGH_gatherKeepers_19 : decode cGH_gatherKeepers 19 = .ok (.invokevirtual 115, 3) := by decide +kernel
theorem dGH_gatherKeepers_22 : decode cGH_gatherKeepers 22 = .ok (.istore 4, 2) := by decide +kernel
theorem dGH_gatherKeepers_24 : decode cGH_gatherKeepers 24 = .ok (.aload_n 0, 1) := by decide +kernel
theorem dGH_gatherKeepers_25 : decode cGH_gatherKeepers 25 = .ok (.getfield 29, 3) := by decide +kernel
theorem dGH_gatherKeepers_28 : decode cGH_gatherKeepers 28 = .ok (.iload 4, 2) := by decide +kernel
theorem dGH_gatherKeepers_30 : decode cGH_gatherKeepers 30 = .ok (.iload_n 2, 1) := by decide +kernel
theorem dGH_gatherKeepers_31 : decode cGH_gatherKeepers 31 = .ok (.invokevirtual 165, 3) := by decide +kernel
theorem dGH_gatherKeepers_34 : decode cGH_gatherKeepers 34 = .ok (.iload_n 2, 1) := by decide +kernel
theorem dGH_gatherKeepers_35 : decode cGH_gatherKeepers 35 = .ok (.if_icmp .ne 13, 3) := by decide +kernel
theorem dGH_gatherKeepers_38 : decode cGH_gatherKeepers 38 = .ok (.aload_n 0, 1) := by decide +kernel
theorem dGH_gatherKeepers_39 : decode cGH_gatherKeepers 39 = .ok (.getfield 47, 3) := by decide +kernel
theorem dGH_gatherKeepers_42 : decode cGH_gatherKeepers 42 = .ok (.iload 4, 2) := by decide +kernel
theorem dGH_gatherKeepers_44 : decode cGH_gatherKeepers 44 = .ok (.invokevirtual 144, 3) := by decide +kernel
theorem dGH_gatherKeepers_47 : decode cGH_gatherKeepers 47 = .ok (.pop, 1) := by decide +kernel
theorem dGH_gatherKeepers_48 : decode cGH_gatherKeepers 48 = .ok (.iinc 3 1, 3) := by decide +kernel
theorem dGH_gatherKeepers_51 : decode cGH_gatherKeepers 51 = .ok (.goto (-42), 3) := by decide +kernel
theorem dGH_gatherKeepers_54 : decode cGH_gatherKeepers 54 = .ok (.return_, 1) := by decide +kernel
theorem dGH_keepers_0 : decode cGH_keepers 0 = .ok (.aload_n 0, 1) := by decide +kernel
theorem dGH_keepers_1 : decode cGH_keepers 1 = .ok (.iload_n 1, 1) := by decide +kernel
theorem dGH_keepers_2 : decode cGH_keepers 2 = .ok (.invokevirtual 76, 3) := by decide +kernel
theorem dGH_keepers_5 : decode cGH_keepers 5 = .ok (.astore_n 3, 1) := by decide +kernel
theorem dGH_keepers_6 : decode cGH_keepers 6 = .ok (.aload_n 3, 1) := by decide +kernel
theorem dGH_keepers_7 : decode cGH_keepers 7 = .ok (.ifnull 10, 3) := by decide +kernel
theorem dGH_keepers_10 : decode cGH_keepers 10 = .ok (.iload_n 2, 1) := by decide +kernel
end
section
/-! decode rows: written by wip/whole/names.py -/
theorem dGH_keepers_11 : decode cGH_keepers 11 = .ok (.invokestatic 55, 3) := by decide +kernel
theorem dGH_keepers_14 : decode cGH_keepers 14 = .ok (.ifCond .ne 5, 3) := by decide +kernel
theorem dGH_keepers_17 : decode cGH_keepers 17 = .ok (.iconst (-1), 1) := by decide +kernel
theorem dGH_keepers_18 : decode cGH_keepers 18 = .ok (.ireturn, 1) := by decide +kernel
theorem dGH_keepers_19 : decode cGH_keepers 19 = .ok (.aload_n 0, 1) := by decide +kernel
theorem dGH_keepers_20 : decode cGH_keepers 20 = .ok (.aload_n 3, 1) := by decide +kernel
theorem dGH_keepers_21 : decode cGH_keepers 21 = .ok (.invokevirtual 80, 3) := by decide +kernel
theorem dGH_keepers_24 : decode cGH_keepers 24 = .ok (.iload_n 2, 1) := by decide +kernel
theorem dGH_keepers_25 : decode cGH_keepers 25 = .ok (.invokevirtual 151, 3) := by decide +kernel
theorem dGH_keepers_28 : decode cGH_keepers 28 = .ok (.aload_n 0, 1) := by decide +kernel
theorem dGH_keepers_29 : decode cGH_keepers 29 = .ok (.aload_n 0, 1) := by decide +kernel
theorem dGH_keepers_30 : decode cGH_keepers 30 = .ok (.getfield 47, 3) := by decide +kernel
theorem dGH_keepers_33 : decode cGH_keepers 33 = .ok (.invokevirtual 72, 3) := by decide +kernel
theorem dGH_keepers_36 : decode cGH_keepers 36 = .ok (.ireturn, 1) := by decide +kernel
end
section
/-! static methods: written by wip/whole/gengr.py -/
def rmGH_isNine : Room := { frames := 0, cells := 0, slots := 0, locals := 0 }
set_option maxHeartbeats 4000000 in
set_option maxRecDepth 100000 in
theorem mGH_isNine (l : Launch) (D : va_G) (cI cG : ClassId) (x : Int) (hx1 : -2147483648 ≤ x ∧ x < 2147483648) : zRI l yGH_isNine wGH_isNine rmGH_isNine D vwCl (zT cI cG) [.int (iI x)] [] (fun z => (z = 1 ∧ 0 ≤ x ∧ x < 19683) ∨ (z = 0 ∧ ¬ (0 ≤ x ∧ x < 19683))) := by
  refine zRI.of (cc := cGH_isNine) (maxL := 1) (rt := .boolean) (by decide) rfl (Nat.le_of_ble_eq_true rfl) (fun z h => by rcases h with ⟨rfl, _⟩ | ⟨rfl, _⟩ <;> decide) ?_
  intro p e s m args below meth c ls Q hx hb hml hown hts hK hP hX hl hret
  have hS0 : va_S (fun _ => False) s.heap s.heap [] := va_S.rf
  have hl : lv_has ls 1 [(0, .int (iI x))] := hl
  refine lv_iload_n hx hb dGH_isNine_0 rfl (lv_at hl 0 rfl) ?_
  refine lz_if_lt (tgt := 15) hx hb dGH_isNine_1 (by decide) (by omega) (fun c_1 => ?_) (fun c_1 => ?_)
  · refine lv_iconst (v := iI (0)) hx hb dGH_isNine_15 rfl ?_
    exact hret 16 ls 0 (Or.inr ⟨rfl, by omega⟩) dGH_isNine_16
  · refine lv_iload_n hx hb dGH_isNine_4 rfl (lv_at hl 0 rfl) ?_
    refine lv_sipush (v := iI (19683)) hx hb dGH_isNine_5 (by decide) ?_
    refine lz_icmp_ge (tgt := 15) hx hb dGH_isNine_8 (by decide) (by omega) (by omega) (fun c_8 => ?_) (fun c_8 => ?_)
    · refine lv_iconst (v := iI (0)) hx hb dGH_isNine_15 rfl ?_
      exact hret 16 ls 0 (Or.inr ⟨rfl, by omega⟩) dGH_isNine_16
    · refine lv_iconst (v := iI (1)) hx hb dGH_isNine_11 rfl ?_
      refine lv_goto (tgt := 16) hx hb dGH_isNine_12 (by decide) ?_
      exact hret 16 ls 1 (Or.inl ⟨rfl, by omega⟩) dGH_isNine_16

def rmGH_isPlace : Room := { frames := 0, cells := 0, slots := 0, locals := 0 }
set_option maxHeartbeats 4000000 in
set_option maxRecDepth 100000 in
theorem mGH_isPlace (l : Launch) (D : va_G) (cI cG : ClassId) (x : Int) (hx1 : -2147483648 ≤ x ∧ x < 2147483648) : zRI l yGH_isPlace wGH_isPlace rmGH_isPlace D vwCl (zT cI cG) [.int (iI x)] [] (fun z => (z = 1 ∧ 0 ≤ x ∧ x < 13824) ∨ (z = 0 ∧ ¬ (0 ≤ x ∧ x < 13824))) := by
  refine zRI.of (cc := cGH_isPlace) (maxL := 1) (rt := .boolean) (by decide) rfl (Nat.le_of_ble_eq_true rfl) (fun z h => by rcases h with ⟨rfl, _⟩ | ⟨rfl, _⟩ <;> decide) ?_
  intro p e s m args below meth c ls Q hx hb hml hown hts hK hP hX hl hret
  have hS0 : va_S (fun _ => False) s.heap s.heap [] := va_S.rf
  have hl : lv_has ls 1 [(0, .int (iI x))] := hl
  refine lv_iload_n hx hb dGH_isPlace_0 rfl (lv_at hl 0 rfl) ?_
  refine lz_if_lt (tgt := 15) hx hb dGH_isPlace_1 (by decide) (by omega) (fun c_1 => ?_) (fun c_1 => ?_)
  · refine lv_iconst (v := iI (0)) hx hb dGH_isPlace_15 rfl ?_
    exact hret 16 ls 0 (Or.inr ⟨rfl, by omega⟩) dGH_isPlace_16
  · refine lv_iload_n hx hb dGH_isPlace_4 rfl (lv_at hl 0 rfl) ?_
    refine lv_sipush (v := iI (13824)) hx hb dGH_isPlace_5 (by decide) ?_
    refine lz_icmp_ge (tgt := 15) hx hb dGH_isPlace_8 (by decide) (by omega) (by omega) (fun c_8 => ?_) (fun c_8 => ?_)
    · refine lv_iconst (v := iI (0)) hx hb dGH_isPlace_15 rfl ?_
      exact hret 16 ls 0 (Or.inr ⟨rfl, by omega⟩) dGH_isPlace_16
    · refine lv_iconst (v := iI (1)) hx hb dGH_isPlace_11 rfl ?_
      refine lv_goto (tgt := 16) hx hb dGH_isPlace_12 (by decide) ?_
      exact hret 16 ls 1 (Or.inl ⟨rfl, by omega⟩) dGH_isPlace_16

def rmGH_digitOf : Room := { frames := 0, cells := 0, slots := 0, locals := 0 }
set_option maxHeartbeats 4000000 in
set_option maxRecDepth 100000 in
theorem mGH_digitOf (l : Launch) (D : va_G) (cI cG : ClassId) (x : Int) (hx1 : -6 ≤ x ∧ x ≤ 6) : zRI l yGH_digitOf wGH_digitOf rmGH_digitOf D vwCl (zT cI cG) [.int (iI x)] [] (fun z => z = digK x) := by
  refine zRI.of (cc := cGH_digitOf) (maxL := 1) (rt := .int) (by decide) rfl (Nat.le_of_ble_eq_true rfl) (fun _ _ => rfl) ?_
  intro p e s m args below meth c ls Q hx hb hml hown hts hK hP hX hl hret
  have hS0 : va_S (fun _ => False) s.heap s.heap [] := va_S.rf
  have hl : lv_has ls 1 [(0, .int (iI x))] := hl
  refine lv_iload_n hx hb dGH_digitOf_0 rfl (lv_at hl 0 rfl) ?_
  rcases (show x = (-6) ∨ x = (-5) ∨ x = (-4) ∨ x = (-3) ∨ x = (-2) ∨ x = (-1) ∨ x = 0 ∨ x = 1 ∨ x = 2 ∨ x = 3 ∨ x = 4 ∨ x = 5 ∨ x = 6 ∨ (x < (-6) ∨ 6 < x) from by omega) with c_1 | c_1 | c_1 | c_1 | c_1 | c_1 | c_1 | c_1 | c_1 | c_1 | c_1 | c_1 | c_1 | c_1
  · refine lv_tableIn (tgt := 94) hx hb dGH_digitOf_1 (by rw [iI_toInt (by omega)]; omega) (by rw [iI_toInt (by omega)]; omega) (by rw [iI_toInt (by omega), c_1]; rfl) (by decide) ?_
    refine lv_iconst (v := iI (1)) hx hb dGH_digitOf_94 rfl ?_
    exact hret 95 ls 1 (by unfold digK; (repeat rw [if_neg (by omega)]) <;> first | rfl | rw [if_pos c_1]) dGH_digitOf_95
  · refine lv_tableIn (tgt := 96) hx hb dGH_digitOf_1 (by rw [iI_toInt (by omega)]; omega) (by rw [iI_toInt (by omega)]; omega) (by rw [iI_toInt (by omega), c_1]; rfl) (by decide) ?_
    refine lv_iconst (v := iI (0)) hx hb dGH_digitOf_96 rfl ?_
    exact hret 97 ls 0 (by unfold digK; (repeat rw [if_neg (by omega)]) <;> first | rfl | rw [if_pos c_1]) dGH_digitOf_97
  · refine lv_tableIn (tgt := 91) hx hb dGH_digitOf_1 (by rw [iI_toInt (by omega)]; omega) (by rw [iI_toInt (by omega)]; omega) (by rw [iI_toInt (by omega), c_1]; rfl) (by decide) ?_
    refine lv_bipush (v := iI (10)) hx hb dGH_digitOf_91 (by decide) ?_
    exact hret 93 ls 10 (by unfold digK; (repeat rw [if_neg (by omega)]) <;> first | rfl | rw [if_pos c_1]) dGH_digitOf_93
  · refine lv_tableIn (tgt := 88) hx hb dGH_digitOf_1 (by rw [iI_toInt (by omega)]; omega) (by rw [iI_toInt (by omega)]; omega) (by rw [iI_toInt (by omega), c_1]; rfl) (by decide) ?_
    refine lv_bipush (v := iI (100)) hx hb dGH_digitOf_88 (by decide) ?_
    exact hret 90 ls 100 (by unfold digK; (repeat rw [if_neg (by omega)]) <;> first | rfl | rw [if_pos c_1]) dGH_digitOf_90
  · refine lv_tableIn (tgt := 84) hx hb dGH_digitOf_1 (by rw [iI_toInt (by omega)]; omega) (by rw [iI_toInt (by omega)]; omega) (by rw [iI_toInt (by omega), c_1]; rfl) (by decide) ?_
    refine lv_sipush (v := iI (1000)) hx hb dGH_digitOf_84 (by decide) ?_
    exact hret 87 ls 1000 (by unfold digK; (repeat rw [if_neg (by omega)]) <;> first | rfl | rw [if_pos c_1]) dGH_digitOf_87
  · refine lv_tableIn (tgt := 80) hx hb dGH_digitOf_1 (by rw [iI_toInt (by omega)]; omega) (by rw [iI_toInt (by omega)]; omega) (by rw [iI_toInt (by omega), c_1]; rfl) (by decide) ?_
    refine lv_sipush (v := iI (10000)) hx hb dGH_digitOf_80 (by decide) ?_
    exact hret 83 ls 10000 (by unfold digK; (repeat rw [if_neg (by omega)]) <;> first | rfl | rw [if_pos c_1]) dGH_digitOf_83
  · refine lv_tableIn (tgt := 96) hx hb dGH_digitOf_1 (by rw [iI_toInt (by omega)]; omega) (by rw [iI_toInt (by omega)]; omega) (by rw [iI_toInt (by omega), c_1]; rfl) (by decide) ?_
    refine lv_iconst (v := iI (0)) hx hb dGH_digitOf_96 rfl ?_
    exact hret 97 ls 0 (by unfold digK; (repeat rw [if_neg (by omega)]) <;> first | rfl | rw [if_pos c_1]) dGH_digitOf_97
  · refine lv_tableIn (tgt := 96) hx hb dGH_digitOf_1 (by rw [iI_toInt (by omega)]; omega) (by rw [iI_toInt (by omega)]; omega) (by rw [iI_toInt (by omega), c_1]; rfl) (by decide) ?_
    refine lv_iconst (v := iI (0)) hx hb dGH_digitOf_96 rfl ?_
    exact hret 97 ls 0 (by unfold digK; (repeat rw [if_neg (by omega)]) <;> first | rfl | rw [if_pos c_1]) dGH_digitOf_97
  · refine lv_tableIn (tgt := 68) hx hb dGH_digitOf_1 (by rw [iI_toInt (by omega)]; omega) (by rw [iI_toInt (by omega)]; omega) (by rw [iI_toInt (by omega), c_1]; rfl) (by decide) ?_
    refine lz_ldc (z := 100000000) hx hb hown (hts _ (List.mem_cons_of_mem _ lkGH_174)) (by decide) dGH_digitOf_68 ?_
    exact hret 70 ls 100000000 (by unfold digK; (repeat rw [if_neg (by omega)]) <;> first | rfl | rw [if_pos c_1]) dGH_digitOf_70
  · refine lv_tableIn (tgt := 71) hx hb dGH_digitOf_1 (by rw [iI_toInt (by omega)]; omega) (by rw [iI_toInt (by omega)]; omega) (by rw [iI_toInt (by omega), c_1]; rfl) (by decide) ?_
    refine lz_ldc (z := 10000000) hx hb hown (hts _ (List.mem_cons_of_mem _ lkGH_175)) (by decide) dGH_digitOf_71 ?_
    exact hret 73 ls 10000000 (by unfold digK; (repeat rw [if_neg (by omega)]) <;> first | rfl | rw [if_pos c_1]) dGH_digitOf_73
  · refine lv_tableIn (tgt := 74) hx hb dGH_digitOf_1 (by rw [iI_toInt (by omega)]; omega) (by rw [iI_toInt (by omega)]; omega) (by rw [iI_toInt (by omega), c_1]; rfl) (by decide) ?_
    refine lz_ldc (z := 1000000) hx hb hown (hts _ (List.mem_cons_of_mem _ lkGH_176)) (by decide) dGH_digitOf_74 ?_
    exact hret 76 ls 1000000 (by unfold digK; (repeat rw [if_neg (by omega)]) <;> first | rfl | rw [if_pos c_1]) dGH_digitOf_76
  · refine lv_tableIn (tgt := 96) hx hb dGH_digitOf_1 (by rw [iI_toInt (by omega)]; omega) (by rw [iI_toInt (by omega)]; omega) (by rw [iI_toInt (by omega), c_1]; rfl) (by decide) ?_
    refine lv_iconst (v := iI (0)) hx hb dGH_digitOf_96 rfl ?_
    exact hret 97 ls 0 (by unfold digK; (repeat rw [if_neg (by omega)]) <;> first | rfl | rw [if_pos c_1]) dGH_digitOf_97
  · refine lv_tableIn (tgt := 77) hx hb dGH_digitOf_1 (by rw [iI_toInt (by omega)]; omega) (by rw [iI_toInt (by omega)]; omega) (by rw [iI_toInt (by omega), c_1]; rfl) (by decide) ?_
    refine lz_ldc (z := 100000) hx hb hown (hts _ (List.mem_cons_of_mem _ lkGH_177)) (by decide) dGH_digitOf_77 ?_
    exact hret 79 ls 100000 (by unfold digK; (repeat rw [if_neg (by omega)]) <;> first | rfl | rw [if_pos c_1]) dGH_digitOf_79
  · refine lv_tableOut (tgt := 96) hx hb dGH_digitOf_1 (by rw [iI_toInt (by omega)]; omega) (by decide) ?_
    refine lv_iconst (v := iI (0)) hx hb dGH_digitOf_96 rfl ?_
    exact hret 97 ls 0 (by unfold digK; (repeat rw [if_neg (by omega)]) <;> first | rfl | rw [if_pos c_1]) dGH_digitOf_97

def rmGH_classOf : Room := { frames := 3, cells := 0, slots := 0, locals := 67 }
set_option maxHeartbeats 4000000 in
set_option maxRecDepth 100000 in
theorem mGH_classOf (l : Launch) (D : va_G) (cI cG : ClassId) (r a n : Nat) (f : Nat → Int) (ks : List Int) (b lf rt : Nat) (gl gr : Nat → Int) (h : rowOK n f ks) (hsum : 0 ≤ rowT ks ks.length ∧ rowT ks ks.length < 2147483648) : zI l yGH_classOf wGH_classOf rmGH_classOf D vwCl (zT cI cG) [.ref r, .ref b] [(r, .inr (5, [.ref a, .int (iI (ks.length : Int))])), (a, .inl (cI, n, .inl (zf f))), (b, .inr (1, [.ref lf, .ref rt])), (lf, .inl (cI, 9, .inl (zf gl))), (rt, .inl (cI, 9, .inl (zf gr)))] (S := (Nat → Int)) (fun z u => clsF (rowT ks ks.length) z) (fun u => [(r, .inr (5, [.ref a, .int (iI (ks.length : Int))])), (a, .inl (cI, n, .inl (zf f))), (b, .inr (1, [.ref lf, .ref rt])), (lf, .inl (cI, 9, .inl (zf u))), (rt, .inl (cI, 9, .inl (zf gr)))]) := by
  refine zI.of (cc := cGH_classOf) (maxL := 6) (rt := .int) (by decide) rfl (Nat.le_of_ble_eq_true rfl) (fun _ _ _ => rfl) ?_
  intro p e s m args below meth c A ls Q hx hb hml hown hts hnm hK hD hA hAe hX hl hret H locs hP hS
  have hl : lv_has ls 6 [(0, .ref r), (1, .ref b)] := hl
  obtain ⟨tS, tC, hZS, hTS, hZC, hTC, hWn⟩ := id hX
  have hb1 := h.1
  have hb2 := h.2.1
  have hrg := @rowOK.rng n f ks h
  refine lv_iconst (v := iI (0)) hx hb dGH_classOf_0 rfl ?_
  refine lv_istore_n (lv' := [(2, .int (iI 0)), (0, .ref r), (1, .ref b)]) hx hb dGH_classOf_1 rfl hl (by decide) rfl (fun ls hl => ?_)
  refine lv_iconst (v := iI (-1)) hx hb dGH_classOf_2 rfl ?_
  refine lv_istore_n (lv' := [(3, .int (iI (-1))), (2, .int (iI 0)), (0, .ref r), (1, .ref b)]) hx hb dGH_classOf_3 rfl hl (by decide) rfl (fun ls hl => ?_)
  refine lv_iconst (v := iI (0)) hx hb dGH_classOf_4 rfl ?_
  refine lv_istore (lv' := [(4, .int (iI 0)), (3, .int (iI (-1))), (2, .int (iI 0)), (0, .ref r), (1, .ref b)]) hx hb dGH_classOf_5 hl (by decide) rfl (fun ls hl => ?_)
  have lp7 : ∀ (n9 : Nat) (i : Nat) (gl1 : Nat → Int), (i ≤ ks.length) → (ks.length - i) < n9 → ∀ (H : Heap) (locs : List Loc), va_P D vwCl [(r, .inr (5, [.ref a, .int (iI (ks.length : Int))])), (a, .inl (cI, n, .inl (zf f))), (b, .inr (1, [.ref lf, .ref rt])), (lf, .inl (cI, 9, .inl (zf gl1))), (rt, .inl (cI, 9, .inl (zf gr)))] H → va_D A [(r, .inr (5, [.ref a, .int (iI (ks.length : Int))])), (a, .inl (cI, n, .inl (zf f))), (b, .inr (1, [.ref lf, .ref rt])), (lf, .inl (cI, 9, .inl (zf gl1))), (rt, .inl (cI, 9, .inl (zf gr)))] → va_S A s.heap H locs → ∀ (ls : Array Slot), lv_has ls 6 [(0, .ref r), (1, .ref b), (2, .int (iI (rowT ks i))), (3, .int (iI (bef ks i))), (4, .int (iI (i : Int)))] → W p l e (headSpec wGH_classOf rmGH_classOf).room s m args below meth c H locs 0 0 Q (F0 m 7 ls []) := by
    intro n9
    induction n9 with
    | zero => intro i gl1 hi hm; exact absurd hm (Nat.not_lt_zero _)
    | succ n9 ih7 =>
      intro i gl1 hi hm7 H locs hP hD hS ls hl
      have hbf : -1 ≤ bef ks i ∧ bef ks i < 2147483648 := by
        unfold bef
        split
        · omega
        · have := hrg (j := i - 1) (by omega)
          omega
      refine lv_iload hx hb dGH_classOf_7 (lv_at hl 4 rfl) ?_
      refine lv_aload_n hx hb dGH_classOf_9 rfl (lv_at hl 0 rfl) ?_
      refine zRI.back ((va_runV (As := []) (rest := [.int (iI (i : Int))]) ⟨hx, hb, hml, hown, hts⟩ (mRO_size l D cI cG r a (ks.length : Int)) (cwV 0 hts (gT1 lkGH_83 (gT1 imRO_size (gT1 seRO_size (gT1 iniRO (gTW kcRO_size))))) rfl rfl rfl (by decide +kernel) ⟨Nat.le_of_ble_eq_true rfl, Nat.le_of_ble_eq_true rfl⟩) ⟨zRd_blind, va_recv hK hP (ci := 5) (q0 := 0) rfl rfl, zRd.at (wc := [(r, .inr (5, [.ref a, .int (iI (ks.length : Int))]))]) hK (hP.sub (ws' := [(r, .inr (5, [.ref a, .int (iI (ks.length : Int))]))]) [0] rfl) (stF.now hX hS)⟩ rfl rfl hl.1 rfl (lv_room (Nat.le_of_ble_eq_true rfl)) dGH_classOf_10 ⟨Nat.le_of_ble_eq_true rfl, Nat.le_of_ble_eq_true rfl⟩).run) (fun z_10 q_10 => ?_)
      obtain rfl : z_10 = (ks.length : Int) := q_10
      refine lz_icmp_ge (tgt := 59) hx hb dGH_classOf_13 (by decide) (by omega) (by omega) (fun c_13 => ?_) (fun c_13 => ?_)
      · have hin : i = ks.length := by omega
        rw [hin] at hl
        have hl : lv_has ls 6 [(2, .int (iI (rowT ks ks.length)))] := lv_sub hl [2] rfl
        refine lv_iconst (v := iI (0)) hx hb dGH_classOf_59 rfl ?_
        refine lv_istore (lv' := [(4, .int (iI 0)), (2, .int (iI (rowT ks ks.length)))]) hx hb dGH_classOf_60 hl (by decide) rfl (fun ls hl => ?_)
        have lp62 : ∀ (n9 : Nat) (j : Nat), (j ≤ 32) → (∀ t, t < j → st_rows.getD t 0 ≠ rowT ks ks.length) → (32 - j) < n9 → ∀ (H : Heap) (locs : List Loc), va_P D vwCl [(r, .inr (5, [.ref a, .int (iI (ks.length : Int))])), (a, .inl (cI, n, .inl (zf f))), (b, .inr (1, [.ref lf, .ref rt])), (lf, .inl (cI, 9, .inl (zf gl1))), (rt, .inl (cI, 9, .inl (zf gr)))] H → va_D A [(r, .inr (5, [.ref a, .int (iI (ks.length : Int))])), (a, .inl (cI, n, .inl (zf f))), (b, .inr (1, [.ref lf, .ref rt])), (lf, .inl (cI, 9, .inl (zf gl1))), (rt, .inl (cI, 9, .inl (zf gr)))] → va_S A s.heap H locs → ∀ (ls : Array Slot), lv_has ls 6 [(2, .int (iI (rowT ks ks.length))), (4, .int (iI (j : Int)))] → W p l e (headSpec wGH_classOf rmGH_classOf).room s m args below meth c H locs 0 0 Q (F0 m 62 ls []) := by
          intro n9
          induction n9 with
          | zero => intro j hj hall hm; exact absurd hm (Nat.not_lt_zero _)
          | succ n9 ih62 =>
            intro j hj hall hm62 H locs hP hD hS ls hl
            refine lv_iload hx hb dGH_classOf_62 (lv_at hl 1 rfl) ?_
            refine va_gets hx hb hZC hS hown (hts _ (List.mem_cons_of_mem _ lkGH_171)) (fun _ h9 => h9) dGH_classOf_64 ?_
            refine lz_tlen hx hb hTC hS dGH_classOf_67 ?_
            refine lz_icmp_ge (tgt := 92) hx hb dGH_classOf_68 (by decide) (by omega) (by omega) (fun c_68 => ?_) (fun c_68 => ?_)
            · refine lv_iconst (v := iI (-1)) hx hb dGH_classOf_92 rfl ?_
              exact hret H locs 0 0 93 ls (-1) gl1 (Or.inr ⟨rfl, fun t ht => hall t (by omega)⟩) (hP.sub [0, 1, 2, 3, 4] rfl) (hD.sub [0, 1, 2, 3, 4] (by decide) rfl) hS (Nat.zero_le _) (Nat.zero_le _) dGH_classOf_93
            · refine va_gets hx hb hZC hS hown (hts _ (List.mem_cons_of_mem _ lkGH_171)) (fun _ h9 => h9) dGH_classOf_71 ?_
              refine lv_iload hx hb dGH_classOf_74 (lv_at hl 1 rfl) ?_
              refine lz_tab hx hb hTC hS (z := (j : Int)) (by omega) dGH_classOf_76 ?_
              refine lz_as (x := st_rows.getD ((j : Int)).toNat 0) (y := st_rows.getD j 0) (rfl) ?_
              refine lv_iload_n hx hb dGH_classOf_77 rfl (lv_at hl 0 rfl) ?_
              refine lz_icmp_ne (tgt := 86) hx hb dGH_classOf_78 (by decide) (by have := rows_rng j (by omega); omega) (by omega) (fun c_78 => ?_) (fun c_78 => ?_)
              · refine lz_iinc (lv' := [(4, .int (iI ((j : Int) + 1))), (2, .int (iI (rowT ks ks.length)))]) hx hb dGH_classOf_86 hl (k := 1) rfl (by decide) rfl (fun ls hl => ?_)
                refine lv_goto (tgt := 62) hx hb dGH_classOf_89 (by decide) ?_
                exact ih62 (j + 1) (by omega) (fun t ht => by
                    rcases Nat.lt_or_ge t j with q | q
                    · exact hall t q
                    · obtain rfl : t = j := by omega
                      exact c_78) (by omega) _ _ (hP.sub [0, 1, 2, 3, 4] rfl) (hD.sub [0, 1, 2, 3, 4] (by decide) rfl) hS _ (lv_sub hl [1, 0] rfl)
              · refine lv_iload hx hb dGH_classOf_81 (lv_at hl 1 rfl) ?_
                refine lv_iconst (v := iI (1)) hx hb dGH_classOf_83 rfl ?_
                refine lz_iadd hx hb dGH_classOf_84 ?_
                exact hret H locs 0 0 85 ls ((j : Int) + 1) gl1 (Or.inl ⟨j, by omega, c_78, rfl, hall⟩) (hP.sub [0, 1, 2, 3, 4] rfl) (hD.sub [0, 1, 2, 3, 4] (by decide) rfl) hS (Nat.zero_le _) (Nat.zero_le _) dGH_classOf_85
        exact lp62 _ 0 (Nat.zero_le _) (fun t ht => absurd ht (Nat.not_lt_zero _)) (Nat.lt_succ_self _) _ _ (hP.sub [0, 1, 2, 3, 4] rfl) (hD.sub [0, 1, 2, 3, 4] (by decide) rfl) hS _ (lv_sub hl [1, 0] rfl)
      · refine lv_aload_n hx hb dGH_classOf_16 rfl (lv_at hl 0 rfl) ?_
        refine lv_iload hx hb dGH_classOf_17 (lv_at hl 4 rfl) ?_
        refine zRI.back ((va_runV (As := [.int (iI (i : Int))]) (rest := []) ⟨hx, hb, hml, hown, hts⟩ (mRO_at l D cI cG r a n f ks (i : Int) h (by omega)) (cwV 1 hts (gT1 lkGH_115 (gT1 imRO_at (gT1 seRO_at (gT1 iniRO (gTW kcRO_at))))) rfl rfl rfl (by decide +kernel) ⟨Nat.le_of_ble_eq_true rfl, Nat.le_of_ble_eq_true rfl⟩) ⟨zRd_blind, va_recv hK hP (ci := 5) (q0 := 0) rfl rfl, zRd.at (wc := [(r, .inr (5, [.ref a, .int (iI (ks.length : Int))])), (a, .inl (cI, n, .inl (zf f)))]) hK (hP.sub (ws' := [(r, .inr (5, [.ref a, .int (iI (ks.length : Int))])), (a, .inl (cI, n, .inl (zf f)))]) [0, 1] rfl) (stF.now hX hS)⟩ rfl rfl hl.1 rfl (lv_room (Nat.le_of_ble_eq_true rfl)) dGH_classOf_19 ⟨Nat.le_of_ble_eq_true rfl, Nat.le_of_ble_eq_true rfl⟩).run) (fun z_19 q_19 => ?_)
        obtain rfl : z_19 = ks.getD i (-1) := by have q9 : z_19 = lat ks (i : Int) := q_19; rw [q9]; exact (lat_in (by omega) (by omega)).1
        refine lv_sipush (v := iI (13824)) hx hb dGH_classOf_22 (by decide) ?_
        refine lz_idiv hx hb dGH_classOf_25 (by have := hrg (j := i) (by omega); omega) (by omega) ?_
        refine lv_istore (lv' := [(5, .int (iI ((ks.getD i (-1)) / 13824))), (0, .ref r), (1, .ref b), (2, .int (iI (rowT ks i))), (3, .int (iI (bef ks i))), (4, .int (iI (i : Int)))]) hx hb dGH_classOf_26 hl (by decide) rfl (fun ls hl => ?_)
        refine lv_iload hx hb dGH_classOf_28 (lv_at hl 0 rfl) ?_
        refine lv_iload_n hx hb dGH_classOf_30 rfl (lv_at hl 4 rfl) ?_
        refine lz_icmp_eq (tgt := 50) hx hb dGH_classOf_31 (by decide) (by have := hrg (j := i) (by omega); omega) (by omega) (fun c_31 => ?_) (fun c_31 => ?_)
        · refine lv_iload hx hb dGH_classOf_50 (lv_at hl 0 rfl) ?_
          refine lv_istore_n (lv' := [(3, .int (iI ((ks.getD i (-1)) / 13824))), (5, .int (iI ((ks.getD i (-1)) / 13824))), (0, .ref r), (1, .ref b), (2, .int (iI (rowT ks i))), (4, .int (iI (i : Int)))]) hx hb dGH_classOf_52 rfl hl (by decide) rfl (fun ls hl => ?_)
          refine lz_iinc (lv' := [(4, .int (iI ((i : Int) + 1))), (3, .int (iI ((ks.getD i (-1)) / 13824))), (5, .int (iI ((ks.getD i (-1)) / 13824))), (0, .ref r), (1, .ref b), (2, .int (iI (rowT ks i)))]) hx hb dGH_classOf_53 hl (k := 5) rfl (by decide) rfl (fun ls hl => ?_)
          refine lv_goto (tgt := 7) hx hb dGH_classOf_56 (by decide) ?_
          rw [show (ks.getD i (-1)) / 13824 = bef ks (i + 1) from (bef_s ks i).symm] at hl
          rw [show rowT ks i = rowT ks (i + 1) from by show rowT ks i = rowT ks i + _; rw [if_pos c_31]; omega] at hl
          exact ih7 (i + 1) gl1 (by omega) (by omega) _ _ (hP.sub [0, 1, 2, 3, 4] rfl) (hD.sub [0, 1, 2, 3, 4] (by decide) rfl) hS _ (lv_sub hl [3, 4, 5, 1, 0] rfl)
        · refine lv_iload_n hx hb dGH_classOf_34 rfl (lv_at hl 3 rfl) ?_
          refine lv_aload_n hx hb dGH_classOf_35 rfl (lv_at hl 2 rfl) ?_
          refine lv_aload_n hx hb dGH_classOf_36 rfl (lv_at hl 1 rfl) ?_
          refine lv_iload hx hb dGH_classOf_37 (lv_at hl 5 rfl) ?_
          refine zRI.back ((va_runV (As := [.int (iI (i : Int))]) (rest := [.ref b, .int (iI (rowT ks i))]) ⟨hx, hb, hml, hown, hts⟩ (mRO_at l D cI cG r a n f ks (i : Int) h (by omega)) (cwV 1 hts (gT1 lkGH_115 (gT1 imRO_at (gT1 seRO_at (gT1 iniRO (gTW kcRO_at))))) rfl rfl rfl (by decide +kernel) ⟨Nat.le_of_ble_eq_true rfl, Nat.le_of_ble_eq_true rfl⟩) ⟨zRd_blind, va_recv hK hP (ci := 5) (q0 := 0) rfl rfl, zRd.at (wc := [(r, .inr (5, [.ref a, .int (iI (ks.length : Int))])), (a, .inl (cI, n, .inl (zf f)))]) hK (hP.sub (ws' := [(r, .inr (5, [.ref a, .int (iI (ks.length : Int))])), (a, .inl (cI, n, .inl (zf f)))]) [0, 1] rfl) (stF.now hX hS)⟩ rfl rfl hl.1 rfl (lv_room (Nat.le_of_ble_eq_true rfl)) dGH_classOf_39 ⟨Nat.le_of_ble_eq_true rfl, Nat.le_of_ble_eq_true rfl⟩).run) (fun z_39 q_39 => ?_)
          obtain rfl : z_39 = ks.getD i (-1) := by have q9 : z_39 = lat ks (i : Int) := q_39; rw [q9]; exact (lat_in (by omega) (by omega)).1
          refine zI.back (va_runV (As := [.int (iI (ks.getD i (-1)))]) (rest := [.int (iI (rowT ks i))]) ⟨hx, hb, hml, hown, hts⟩ ((mBE_sort l D cI cG b lf rt gl1 gr (ks.getD i (-1)) (by have := hrg (j := i) (by omega); omega)) H.size) (cwV 1 hts (gT1 lkGH_118 (gT1 imBE_sort (gT1 seBE_sort (gT1 iniBE (gTW kcBE_sort))))) rfl rfl rfl (by decide +kernel) ⟨Nat.le_of_ble_eq_true rfl, Nat.le_of_ble_eq_true rfl⟩) ⟨zPre_blind, va_recv hK hP (ci := 1) (q0 := 2) rfl rfl, zPre.at (wc := [(b, .inr (1, [.ref lf, .ref rt])), (lf, .inl (cI, 9, .inl (zf gl1))), (rt, .inl (cI, 9, .inl (zf gr)))]) hK hP hD hS hA hX [2, 3, 4] (by decide) rfl⟩ rfl rfl hl.1 rfl (lv_room (Nat.le_of_ble_eq_true rfl)) dGH_classOf_42 ⟨Nat.le_of_ble_eq_true rfl, Nat.le_of_ble_eq_true rfl⟩) (wr := [(r, .inr (5, [.ref a, .int (iI (ks.length : Int))])), (a, .inl (cI, n, .inl (zf f)))]) hP hD hS hA [2, 3, 4] [0, 1] rfl rfl (by decide) (by decide) (fun z_42 u_42 H locs q_42 hP hD hS hz_42 hk_42 => ?_)
          obtain rfl : z_42 = sortK (ks.getD i (-1)) := q_42
          have hP : va_P D vwCl [(r, .inr (5, [.ref a, .int (iI (ks.length : Int))])), (a, .inl (cI, n, .inl (zf f))), (b, .inr (1, [.ref lf, .ref rt])), (lf, .inl (cI, 9, .inl (zf (rd (ks.getD i (-1)) gl1)))), (rt, .inl (cI, 9, .inl (zf gr)))] H := hP
          have hD : va_D A [(r, .inr (5, [.ref a, .int (iI (ks.length : Int))])), (a, .inl (cI, n, .inl (zf f))), (b, .inr (1, [.ref lf, .ref rt])), (lf, .inl (cI, 9, .inl (zf (rd (ks.getD i (-1)) gl1)))), (rt, .inl (cI, 9, .inl (zf gr)))] := hD
          refine zRI.back ((va_runS (As := [.int (iI (sortK (ks.getD i (-1))))]) (rest := [.int (iI (rowT ks i))]) ⟨hx, hb, hml, hown, hts⟩ (mGH_digitOf l D cI cG (sortK (ks.getD i (-1))) (sort_rng _)) (va_cwS 1 hts (gT1 lkGH_168 (gT1 smGH_digitOf (gT1 iniGH (gTW kcGH_digitOf)))) rfl rfl rfl (by decide +kernel) ⟨Nat.le_of_ble_eq_true rfl, Nat.le_of_ble_eq_true rfl⟩) ⟨zRd_blind, zRd.at (wc := []) hK (hP.sub (ws' := []) [] rfl) (stF.now hX hS)⟩ rfl rfl hl.1 rfl (lv_room (Nat.le_of_ble_eq_true rfl)) dGH_classOf_45 ⟨Nat.le_of_ble_eq_true rfl, Nat.le_of_ble_eq_true rfl⟩).run) (fun z_45 q_45 => ?_)
          obtain rfl : z_45 = digK (sortK (ks.getD i (-1))) := q_45
          refine lz_iadd hx hb dGH_classOf_48 ?_
          refine lv_istore_n (lv' := [(2, .int (iI ((rowT ks i) + (digK (sortK (ks.getD i (-1))))))), (5, .int (iI ((ks.getD i (-1)) / 13824))), (0, .ref r), (1, .ref b), (3, .int (iI (bef ks i))), (4, .int (iI (i : Int)))]) hx hb dGH_classOf_49 rfl hl (by decide) rfl (fun ls hl => ?_)
          refine lv_iload hx hb dGH_classOf_50 (lv_at hl 1 rfl) ?_
          refine lv_istore_n (lv' := [(3, .int (iI ((ks.getD i (-1)) / 13824))), (2, .int (iI ((rowT ks i) + (digK (sortK (ks.getD i (-1))))))), (5, .int (iI ((ks.getD i (-1)) / 13824))), (0, .ref r), (1, .ref b), (4, .int (iI (i : Int)))]) hx hb dGH_classOf_52 rfl hl (by decide) rfl (fun ls hl => ?_)
          refine lz_iinc (lv' := [(4, .int (iI ((i : Int) + 1))), (3, .int (iI ((ks.getD i (-1)) / 13824))), (2, .int (iI ((rowT ks i) + (digK (sortK (ks.getD i (-1))))))), (5, .int (iI ((ks.getD i (-1)) / 13824))), (0, .ref r), (1, .ref b)]) hx hb dGH_classOf_53 hl (k := 5) rfl (by decide) rfl (fun ls hl => ?_)
          refine lv_goto (tgt := 7) hx hb dGH_classOf_56 (by decide) ?_
          rw [show (ks.getD i (-1)) / 13824 = bef ks (i + 1) from (bef_s ks i).symm] at hl
          rw [show (rowT ks i) + (digK (sortK (ks.getD i (-1)))) = rowT ks (i + 1) from by show _ = rowT ks i + _; rw [if_neg c_31]] at hl
          exact ih7 (i + 1) (rd (ks.getD i (-1)) gl1) (by omega) (by omega) _ _ (hP.sub [0, 1, 2, 3, 4] rfl) (hD.sub [0, 1, 2, 3, 4] (by decide) rfl) hS _ (lv_sub hl [4, 5, 2, 1, 0] rfl)
  exact lp7 _ 0 gl (Nat.zero_le _) (Nat.lt_succ_self _) _ _ (hP.sub [0, 1, 2, 3, 4] rfl) (hD.sub [0, 1, 2, 3, 4] (by decide) rfl) hS _ (lv_sub hl [3, 4, 2, 1, 0] rfl)

def rmGR_letterOfTwo : Room := { frames := 0, cells := 0, slots := 0, locals := 0 }
set_option maxHeartbeats 4000000 in
set_option maxRecDepth 100000 in
theorem mGR_letterOfTwo (l : Launch) (D : va_G) (cI cG : ClassId) (x : Int) (hx1 : -2147483648 ≤ x ∧ x < 2147483648) : zRI l yGR_letterOfTwo wGR_letterOfTwo rmGR_letterOfTwo D vwCl (zT cI cG) [.int (iI x)] [] (fun z => z = let2 x) := by
  refine zRI.of (cc := cGR_letterOfTwo) (maxL := 1) (rt := .int) (by decide) rfl (Nat.le_of_ble_eq_true rfl) (fun _ _ => rfl) ?_
  intro p e s m args below meth c ls Q hx hb hml hown hts hK hP hX hl hret
  have hS0 : va_S (fun _ => False) s.heap s.heap [] := va_S.rf
  have hl : lv_has ls 1 [(0, .int (iI x))] := hl
  refine lv_iload_n hx hb dGR_letterOfTwo_0 rfl (lv_at hl 0 rfl) ?_
  rcases (show x = 300 ∨ x = 6924 ∨ x = 7200 ∨ x = 7212 ∨ (x ≠ 300 ∧ x ≠ 6924 ∧ x ≠ 7200 ∧ x ≠ 7212) from by omega) with c_1 | c_1 | c_1 | c_1 | c_1
  · refine lv_lookup (tgt := 44) (off := 43) hx hb dGR_letterOfTwo_1 (by decide) (by rw [iI_toInt (by omega), c_1]; rfl) (by decide) ?_
    refine lv_iconst (v := iI (1)) hx hb dGR_letterOfTwo_44 rfl ?_
    exact hret 45 ls 1 (by unfold let2; (repeat rw [if_neg (by omega)]) <;> first | rfl | rw [if_pos c_1]) dGR_letterOfTwo_45
  · refine lv_lookup (tgt := 46) (off := 45) hx hb dGR_letterOfTwo_1 (by decide) (by rw [iI_toInt (by omega), c_1]; rfl) (by decide) ?_
    refine lv_iconst (v := iI (2)) hx hb dGR_letterOfTwo_46 rfl ?_
    exact hret 47 ls 2 (by unfold let2; (repeat rw [if_neg (by omega)]) <;> first | rfl | rw [if_pos c_1]) dGR_letterOfTwo_47
  · refine lv_lookup (tgt := 48) (off := 47) hx hb dGR_letterOfTwo_1 (by decide) (by rw [iI_toInt (by omega), c_1]; rfl) (by decide) ?_
    refine lv_iconst (v := iI (3)) hx hb dGR_letterOfTwo_48 rfl ?_
    exact hret 49 ls 3 (by unfold let2; (repeat rw [if_neg (by omega)]) <;> first | rfl | rw [if_pos c_1]) dGR_letterOfTwo_49
  · refine lv_lookup (tgt := 50) (off := 49) hx hb dGR_letterOfTwo_1 (by decide) (by rw [iI_toInt (by omega), c_1]; rfl) (by decide) ?_
    refine lv_iconst (v := iI (4)) hx hb dGR_letterOfTwo_50 rfl ?_
    exact hret 51 ls 4 (by unfold let2; (repeat rw [if_neg (by omega)]) <;> first | rfl | rw [if_pos c_1]) dGR_letterOfTwo_51
  · refine lv_lookup (tgt := 52) (off := 51) hx hb dGR_letterOfTwo_1 (by decide) (by rw [iI_toInt (by omega)]; simp [Op.lookupswitch.offset, c_1]; omega) (by decide) ?_
    refine lv_bipush (v := iI (8)) hx hb dGR_letterOfTwo_52 (by decide) ?_
    exact hret 54 ls 8 (by unfold let2; (repeat rw [if_neg (by omega)]) <;> first | rfl | rw [if_pos c_1]) dGR_letterOfTwo_54

def rmGR_letterOf : Room := { frames := 2, cells := 0, slots := 0, locals := 47 }
set_option maxHeartbeats 4000000 in
set_option maxRecDepth 100000 in
theorem mGR_letterOf (l : Launch) (D : va_G) (cI cG : ClassId) (r a n : Nat) (f : Nat → Int) (ks : List Int) (c9 : Int) (h : rowOK n f ks) (hc9 : -2147483648 ≤ c9 ∧ c9 < 2147483648) : zRI l yGR_letterOf wGR_letterOf rmGR_letterOf D vwCl (zT cI cG) [.ref r, .int (iI c9)] [(r, .inr (5, [.ref a, .int (iI (ks.length : Int))])), (a, .inl (cI, n, .inl (zf f)))] (fun z => ∃ i, lix ks u0 i ∧ z = letK ks i c9) := by
  refine zRI.of (cc := cGR_letterOf) (maxL := 6) (rt := .int) (by decide) rfl (Nat.le_of_ble_eq_true rfl) (fun _ _ => rfl) ?_
  intro p e s m args below meth c ls Q hx hb hml hown hts hK hP hX hl hret
  have hS0 : va_S (fun _ => False) s.heap s.heap [] := va_S.rf
  have hl : lv_has ls 6 [(0, .ref r), (1, .int (iI c9))] := hl
  have hb1 := h.1
  have hb2 := h.2.1
  refine lv_aload_n hx hb dGR_letterOf_0 rfl (lv_at hl 0 rfl) ?_
  refine lz_ldc (z := 227874816) hx hb hown (hts _ (List.mem_cons_of_mem _ lkGR_69)) (by decide) dGR_letterOf_1 ?_
  refine zRI.back ((va_runV (As := [.int (iI 227874816)]) (rest := []) ⟨hx, hb, hml, hown, hts⟩ (mRO_indexOf l D cI cG r a n f ks 227874816 h (by omega)) (cwV 1 hts (gT1 lkGR_70 (gT1 imRO_indexOf (gT1 seRO_indexOf (gT1 iniRO (gTW kcRO_indexOf))))) rfl rfl rfl (by decide +kernel) ⟨Nat.le_of_ble_eq_true rfl, Nat.le_of_ble_eq_true rfl⟩) ⟨zRd_blind, va_recv hK hP (ci := 5) (q0 := 0) rfl rfl, zRd.at (wc := [(r, .inr (5, [.ref a, .int (iI (ks.length : Int))])), (a, .inl (cI, n, .inl (zf f)))]) hK (hP.sub (ws' := [(r, .inr (5, [.ref a, .int (iI (ks.length : Int))])), (a, .inl (cI, n, .inl (zf f)))]) [0, 1] rfl) hX⟩ rfl rfl hl.1 rfl (lv_room (Nat.le_of_ble_eq_true rfl)) dGR_letterOf_3 ⟨Nat.le_of_ble_eq_true rfl, Nat.le_of_ble_eq_true rfl⟩).run) (fun z_3 q_3 => ?_)
  have q_3 : lix ks u0 z_3 := q_3
  have hz3 : -1 ≤ z_3 ∧ z_3 ≤ 1000 := by rcases q_3 with ⟨_, _, _, _⟩ | ⟨_, _⟩ <;> omega
  have ha1 := lat_bd h (z_3 + 1)
  have ha2 := lat_bd h (z_3 + 2)
  have ha3 := lat_bd h (z_3 + 3)
  refine lv_istore_n (lv' := [(2, .int (iI z_3)), (0, .ref r), (1, .int (iI c9))]) hx hb dGR_letterOf_6 rfl hl (by decide) rfl (fun ls hl => ?_)
  refine lv_aload_n hx hb dGR_letterOf_7 rfl (lv_at hl 1 rfl) ?_
  refine lv_iload_n hx hb dGR_letterOf_8 rfl (lv_at hl 0 rfl) ?_
  refine lv_iconst (v := iI (1)) hx hb dGR_letterOf_9 rfl ?_
  refine lz_iadd hx hb dGR_letterOf_10 ?_
  refine zRI.back ((va_runV (As := [.int (iI (z_3 + 1))]) (rest := []) ⟨hx, hb, hml, hown, hts⟩ (mRO_at l D cI cG r a n f ks (z_3 + 1) h (by omega)) (cwV 1 hts (gT1 lkGR_32 (gT1 imRO_at (gT1 seRO_at (gT1 iniRO (gTW kcRO_at))))) rfl rfl rfl (by decide +kernel) ⟨Nat.le_of_ble_eq_true rfl, Nat.le_of_ble_eq_true rfl⟩) ⟨zRd_blind, va_recv hK hP (ci := 5) (q0 := 0) rfl rfl, zRd.at (wc := [(r, .inr (5, [.ref a, .int (iI (ks.length : Int))])), (a, .inl (cI, n, .inl (zf f)))]) hK (hP.sub (ws' := [(r, .inr (5, [.ref a, .int (iI (ks.length : Int))])), (a, .inl (cI, n, .inl (zf f)))]) [0, 1] rfl) hX⟩ rfl rfl hl.1 rfl (lv_room (Nat.le_of_ble_eq_true rfl)) dGR_letterOf_11 ⟨Nat.le_of_ble_eq_true rfl, Nat.le_of_ble_eq_true rfl⟩).run) (fun z_11 q_11 => ?_)
  obtain rfl : z_11 = lat ks (z_3 + 1) := q_11
  refine lz_ldc (z := 227874816) hx hb hown (hts _ (List.mem_cons_of_mem _ lkGR_69)) (by decide) dGR_letterOf_14 ?_
  refine lz_isub hx hb dGR_letterOf_16 ?_
  refine lv_istore_n (lv' := [(3, .int (iI ((lat ks (z_3 + 1)) - 227874816))), (2, .int (iI z_3)), (0, .ref r), (1, .int (iI c9))]) hx hb dGR_letterOf_17 rfl hl (by decide) rfl (fun ls hl => ?_)
  refine lv_aload_n hx hb dGR_letterOf_18 rfl (lv_at hl 2 rfl) ?_
  refine lv_iload_n hx hb dGR_letterOf_19 rfl (lv_at hl 1 rfl) ?_
  refine lv_iconst (v := iI (2)) hx hb dGR_letterOf_20 rfl ?_
  refine lz_iadd hx hb dGR_letterOf_21 ?_
  refine zRI.back ((va_runV (As := [.int (iI (z_3 + 2))]) (rest := []) ⟨hx, hb, hml, hown, hts⟩ (mRO_at l D cI cG r a n f ks (z_3 + 2) h (by omega)) (cwV 1 hts (gT1 lkGR_32 (gT1 imRO_at (gT1 seRO_at (gT1 iniRO (gTW kcRO_at))))) rfl rfl rfl (by decide +kernel) ⟨Nat.le_of_ble_eq_true rfl, Nat.le_of_ble_eq_true rfl⟩) ⟨zRd_blind, va_recv hK hP (ci := 5) (q0 := 0) rfl rfl, zRd.at (wc := [(r, .inr (5, [.ref a, .int (iI (ks.length : Int))])), (a, .inl (cI, n, .inl (zf f)))]) hK (hP.sub (ws' := [(r, .inr (5, [.ref a, .int (iI (ks.length : Int))])), (a, .inl (cI, n, .inl (zf f)))]) [0, 1] rfl) hX⟩ rfl rfl hl.1 rfl (lv_room (Nat.le_of_ble_eq_true rfl)) dGR_letterOf_22 ⟨Nat.le_of_ble_eq_true rfl, Nat.le_of_ble_eq_true rfl⟩).run) (fun z_22 q_22 => ?_)
  obtain rfl : z_22 = lat ks (z_3 + 2) := q_22
  refine lz_ldc (z := 227874816) hx hb hown (hts _ (List.mem_cons_of_mem _ lkGR_69)) (by decide) dGR_letterOf_25 ?_
  refine lz_isub hx hb dGR_letterOf_27 ?_
  refine lv_istore (lv' := [(4, .int (iI ((lat ks (z_3 + 2)) - 227874816))), (3, .int (iI ((lat ks (z_3 + 1)) - 227874816))), (2, .int (iI z_3)), (0, .ref r), (1, .int (iI c9))]) hx hb dGR_letterOf_28 hl (by decide) rfl (fun ls hl => ?_)
  refine lv_aload_n hx hb dGR_letterOf_30 rfl (lv_at hl 3 rfl) ?_
  refine lv_iload_n hx hb dGR_letterOf_31 rfl (lv_at hl 2 rfl) ?_
  refine lv_iconst (v := iI (3)) hx hb dGR_letterOf_32 rfl ?_
  refine lz_iadd hx hb dGR_letterOf_33 ?_
  refine zRI.back ((va_runV (As := [.int (iI (z_3 + 3))]) (rest := []) ⟨hx, hb, hml, hown, hts⟩ (mRO_at l D cI cG r a n f ks (z_3 + 3) h (by omega)) (cwV 1 hts (gT1 lkGR_32 (gT1 imRO_at (gT1 seRO_at (gT1 iniRO (gTW kcRO_at))))) rfl rfl rfl (by decide +kernel) ⟨Nat.le_of_ble_eq_true rfl, Nat.le_of_ble_eq_true rfl⟩) ⟨zRd_blind, va_recv hK hP (ci := 5) (q0 := 0) rfl rfl, zRd.at (wc := [(r, .inr (5, [.ref a, .int (iI (ks.length : Int))])), (a, .inl (cI, n, .inl (zf f)))]) hK (hP.sub (ws' := [(r, .inr (5, [.ref a, .int (iI (ks.length : Int))])), (a, .inl (cI, n, .inl (zf f)))]) [0, 1] rfl) hX⟩ rfl rfl hl.1 rfl (lv_room (Nat.le_of_ble_eq_true rfl)) dGR_letterOf_34 ⟨Nat.le_of_ble_eq_true rfl, Nat.le_of_ble_eq_true rfl⟩).run) (fun z_34 q_34 => ?_)
  obtain rfl : z_34 = lat ks (z_3 + 3) := q_34
  refine lz_ldc (z := 227874816) hx hb hown (hts _ (List.mem_cons_of_mem _ lkGR_69)) (by decide) dGR_letterOf_37 ?_
  refine lz_isub hx hb dGR_letterOf_39 ?_
  refine lv_istore (lv' := [(5, .int (iI ((lat ks (z_3 + 3)) - 227874816))), (4, .int (iI ((lat ks (z_3 + 2)) - 227874816))), (3, .int (iI ((lat ks (z_3 + 1)) - 227874816))), (2, .int (iI z_3)), (0, .ref r), (1, .int (iI c9))]) hx hb dGR_letterOf_40 hl (by decide) rfl (fun ls hl => ?_)
  refine lv_iload_n hx hb dGR_letterOf_42 rfl (lv_at hl 5 rfl) ?_
  rcases (show c9 = 1 ∨ c9 = 2 ∨ c9 = 3 ∨ c9 = 4 ∨ (c9 < 1 ∨ 4 < c9) from by omega) with c_43 | c_43 | c_43 | c_43 | c_43
  · refine lv_tableIn (tgt := 72) hx hb dGR_letterOf_43 (by rw [iI_toInt (by omega)]; omega) (by rw [iI_toInt (by omega)]; omega) (by rw [iI_toInt (by omega), c_43]; rfl) (by decide) ?_
    refine lv_iconst (v := iI (0)) hx hb dGR_letterOf_72 rfl ?_
    exact hret 73 ls 0 ⟨z_3, q_3, by
          unfold letK u0
          rw [if_pos c_43]⟩ dGR_letterOf_73
  · refine lv_tableIn (tgt := 74) hx hb dGR_letterOf_43 (by rw [iI_toInt (by omega)]; omega) (by rw [iI_toInt (by omega)]; omega) (by rw [iI_toInt (by omega), c_43]; rfl) (by decide) ?_
    refine lv_iload_n hx hb dGR_letterOf_74 rfl (lv_at hl 2 rfl) ?_
    refine zRI.back ((va_runS (As := [.int (iI ((lat ks (z_3 + 1)) - 227874816))]) (rest := []) ⟨hx, hb, hml, hown, hts⟩ (mGR_letterOfTwo l D cI cG (lat ks (z_3 + 1) - 227874816) ha1) (va_cwS 1 hts (gT1 lkGR_73 (gT1 smGR_letterOfTwo (gT1 iniGR (gTW kcGR_letterOfTwo)))) rfl rfl rfl (by decide +kernel) ⟨Nat.le_of_ble_eq_true rfl, Nat.le_of_ble_eq_true rfl⟩) ⟨zRd_blind, zRd.at (wc := []) hK (hP.sub (ws' := []) [] rfl) hX⟩ rfl rfl hl.1 rfl (lv_room (Nat.le_of_ble_eq_true rfl)) dGR_letterOf_75 ⟨Nat.le_of_ble_eq_true rfl, Nat.le_of_ble_eq_true rfl⟩).run) (fun z_75 q_75 => ?_)
    obtain rfl : z_75 = let2 (lat ks (z_3 + 1) - 227874816) := q_75
    exact hret 78 ls (let2 (lat ks (z_3 + 1) - 227874816)) ⟨z_3, q_3, by
          unfold letK u0
          rw [if_neg (by omega), if_pos c_43]⟩ dGR_letterOf_78
  · refine lv_tableIn (tgt := 79) hx hb dGR_letterOf_43 (by rw [iI_toInt (by omega)]; omega) (by rw [iI_toInt (by omega)]; omega) (by rw [iI_toInt (by omega), c_43]; rfl) (by decide) ?_
    refine lv_iload_n hx hb dGR_letterOf_79 rfl (lv_at hl 2 rfl) ?_
    refine lv_sipush (v := iI (5008)) hx hb dGR_letterOf_80 (by decide) ?_
    refine lz_icmp_ne (tgt := 97) hx hb dGR_letterOf_83 (by decide) (by omega) (by omega) (fun c_83 => ?_) (fun c_83 => ?_)
    · refine lv_iload_n hx hb dGR_letterOf_97 rfl (lv_at hl 2 rfl) ?_
      refine lv_sipush (v := iI (5000)) hx hb dGR_letterOf_98 (by decide) ?_
      refine lz_icmp_ne (tgt := 117) hx hb dGR_letterOf_101 (by decide) (by omega) (by omega) (fun c_101 => ?_) (fun c_101 => ?_)
      · refine lv_bipush (v := iI (8)) hx hb dGR_letterOf_117 (by decide) ?_
        exact hret 119 ls 8 ⟨z_3, q_3, by
              unfold letK u0
              rw [if_neg (by omega), if_neg (by omega), if_pos c_43, if_neg (by omega)]
              first | (exfalso; omega) | rw [if_pos (by omega)] | rw [if_neg (by omega)]⟩ dGR_letterOf_119
      · refine lv_iload hx hb dGR_letterOf_104 (lv_at hl 1 rfl) ?_
        refine lv_sipush (v := iI (9424)) hx hb dGR_letterOf_106 (by decide) ?_
        refine lz_icmp_ne (tgt := 117) hx hb dGR_letterOf_109 (by decide) (by omega) (by omega) (fun c_109 => ?_) (fun c_109 => ?_)
        · refine lv_bipush (v := iI (8)) hx hb dGR_letterOf_117 (by decide) ?_
          exact hret 119 ls 8 ⟨z_3, q_3, by
                unfold letK u0
                rw [if_neg (by omega), if_neg (by omega), if_pos c_43, if_neg (by omega)]
                first | (exfalso; omega) | rw [if_pos (by omega)] | rw [if_neg (by omega)]⟩ dGR_letterOf_119
        · refine lv_bipush (v := iI (7)) hx hb dGR_letterOf_112 (by decide) ?_
          refine lv_goto (tgt := 119) hx hb dGR_letterOf_114 (by decide) ?_
          exact hret 119 ls 7 ⟨z_3, q_3, by
                unfold letK u0
                rw [if_neg (by omega), if_neg (by omega), if_pos c_43, if_neg (by omega)]
                first | (exfalso; omega) | rw [if_pos (by omega)] | rw [if_neg (by omega)]⟩ dGR_letterOf_119
    · refine lv_iload hx hb dGR_letterOf_86 (lv_at hl 1 rfl) ?_
      refine lv_sipush (v := iI (9416)) hx hb dGR_letterOf_88 (by decide) ?_
      refine lz_icmp_ne (tgt := 97) hx hb dGR_letterOf_91 (by decide) (by omega) (by omega) (fun c_91 => ?_) (fun c_91 => ?_)
      · refine lv_iload_n hx hb dGR_letterOf_97 rfl (lv_at hl 2 rfl) ?_
        refine lv_sipush (v := iI (5000)) hx hb dGR_letterOf_98 (by decide) ?_
        refine lz_icmp_ne (tgt := 117) hx hb dGR_letterOf_101 (by decide) (by omega) (by omega) (fun c_101 => ?_) (fun c_101 => ?_)
        · refine lv_bipush (v := iI (8)) hx hb dGR_letterOf_117 (by decide) ?_
          exact hret 119 ls 8 ⟨z_3, q_3, by
                unfold letK u0
                rw [if_neg (by omega), if_neg (by omega), if_pos c_43, if_neg (by omega)]
                first | (exfalso; omega) | rw [if_pos (by omega)] | rw [if_neg (by omega)]⟩ dGR_letterOf_119
        · refine lv_iload hx hb dGR_letterOf_104 (lv_at hl 1 rfl) ?_
          refine lv_sipush (v := iI (9424)) hx hb dGR_letterOf_106 (by decide) ?_
          refine lz_icmp_ne (tgt := 117) hx hb dGR_letterOf_109 (by decide) (by omega) (by omega) (fun c_109 => ?_) (fun c_109 => ?_)
          · refine lv_bipush (v := iI (8)) hx hb dGR_letterOf_117 (by decide) ?_
            exact hret 119 ls 8 ⟨z_3, q_3, by
                  unfold letK u0
                  rw [if_neg (by omega), if_neg (by omega), if_pos c_43, if_neg (by omega)]
                  first | (exfalso; omega) | rw [if_pos (by omega)] | rw [if_neg (by omega)]⟩ dGR_letterOf_119
          · refine lv_bipush (v := iI (7)) hx hb dGR_letterOf_112 (by decide) ?_
            refine lv_goto (tgt := 119) hx hb dGR_letterOf_114 (by decide) ?_
            exact hret 119 ls 7 ⟨z_3, q_3, by
                  unfold letK u0
                  rw [if_neg (by omega), if_neg (by omega), if_pos c_43, if_neg (by omega)]
                  first | (exfalso; omega) | rw [if_pos (by omega)] | rw [if_neg (by omega)]⟩ dGR_letterOf_119
      · refine lv_bipush (v := iI (6)) hx hb dGR_letterOf_94 (by decide) ?_
        exact hret 96 ls 6 ⟨z_3, q_3, by
              unfold letK u0
              rw [if_neg (by omega), if_neg (by omega), if_pos c_43, if_pos (by omega)]⟩ dGR_letterOf_96
  · refine lv_tableIn (tgt := 120) hx hb dGR_letterOf_43 (by rw [iI_toInt (by omega)]; omega) (by rw [iI_toInt (by omega)]; omega) (by rw [iI_toInt (by omega), c_43]; rfl) (by decide) ?_
    refine lv_iload_n hx hb dGR_letterOf_120 rfl (lv_at hl 2 rfl) ?_
    refine lv_sipush (v := iI (300)) hx hb dGR_letterOf_121 (by decide) ?_
    refine lz_icmp_ne (tgt := 147) hx hb dGR_letterOf_124 (by decide) (by omega) (by omega) (fun c_124 => ?_) (fun c_124 => ?_)
    · refine lv_bipush (v := iI (8)) hx hb dGR_letterOf_147 (by decide) ?_
      exact hret 149 ls 8 ⟨z_3, q_3, by
            unfold letK u0
            rw [if_neg (by omega), if_neg (by omega), if_neg (by omega), if_pos c_43]
            first | (exfalso; omega) | rw [if_pos (by omega)] | rw [if_neg (by omega)]⟩ dGR_letterOf_149
    · refine lv_iload hx hb dGR_letterOf_127 (lv_at hl 1 rfl) ?_
      refine lv_sipush (v := iI (6924)) hx hb dGR_letterOf_129 (by decide) ?_
      refine lz_icmp_ne (tgt := 147) hx hb dGR_letterOf_132 (by decide) (by omega) (by omega) (fun c_132 => ?_) (fun c_132 => ?_)
      · refine lv_bipush (v := iI (8)) hx hb dGR_letterOf_147 (by decide) ?_
        exact hret 149 ls 8 ⟨z_3, q_3, by
              unfold letK u0
              rw [if_neg (by omega), if_neg (by omega), if_neg (by omega), if_pos c_43]
              first | (exfalso; omega) | rw [if_pos (by omega)] | rw [if_neg (by omega)]⟩ dGR_letterOf_149
      · refine lv_iload hx hb dGR_letterOf_135 (lv_at hl 0 rfl) ?_
        refine lv_sipush (v := iI (7200)) hx hb dGR_letterOf_137 (by decide) ?_
        refine lz_icmp_ne (tgt := 147) hx hb dGR_letterOf_140 (by decide) (by omega) (by omega) (fun c_140 => ?_) (fun c_140 => ?_)
        · refine lv_bipush (v := iI (8)) hx hb dGR_letterOf_147 (by decide) ?_
          exact hret 149 ls 8 ⟨z_3, q_3, by
                unfold letK u0
                rw [if_neg (by omega), if_neg (by omega), if_neg (by omega), if_pos c_43]
                first | (exfalso; omega) | rw [if_pos (by omega)] | rw [if_neg (by omega)]⟩ dGR_letterOf_149
        · refine lv_iconst (v := iI (5)) hx hb dGR_letterOf_143 rfl ?_
          refine lv_goto (tgt := 149) hx hb dGR_letterOf_144 (by decide) ?_
          exact hret 149 ls 5 ⟨z_3, q_3, by
                unfold letK u0
                rw [if_neg (by omega), if_neg (by omega), if_neg (by omega), if_pos c_43]
                first | (exfalso; omega) | rw [if_pos (by omega)] | rw [if_neg (by omega)]⟩ dGR_letterOf_149
  · refine lv_tableOut (tgt := 150) hx hb dGR_letterOf_43 (by rw [iI_toInt (by omega)]; omega) (by decide) ?_
    refine lv_bipush (v := iI (8)) hx hb dGR_letterOf_150 (by decide) ?_
    exact hret 152 ls 8 ⟨z_3, q_3, by
          unfold letK u0
          rw [if_neg (by omega), if_neg (by omega), if_neg (by omega), if_neg (by omega)]⟩ dGR_letterOf_152
end
section
/-! A row's front. -/
theorem take_ins {ks ks2 : List Int} {i : Nat} (hs : ks.Pairwise (· < ·)) (hi : i < ks.length) (h2 : ks2.Pairwise (· < ·)) (hr : rowIns (ks.take i) ks2 (ks.getD i (-1))) : ks2 = ks.take (i + 1) := by
  refine lt_ext h2 (hs.sublist (List.take_sublist _ _)) fun x => ?_
  rw [hr.1 x, mem_take_getD, mem_take_getD]
  constructor
  · rintro (⟨j, a, b, e⟩ | e)
    · exact ⟨j, by omega, b, e⟩
    · exact ⟨i, by omega, hi, e.symm⟩
  · rintro ⟨j, a, b, e⟩
    rcases Nat.lt_or_ge j i with q | q
    · exact Or.inl ⟨j, q, b, e⟩
    · obtain rfl : j = i := by omega
      exact Or.inr e.symm
theorem not_front {ks : List Int} {i : Nat} (hs : ks.Pairwise (· < ·)) (hi : i < ks.length) : ks.getD i (-1) ∉ ks.take i := by
  intro h
  obtain ⟨j, a, b, e⟩ := mem_take_getD.mp h
  have := getD_mono hs a hi
  omega
theorem bef_bd {n : Nat} {f : Nat → Int} {ks : List Int} (h : rowOK n f ks) {i : Nat} (hi : i ≤ ks.length) : -1 ≤ bef ks i ∧ bef ks i < 2147483648 := by
  unfold bef
  split
  · omega
  · have := h.rng (j := i - 1) (by omega)
    omega
end
section
/-! Group: written by wip/whole/gengrp.py -/
def rmGR_keys : Room := { frames := 0, cells := 0, slots := 0, locals := 0 }
set_option maxHeartbeats 4000000 in
set_option maxRecDepth 100000 in
theorem mGR_keys (l : Launch) (D : va_G) (cI cG : ClassId) (g k ka : Nat) (mt cn lt pcl : Int) (al hv : Option Nat)  : zRQ l yGR_keys wGR_keys rmGR_keys D vwCl (zT cI cG) [.ref g] [(g, .inr (3, [.ref k, .int (iI mt), .int (iI cn), .int (iI lt), .int (iI pcl), va_rf al, va_rf hv]))] (fun z => z = some k) := by
  refine zRQ.of (cc := cGR_keys) (maxL := 1) (rt := (.object "GroupHalls$Row")) (by decide) rfl (Nat.le_of_ble_eq_true rfl) (Or.inl ⟨_, rfl⟩) ?_
  intro p e s m args below meth c ls Q hx hb hml hown hts hK hP hX hl hret
  have hS0 : va_S (fun _ => False) s.heap s.heap [] := va_S.rf
  have hl : lv_has ls 1 [(0, .ref g)] := hl
  refine lv_aload_n hx hb dGR_keys_0 rfl (lv_at hl 0 rfl) ?_
  refine va_get (D := D) (ci := 3) (v := .ref k) (C := nGR) (T := fGR) (N := 7) hx hb hts iwGR hown hK hP 0 rfl rfl 0 (by decide) (hts _ (List.mem_cons_of_mem _ lkGR_28)) (fun _ h9 => h9) rfl dGR_keys_1 ?_
  exact hret 4 ls (some k) rfl dGR_keys_4

def rmGR_matrices : Room := { frames := 0, cells := 0, slots := 0, locals := 0 }
set_option maxHeartbeats 4000000 in
set_option maxRecDepth 100000 in
theorem mGR_matrices (l : Launch) (D : va_G) (cI cG : ClassId) (g k ka : Nat) (mt cn lt pcl : Int) (al hv : Option Nat)  : zRI l yGR_matrices wGR_matrices rmGR_matrices D vwCl (zT cI cG) [.ref g] [(g, .inr (3, [.ref k, .int (iI mt), .int (iI cn), .int (iI lt), .int (iI pcl), va_rf al, va_rf hv]))] (fun z => z = mt) := by
  refine zRI.of (cc := cGR_matrices) (maxL := 1) (rt := .int) (by decide) rfl (Nat.le_of_ble_eq_true rfl) (fun _ _ => rfl) ?_
  intro p e s m args below meth c ls Q hx hb hml hown hts hK hP hX hl hret
  have hS0 : va_S (fun _ => False) s.heap s.heap [] := va_S.rf
  have hl : lv_has ls 1 [(0, .ref g)] := hl
  refine lv_aload_n hx hb dGR_matrices_0 rfl (lv_at hl 0 rfl) ?_
  refine va_get (D := D) (ci := 3) (v := .int (iI mt)) (C := nGR) (T := fGR) (N := 7) hx hb hts iwGR hown hK hP 0 rfl rfl 1 (by decide) (hts _ (List.mem_cons_of_mem _ lkGR_40)) (fun _ h9 => h9) rfl dGR_matrices_1 ?_
  exact hret 4 ls mt rfl dGR_matrices_4

def rmGR_centrings : Room := { frames := 0, cells := 0, slots := 0, locals := 0 }
set_option maxHeartbeats 4000000 in
set_option maxRecDepth 100000 in
theorem mGR_centrings (l : Launch) (D : va_G) (cI cG : ClassId) (g k ka : Nat) (mt cn lt pcl : Int) (al hv : Option Nat)  : zRI l yGR_centrings wGR_centrings rmGR_centrings D vwCl (zT cI cG) [.ref g] [(g, .inr (3, [.ref k, .int (iI mt), .int (iI cn), .int (iI lt), .int (iI pcl), va_rf al, va_rf hv]))] (fun z => z = cn) := by
  refine zRI.of (cc := cGR_centrings) (maxL := 1) (rt := .int) (by decide) rfl (Nat.le_of_ble_eq_true rfl) (fun _ _ => rfl) ?_
  intro p e s m args below meth c ls Q hx hb hml hown hts hK hP hX hl hret
  have hS0 : va_S (fun _ => False) s.heap s.heap [] := va_S.rf
  have hl : lv_has ls 1 [(0, .ref g)] := hl
  refine lv_aload_n hx hb dGR_centrings_0 rfl (lv_at hl 0 rfl) ?_
  refine va_get (D := D) (ci := 3) (v := .int (iI cn)) (C := nGR) (T := fGR) (N := 7) hx hb hts iwGR hown hK hP 0 rfl rfl 2 (by decide) (hts _ (List.mem_cons_of_mem _ lkGR_44)) (fun _ h9 => h9) rfl dGR_centrings_1 ?_
  exact hret 4 ls cn rfl dGR_centrings_4

def rmGR_letter : Room := { frames := 0, cells := 0, slots := 0, locals := 0 }
set_option maxHeartbeats 4000000 in
set_option maxRecDepth 100000 in
theorem mGR_letter (l : Launch) (D : va_G) (cI cG : ClassId) (g k ka : Nat) (mt cn lt pcl : Int) (al hv : Option Nat)  : zRI l yGR_letter wGR_letter rmGR_letter D vwCl (zT cI cG) [.ref g] [(g, .inr (3, [.ref k, .int (iI mt), .int (iI cn), .int (iI lt), .int (iI pcl), va_rf al, va_rf hv]))] (fun z => z = lt) := by
  refine zRI.of (cc := cGR_letter) (maxL := 1) (rt := .int) (by decide) rfl (Nat.le_of_ble_eq_true rfl) (fun _ _ => rfl) ?_
  intro p e s m args below meth c ls Q hx hb hml hown hts hK hP hX hl hret
  have hS0 : va_S (fun _ => False) s.heap s.heap [] := va_S.rf
  have hl : lv_has ls 1 [(0, .ref g)] := hl
  refine lv_aload_n hx hb dGR_letter_0 rfl (lv_at hl 0 rfl) ?_
  refine va_get (D := D) (ci := 3) (v := .int (iI lt)) (C := nGR) (T := fGR) (N := 7) hx hb hts iwGR hown hK hP 0 rfl rfl 3 (by decide) (hts _ (List.mem_cons_of_mem _ lkGR_51)) (fun _ h9 => h9) rfl dGR_letter_1 ?_
  exact hret 4 ls lt rfl dGR_letter_4

def rmGR_pointClass : Room := { frames := 0, cells := 0, slots := 0, locals := 0 }
set_option maxHeartbeats 4000000 in
set_option maxRecDepth 100000 in
theorem mGR_pointClass (l : Launch) (D : va_G) (cI cG : ClassId) (g k ka : Nat) (mt cn lt pcl : Int) (al hv : Option Nat)  : zRI l yGR_pointClass wGR_pointClass rmGR_pointClass D vwCl (zT cI cG) [.ref g] [(g, .inr (3, [.ref k, .int (iI mt), .int (iI cn), .int (iI lt), .int (iI pcl), va_rf al, va_rf hv]))] (fun z => z = pcl) := by
  refine zRI.of (cc := cGR_pointClass) (maxL := 1) (rt := .int) (by decide) rfl (Nat.le_of_ble_eq_true rfl) (fun _ _ => rfl) ?_
  intro p e s m args below meth c ls Q hx hb hml hown hts hK hP hX hl hret
  have hS0 : va_S (fun _ => False) s.heap s.heap [] := va_S.rf
  have hl : lv_has ls 1 [(0, .ref g)] := hl
  refine lv_aload_n hx hb dGR_pointClass_0 rfl (lv_at hl 0 rfl) ?_
  refine va_get (D := D) (ci := 3) (v := .int (iI pcl)) (C := nGR) (T := fGR) (N := 7) hx hb hts iwGR hown hK hP 0 rfl rfl 4 (by decide) (hts _ (List.mem_cons_of_mem _ lkGR_58)) (fun _ h9 => h9) rfl dGR_pointClass_1 ?_
  exact hret 4 ls pcl rfl dGR_pointClass_4

def rmGR_init : Room := { frames := 4, cells := 2, slots := 194, locals := 92 }
set_option maxHeartbeats 4000000 in
set_option maxRecDepth 100000 in
theorem mGR_init (l : Launch) (D : va_G) (cI cG : ClassId) (g : Nat) (r a n : Nat) (f : Nat → Int) (ks : List Int) (b lf rt : Nat) (gl gr : Nat → Int) (h : rowOK n f ks) (hlen : ks.length ≤ 192) (hsum : 0 ≤ rowT ks ks.length ∧ rowT ks ks.length < 2147483648) : zV l yGR_init wGR_init rmGR_init D vwCl (zT cI cG) [.ref g, .ref r, .ref b] [(g, .inr (3, [.null, .int (iI 0), .int (iI 0), .int (iI 0), .int (iI 0), .null, .null])), (r, .inr (5, [.ref a, .int (iI (ks.length : Int))])), (a, .inl (cI, n, .inl (zf f))), (b, .inr (1, [.ref lf, .ref rt])), (lf, .inl (cI, 9, .inl (zf gl))), (rt, .inl (cI, 9, .inl (zf gr)))] (S := (Nat × Nat × (Nat → Int) × Int × Int × (Nat → Int))) (fun u => rowOK ks.length u.2.2.1 ks ∧ (∃ i, lix ks u0 i ∧ u.2.2.2.1 = letK ks i (cenT ks ks.length)) ∧ clsF (rowT ks ks.length) u.2.2.2.2.1) (fun u => [(g, .inr (3, [.ref u.1, .int (iI (matT ks ks.length)), .int (iI (cenT ks ks.length)), .int (iI u.2.2.2.1), .int (iI u.2.2.2.2.1), .null, .null])), (r, .inr (5, [.ref a, .int (iI (ks.length : Int))])), (a, .inl (cI, n, .inl (zf f))), (b, .inr (1, [.ref lf, .ref rt])), (lf, .inl (cI, 9, .inl (zf u.2.2.2.2.2))), (rt, .inl (cI, 9, .inl (zf gr))), (u.1, .inr (5, [.ref u.2.1, .int (iI (ks.length : Int))])), (u.2.1, .inl (cI, ks.length, .inl (zf u.2.2.1)))]) := by
  refine zV.of (cc := cGR_init) (maxL := 8) (by decide) rfl (Nat.le_of_ble_eq_true rfl) ?_
  intro p e s m args below meth c A ls Q hx hb hml hown hts hnm hK hD hA hAe hX hl hret H locs hP hS
  have hl : lv_has ls 8 [(0, .ref g), (1, .ref r), (2, .ref b)] := hl
  obtain ⟨tS, tC, hZS, hTS, hZC, hTC, hWn⟩ := id hX
  have hb1 := h.1
  have hb2 := h.2.1
  have hrg := @rowOK.rng n f ks h
  refine lv_aload_n hx hb dGR_init_0 rfl (lv_at hl 0 rfl) ?_
  refine W.objInit hx hb hown (hts _ (List.mem_cons_of_mem _ lkGR_3)) (hts _ (List.mem_cons_of_mem _ imJO_init)) (hts _ (List.mem_cons_of_mem _ kcJO_init)) rfl (by rw [hml]; exact hl.1) rfl dGR_init_1 (Nat.le_of_ble_eq_true rfl) (Nat.le_of_ble_eq_true rfl) ?_
  refine W.eq (g2 := F0 m 4 ls []) rfl ?_
  refine lv_aload_n hx hb dGR_init_4 rfl (lv_at hl 0 rfl) ?_
  refine lv_null hx hb dGR_init_5 ?_
  refine va_put (D := D) (ci := 3) (v := .null) (ty := .object "GroupHalls$AlikeSets") (C := nGR) (T := fGR) (N := 7) hx hb hts iwGR tGR tkGR nmGR hown hK hP hD hS 0 rfl rfl 5 (by decide) (hts _ (List.mem_cons_of_mem _ lkGR_9)) (fun _ h9 => h9) rfl (by decide +kernel) rfl rfl (Nat.le_of_ble_eq_true rfl) dGR_init_6 (fun H locs hP hD hS => ?_)
  have hP : va_P D vwCl [(g, .inr (3, [.null, .int (iI 0), .int (iI 0), .int (iI 0), .int (iI 0), .null, .null])), (r, .inr (5, [.ref a, .int (iI (ks.length : Int))])), (a, .inl (cI, n, .inl (zf f))), (b, .inr (1, [.ref lf, .ref rt])), (lf, .inl (cI, 9, .inl (zf gl))), (rt, .inl (cI, 9, .inl (zf gr)))] H := hP
  have hD : va_D A [(g, .inr (3, [.null, .int (iI 0), .int (iI 0), .int (iI 0), .int (iI 0), .null, .null])), (r, .inr (5, [.ref a, .int (iI (ks.length : Int))])), (a, .inl (cI, n, .inl (zf f))), (b, .inr (1, [.ref lf, .ref rt])), (lf, .inl (cI, 9, .inl (zf gl))), (rt, .inl (cI, 9, .inl (zf gr)))] := hD
  refine lv_aload_n hx hb dGR_init_9 rfl (lv_at hl 0 rfl) ?_
  refine lv_null hx hb dGR_init_10 ?_
  refine va_put (D := D) (ci := 3) (v := .null) (ty := .object "GroupHalls$Halves") (C := nGR) (T := fGR) (N := 7) hx hb hts iwGR tGR tkGR nmGR hown hK hP hD hS 0 rfl rfl 6 (by decide) (hts _ (List.mem_cons_of_mem _ lkGR_15)) (fun _ h9 => h9) rfl (by decide +kernel) rfl rfl (Nat.le_of_ble_eq_true rfl) dGR_init_11 (fun H locs hP hD hS => ?_)
  have hP : va_P D vwCl [(g, .inr (3, [.null, .int (iI 0), .int (iI 0), .int (iI 0), .int (iI 0), .null, .null])), (r, .inr (5, [.ref a, .int (iI (ks.length : Int))])), (a, .inl (cI, n, .inl (zf f))), (b, .inr (1, [.ref lf, .ref rt])), (lf, .inl (cI, 9, .inl (zf gl))), (rt, .inl (cI, 9, .inl (zf gr)))] H := hP
  have hD : va_D A [(g, .inr (3, [.null, .int (iI 0), .int (iI 0), .int (iI 0), .int (iI 0), .null, .null])), (r, .inr (5, [.ref a, .int (iI (ks.length : Int))])), (a, .inl (cI, n, .inl (zf f))), (b, .inr (1, [.ref lf, .ref rt])), (lf, .inl (cI, 9, .inl (zf gl))), (rt, .inl (cI, 9, .inl (zf gr)))] := hD
  refine lv_aload_n hx hb dGR_init_14 rfl (lv_at hl 0 rfl) ?_
  refine va_new (ci := 5) (fs := [.null, .int (iI 0)]) (C := nRO) (T := fRO) (N := 2) hx hb hts iwRO tRO tkRO hown (hts _ (List.mem_cons_of_mem _ lkGR_19)) (hts _ (List.mem_cons_of_mem _ insRO)) (hts _ (List.mem_cons_of_mem _ iniRO)) hK hP hD hS hA rfl (fun j hj => by rcases (show j = 0 ∨ j = 1 by omega) with rfl | rfl <;> rfl) (Nat.le_of_ble_eq_true rfl) (Nat.le_of_ble_eq_true rfl) dGR_init_15 (fun k H hP hD hS => ?_)
  have hP : va_P D vwCl [(g, .inr (3, [.null, .int (iI 0), .int (iI 0), .int (iI 0), .int (iI 0), .null, .null])), (r, .inr (5, [.ref a, .int (iI (ks.length : Int))])), (a, .inl (cI, n, .inl (zf f))), (b, .inr (1, [.ref lf, .ref rt])), (lf, .inl (cI, 9, .inl (zf gl))), (rt, .inl (cI, 9, .inl (zf gr))), (k, .inr (5, [.null, .int (iI 0)]))] H := hP
  have hD : va_D A [(g, .inr (3, [.null, .int (iI 0), .int (iI 0), .int (iI 0), .int (iI 0), .null, .null])), (r, .inr (5, [.ref a, .int (iI (ks.length : Int))])), (a, .inl (cI, n, .inl (zf f))), (b, .inr (1, [.ref lf, .ref rt])), (lf, .inl (cI, 9, .inl (zf gl))), (rt, .inl (cI, 9, .inl (zf gr))), (k, .inr (5, [.null, .int (iI 0)]))] := hD
  refine lv_dup hx hb dGR_init_18 rfl ?_
  refine lv_aload_n hx hb dGR_init_19 rfl (lv_at hl 1 rfl) ?_
  refine zRI.back ((va_runV (As := []) (rest := [.ref k, .ref k, .ref g]) ⟨hx, hb, hml, hown, hts⟩ (mRO_size l D cI cG r a (ks.length : Int)) (cwV 0 hts (gT1 lkGR_21 (gT1 imRO_size (gT1 seRO_size (gT1 iniRO (gTW kcRO_size))))) rfl rfl rfl (by decide +kernel) ⟨Nat.le_of_ble_eq_true rfl, Nat.le_of_ble_eq_true rfl⟩) ⟨zRd_blind, va_recv hK hP (ci := 5) (q0 := 1) rfl rfl, zRd.at (wc := [(r, .inr (5, [.ref a, .int (iI (ks.length : Int))]))]) hK (hP.sub (ws' := [(r, .inr (5, [.ref a, .int (iI (ks.length : Int))]))]) [1] rfl) (stF.now hX hS)⟩ rfl rfl hl.1 rfl (lv_room (Nat.le_of_ble_eq_true rfl)) dGR_init_20 ⟨Nat.le_of_ble_eq_true rfl, Nat.le_of_ble_eq_true rfl⟩).run) (fun z_20 q_20 => ?_)
  obtain rfl : z_20 = (ks.length : Int) := q_20
  refine zV.back (va_runI (As := [.int (iI (ks.length : Int))]) (rest := [.ref k, .ref g]) ⟨hx, hb, hml, hown, hts⟩ ((mRO_init l D cI cG k ks.length hlen) H.size) (cwI 1 hts (gTW kcRO_init) rfl rfl rfl (hts _ (List.mem_cons_of_mem _ iniRO)) (hts _ (List.mem_cons_of_mem _ lkGR_25)) (hts _ (List.mem_cons_of_mem _ imRO_init)) rfl (by decide +kernel) ⟨Nat.le_of_ble_eq_true rfl, Nat.le_of_ble_eq_true rfl⟩) ⟨zPre_blind, zPre.at (wc := [(k, .inr (5, [.null, .int (iI 0)]))]) hK hP hD hS hA hX [6] (by decide) rfl⟩ rfl rfl hl.1 rfl (lv_room (Nat.le_of_ble_eq_true rfl)) dGR_init_23 ⟨Nat.le_of_ble_eq_true rfl, Nat.le_of_ble_eq_true rfl⟩) (wr := [(g, .inr (3, [.null, .int (iI 0), .int (iI 0), .int (iI 0), .int (iI 0), .null, .null])), (r, .inr (5, [.ref a, .int (iI (ks.length : Int))])), (a, .inl (cI, n, .inl (zf f))), (b, .inr (1, [.ref lf, .ref rt])), (lf, .inl (cI, 9, .inl (zf gl))), (rt, .inl (cI, 9, .inl (zf gr)))]) hP hD hS hA [6] [0, 1, 2, 3, 4, 5] rfl rfl (by decide) (by decide) (fun u_23 H locs q_23 hP hD hS hz_23 hk_23 => ?_)
  have hP : va_P D vwCl [(g, .inr (3, [.null, .int (iI 0), .int (iI 0), .int (iI 0), .int (iI 0), .null, .null])), (r, .inr (5, [.ref a, .int (iI (ks.length : Int))])), (a, .inl (cI, n, .inl (zf f))), (b, .inr (1, [.ref lf, .ref rt])), (lf, .inl (cI, 9, .inl (zf gl))), (rt, .inl (cI, 9, .inl (zf gr))), (k, .inr (5, [.ref u_23, .int (iI 0)])), (u_23, .inl (cI, ks.length, .inl (zf (fun _ => 0))))] H := hP
  have hD : va_D A [(g, .inr (3, [.null, .int (iI 0), .int (iI 0), .int (iI 0), .int (iI 0), .null, .null])), (r, .inr (5, [.ref a, .int (iI (ks.length : Int))])), (a, .inl (cI, n, .inl (zf f))), (b, .inr (1, [.ref lf, .ref rt])), (lf, .inl (cI, 9, .inl (zf gl))), (rt, .inl (cI, 9, .inl (zf gr))), (k, .inr (5, [.ref u_23, .int (iI 0)])), (u_23, .inl (cI, ks.length, .inl (zf (fun _ => 0))))] := hD
  refine va_putF (D := D) (ci := 3) (v := .ref k) (ty := .object "GroupHalls$Row") (C := nGR) (T := fGR) (N := 7) hx hb hts iwGR tGR tkGR nmGR hown hK hP hD hS 0 rfl rfl 0 (by decide) (hts _ (List.mem_cons_of_mem _ lkGR_28)) (fun _ h9 => h9) rfl hnm rfl (by decide +kernel) rfl rfl (Nat.le_of_ble_eq_true rfl) dGR_init_26 (fun H locs hP hD hS => ?_)
  have hP : va_P D vwCl [(g, .inr (3, [.ref k, .int (iI 0), .int (iI 0), .int (iI 0), .int (iI 0), .null, .null])), (r, .inr (5, [.ref a, .int (iI (ks.length : Int))])), (a, .inl (cI, n, .inl (zf f))), (b, .inr (1, [.ref lf, .ref rt])), (lf, .inl (cI, 9, .inl (zf gl))), (rt, .inl (cI, 9, .inl (zf gr))), (k, .inr (5, [.ref u_23, .int (iI 0)])), (u_23, .inl (cI, ks.length, .inl (zf (fun _ => 0))))] H := hP
  have hD : va_D A [(g, .inr (3, [.ref k, .int (iI 0), .int (iI 0), .int (iI 0), .int (iI 0), .null, .null])), (r, .inr (5, [.ref a, .int (iI (ks.length : Int))])), (a, .inl (cI, n, .inl (zf f))), (b, .inr (1, [.ref lf, .ref rt])), (lf, .inl (cI, 9, .inl (zf gl))), (rt, .inl (cI, 9, .inl (zf gr))), (k, .inr (5, [.ref u_23, .int (iI 0)])), (u_23, .inl (cI, ks.length, .inl (zf (fun _ => 0))))] := hD
  refine lv_iconst (v := iI (0)) hx hb dGR_init_29 rfl ?_
  refine lv_istore_n (lv' := [(3, .int (iI 0)), (0, .ref g), (1, .ref r), (2, .ref b)]) hx hb dGR_init_30 rfl hl (by decide) rfl (fun ls hl => ?_)
  refine lv_iconst (v := iI (0)) hx hb dGR_init_31 rfl ?_
  refine lv_istore (lv' := [(4, .int (iI 0)), (3, .int (iI 0)), (0, .ref g), (1, .ref r), (2, .ref b)]) hx hb dGR_init_32 hl (by decide) rfl (fun ls hl => ?_)
  refine lv_iconst (v := iI (-1)) hx hb dGR_init_34 rfl ?_
  refine lv_istore (lv' := [(5, .int (iI (-1))), (4, .int (iI 0)), (3, .int (iI 0)), (0, .ref g), (1, .ref r), (2, .ref b)]) hx hb dGR_init_35 hl (by decide) rfl (fun ls hl => ?_)
  refine lv_iconst (v := iI (0)) hx hb dGR_init_37 rfl ?_
  refine lv_istore (lv' := [(6, .int (iI 0)), (5, .int (iI (-1))), (4, .int (iI 0)), (3, .int (iI 0)), (0, .ref g), (1, .ref r), (2, .ref b)]) hx hb dGR_init_38 hl (by decide) rfl (fun ls hl => ?_)
  have lp40 : ∀ (n9 : Nat) (i : Nat) (f1 : Nat → Int), (i ≤ ks.length) → (rowOK ks.length f1 (ks.take i)) → (ks.length - i) < n9 → ∀ (H : Heap) (locs : List Loc), va_P D vwCl [(g, .inr (3, [.ref k, .int (iI 0), .int (iI 0), .int (iI 0), .int (iI 0), .null, .null])), (r, .inr (5, [.ref a, .int (iI (ks.length : Int))])), (a, .inl (cI, n, .inl (zf f))), (b, .inr (1, [.ref lf, .ref rt])), (lf, .inl (cI, 9, .inl (zf gl))), (rt, .inl (cI, 9, .inl (zf gr))), (k, .inr (5, [.ref u_23, .int (iI ((ks.take i).length : Int))])), (u_23, .inl (cI, ks.length, .inl (zf f1)))] H → va_D A [(g, .inr (3, [.ref k, .int (iI 0), .int (iI 0), .int (iI 0), .int (iI 0), .null, .null])), (r, .inr (5, [.ref a, .int (iI (ks.length : Int))])), (a, .inl (cI, n, .inl (zf f))), (b, .inr (1, [.ref lf, .ref rt])), (lf, .inl (cI, 9, .inl (zf gl))), (rt, .inl (cI, 9, .inl (zf gr))), (k, .inr (5, [.ref u_23, .int (iI ((ks.take i).length : Int))])), (u_23, .inl (cI, ks.length, .inl (zf f1)))] → va_S A s.heap H locs → ∀ (ls : Array Slot), lv_has ls 8 [(0, .ref g), (1, .ref r), (2, .ref b), (3, .int (iI (matT ks i))), (4, .int (iI (cenT ks i))), (5, .int (iI (bef ks i))), (6, .int (iI (i : Int)))] → W p l e (headSpec wGR_init rmGR_init).room s m args below meth c H locs (0 + 1 + 1) (0 + 2 + 192) Q (F0 m 40 ls []) := by
    intro n9
    induction n9 with
    | zero => intro i f1 hi hI hm; exact absurd hm (Nat.not_lt_zero _)
    | succ n9 ih40 =>
      intro i f1 hi hI hm40 H locs hP hD hS ls hl
      have hbf := bef_bd h hi
      refine lv_iload hx hb dGR_init_40 (lv_at hl 6 rfl) ?_
      refine lv_aload_n hx hb dGR_init_42 rfl (lv_at hl 1 rfl) ?_
      refine zRI.back ((va_runV (As := []) (rest := [.int (iI (i : Int))]) ⟨hx, hb, hml, hown, hts⟩ (mRO_size l D cI cG r a (ks.length : Int)) (cwV 0 hts (gT1 lkGR_21 (gT1 imRO_size (gT1 seRO_size (gT1 iniRO (gTW kcRO_size))))) rfl rfl rfl (by decide +kernel) ⟨Nat.le_of_ble_eq_true rfl, Nat.le_of_ble_eq_true rfl⟩) ⟨zRd_blind, va_recv hK hP (ci := 5) (q0 := 1) rfl rfl, zRd.at (wc := [(r, .inr (5, [.ref a, .int (iI (ks.length : Int))]))]) hK (hP.sub (ws' := [(r, .inr (5, [.ref a, .int (iI (ks.length : Int))]))]) [1] rfl) (stF.now hX hS)⟩ rfl rfl hl.1 rfl (lv_room (Nat.le_of_ble_eq_true rfl)) dGR_init_43 ⟨Nat.le_of_ble_eq_true rfl, Nat.le_of_ble_eq_true rfl⟩).run) (fun z_43 q_43 => ?_)
      obtain rfl : z_43 = (ks.length : Int) := q_43
      refine lz_icmp_ge (tgt := 118) hx hb dGR_init_46 (by decide) (by omega) (by omega) (fun c_46 => ?_) (fun c_46 => ?_)
      · have hin : i = ks.length := by omega
        have htk : ks.take i = ks := by rw [hin]; exact List.take_length
        rw [htk] at hI hP hD
        have hl : lv_has ls 8 [(0, .ref g), (1, .ref r), (2, .ref b), (3, .int (iI (matT ks ks.length))), (4, .int (iI (cenT ks ks.length)))] := by rw [hin] at hl; exact lv_sub hl [0, 1, 2, 3, 4] rfl
        refine lv_aload_n hx hb dGR_init_118 rfl (lv_at hl 0 rfl) ?_
        refine lv_iload_n hx hb dGR_init_119 rfl (lv_at hl 3 rfl) ?_
        refine va_putF (D := D) (ci := 3) (v := .int (iI (matT ks ks.length))) (ty := .int) (C := nGR) (T := fGR) (N := 7) hx hb hts iwGR tGR tkGR nmGR hown hK hP hD hS 0 rfl rfl 1 (by decide) (hts _ (List.mem_cons_of_mem _ lkGR_40)) (fun _ h9 => h9) rfl hnm rfl (by decide +kernel) rfl rfl (Nat.le_of_ble_eq_true rfl) dGR_init_120 (fun H locs hP hD hS => ?_)
        have hP : va_P D vwCl [(g, .inr (3, [.ref k, .int (iI (matT ks ks.length)), .int (iI 0), .int (iI 0), .int (iI 0), .null, .null])), (r, .inr (5, [.ref a, .int (iI (ks.length : Int))])), (a, .inl (cI, n, .inl (zf f))), (b, .inr (1, [.ref lf, .ref rt])), (lf, .inl (cI, 9, .inl (zf gl))), (rt, .inl (cI, 9, .inl (zf gr))), (k, .inr (5, [.ref u_23, .int (iI (ks.length : Int))])), (u_23, .inl (cI, ks.length, .inl (zf f1)))] H := hP
        have hD : va_D A [(g, .inr (3, [.ref k, .int (iI (matT ks ks.length)), .int (iI 0), .int (iI 0), .int (iI 0), .null, .null])), (r, .inr (5, [.ref a, .int (iI (ks.length : Int))])), (a, .inl (cI, n, .inl (zf f))), (b, .inr (1, [.ref lf, .ref rt])), (lf, .inl (cI, 9, .inl (zf gl))), (rt, .inl (cI, 9, .inl (zf gr))), (k, .inr (5, [.ref u_23, .int (iI (ks.length : Int))])), (u_23, .inl (cI, ks.length, .inl (zf f1)))] := hD
        refine lv_aload_n hx hb dGR_init_123 rfl (lv_at hl 0 rfl) ?_
        refine lv_iload hx hb dGR_init_124 (lv_at hl 4 rfl) ?_
        refine va_putF (D := D) (ci := 3) (v := .int (iI (cenT ks ks.length))) (ty := .int) (C := nGR) (T := fGR) (N := 7) hx hb hts iwGR tGR tkGR nmGR hown hK hP hD hS 0 rfl rfl 2 (by decide) (hts _ (List.mem_cons_of_mem _ lkGR_44)) (fun _ h9 => h9) rfl hnm rfl (by decide +kernel) rfl rfl (Nat.le_of_ble_eq_true rfl) dGR_init_126 (fun H locs hP hD hS => ?_)
        have hP : va_P D vwCl [(g, .inr (3, [.ref k, .int (iI (matT ks ks.length)), .int (iI (cenT ks ks.length)), .int (iI 0), .int (iI 0), .null, .null])), (r, .inr (5, [.ref a, .int (iI (ks.length : Int))])), (a, .inl (cI, n, .inl (zf f))), (b, .inr (1, [.ref lf, .ref rt])), (lf, .inl (cI, 9, .inl (zf gl))), (rt, .inl (cI, 9, .inl (zf gr))), (k, .inr (5, [.ref u_23, .int (iI (ks.length : Int))])), (u_23, .inl (cI, ks.length, .inl (zf f1)))] H := hP
        have hD : va_D A [(g, .inr (3, [.ref k, .int (iI (matT ks ks.length)), .int (iI (cenT ks ks.length)), .int (iI 0), .int (iI 0), .null, .null])), (r, .inr (5, [.ref a, .int (iI (ks.length : Int))])), (a, .inl (cI, n, .inl (zf f))), (b, .inr (1, [.ref lf, .ref rt])), (lf, .inl (cI, 9, .inl (zf gl))), (rt, .inl (cI, 9, .inl (zf gr))), (k, .inr (5, [.ref u_23, .int (iI (ks.length : Int))])), (u_23, .inl (cI, ks.length, .inl (zf f1)))] := hD
        refine lv_aload_n hx hb dGR_init_129 rfl (lv_at hl 0 rfl) ?_
        refine lv_aload_n hx hb dGR_init_130 rfl (lv_at hl 0 rfl) ?_
        refine va_get (D := D) (ci := 3) (v := .ref k) (C := nGR) (T := fGR) (N := 7) hx hb hts iwGR hown hK hP 0 rfl rfl 0 (by decide) (hts _ (List.mem_cons_of_mem _ lkGR_28)) (fun _ h9 => h9) rfl dGR_init_131 ?_
        refine lv_iload hx hb dGR_init_134 (lv_at hl 4 rfl) ?_
        refine zRI.back ((va_runS (As := [.ref k, .int (iI (cenT ks ks.length))]) (rest := [.ref g]) ⟨hx, hb, hml, hown, hts⟩ (mGR_letterOf l D cI cG k u_23 ks.length f1 ks (cenT ks ks.length) hI (by have := cenT_rng ks ks.length; omega)) (va_cwS 2 hts (gT1 lkGR_47 (gT1 smGR_letterOf (gT1 iniGR (gTW kcGR_letterOf)))) rfl rfl rfl (by decide +kernel) ⟨Nat.le_of_ble_eq_true rfl, Nat.le_of_ble_eq_true rfl⟩) ⟨zRd_blind, zRd.at (wc := [(k, .inr (5, [.ref u_23, .int (iI (ks.length : Int))])), (u_23, .inl (cI, ks.length, .inl (zf f1)))]) hK (hP.sub (ws' := [(k, .inr (5, [.ref u_23, .int (iI (ks.length : Int))])), (u_23, .inl (cI, ks.length, .inl (zf f1)))]) [6, 7] rfl) (stF.now hX hS)⟩ rfl rfl hl.1 rfl (lv_room (Nat.le_of_ble_eq_true rfl)) dGR_init_136 ⟨Nat.le_of_ble_eq_true rfl, Nat.le_of_ble_eq_true rfl⟩).run) (fun z_136 q_136 => ?_)
        have q_136 : ∃ i, lix ks u0 i ∧ z_136 = letK ks i (cenT ks ks.length) := q_136
        refine va_putF (D := D) (ci := 3) (v := .int (iI z_136)) (ty := .int) (C := nGR) (T := fGR) (N := 7) hx hb hts iwGR tGR tkGR nmGR hown hK hP hD hS 0 rfl rfl 3 (by decide) (hts _ (List.mem_cons_of_mem _ lkGR_51)) (fun _ h9 => h9) rfl hnm rfl (by decide +kernel) rfl rfl (Nat.le_of_ble_eq_true rfl) dGR_init_139 (fun H locs hP hD hS => ?_)
        have hP : va_P D vwCl [(g, .inr (3, [.ref k, .int (iI (matT ks ks.length)), .int (iI (cenT ks ks.length)), .int (iI z_136), .int (iI 0), .null, .null])), (r, .inr (5, [.ref a, .int (iI (ks.length : Int))])), (a, .inl (cI, n, .inl (zf f))), (b, .inr (1, [.ref lf, .ref rt])), (lf, .inl (cI, 9, .inl (zf gl))), (rt, .inl (cI, 9, .inl (zf gr))), (k, .inr (5, [.ref u_23, .int (iI (ks.length : Int))])), (u_23, .inl (cI, ks.length, .inl (zf f1)))] H := hP
        have hD : va_D A [(g, .inr (3, [.ref k, .int (iI (matT ks ks.length)), .int (iI (cenT ks ks.length)), .int (iI z_136), .int (iI 0), .null, .null])), (r, .inr (5, [.ref a, .int (iI (ks.length : Int))])), (a, .inl (cI, n, .inl (zf f))), (b, .inr (1, [.ref lf, .ref rt])), (lf, .inl (cI, 9, .inl (zf gl))), (rt, .inl (cI, 9, .inl (zf gr))), (k, .inr (5, [.ref u_23, .int (iI (ks.length : Int))])), (u_23, .inl (cI, ks.length, .inl (zf f1)))] := hD
        refine lv_aload_n hx hb dGR_init_142 rfl (lv_at hl 0 rfl) ?_
        refine lv_aload_n hx hb dGR_init_143 rfl (lv_at hl 0 rfl) ?_
        refine va_get (D := D) (ci := 3) (v := .ref k) (C := nGR) (T := fGR) (N := 7) hx hb hts iwGR hown hK hP 0 rfl rfl 0 (by decide) (hts _ (List.mem_cons_of_mem _ lkGR_28)) (fun _ h9 => h9) rfl dGR_init_144 ?_
        refine lv_aload_n hx hb dGR_init_147 rfl (lv_at hl 2 rfl) ?_
        refine zI.back (va_runSN (As := [.ref k, .ref b]) (rest := [.ref g]) ⟨hx, hb, hml, hown, hts⟩ ((mGH_classOf l D cI cG k u_23 ks.length f1 ks b lf rt gl gr hI hsum) H.size) (⟨va_cnB 2 hts (gTW kcGH_classOf) rfl rfl rfl hWn.2.1 (hts _ (List.mem_cons_of_mem _ iniGH)) (by decide +kernel) ⟨Nat.le_of_ble_eq_true rfl, Nat.le_of_ble_eq_true rfl⟩, hts _ (List.mem_cons_of_mem _ smGH_classOf), trivial⟩) ⟨zPre_blind, zPre.at (wc := [(k, .inr (5, [.ref u_23, .int (iI (ks.length : Int))])), (u_23, .inl (cI, ks.length, .inl (zf f1))), (b, .inr (1, [.ref lf, .ref rt])), (lf, .inl (cI, 9, .inl (zf gl))), (rt, .inl (cI, 9, .inl (zf gr)))]) hK hP hD hS hA hX [6, 7, 3, 4, 5] (by decide) rfl⟩ rfl rfl hl.1 rfl (lv_room (Nat.le_of_ble_eq_true rfl)) dGR_init_148 ⟨Nat.le_of_ble_eq_true rfl, Nat.le_of_ble_eq_true rfl⟩) (wr := [(g, .inr (3, [.ref k, .int (iI (matT ks ks.length)), .int (iI (cenT ks ks.length)), .int (iI z_136), .int (iI 0), .null, .null])), (r, .inr (5, [.ref a, .int (iI (ks.length : Int))])), (a, .inl (cI, n, .inl (zf f)))]) hP hD hS hA [6, 7, 3, 4, 5] [0, 1, 2] rfl rfl (by decide) (by decide) (fun z_148 u_148 H locs q_148 hP hD hS hz_148 hk_148 => ?_)
        have q_148 : clsF (rowT ks ks.length) z_148 := q_148
        have hP : va_P D vwCl [(g, .inr (3, [.ref k, .int (iI (matT ks ks.length)), .int (iI (cenT ks ks.length)), .int (iI z_136), .int (iI 0), .null, .null])), (r, .inr (5, [.ref a, .int (iI (ks.length : Int))])), (a, .inl (cI, n, .inl (zf f))), (k, .inr (5, [.ref u_23, .int (iI (ks.length : Int))])), (u_23, .inl (cI, ks.length, .inl (zf f1))), (b, .inr (1, [.ref lf, .ref rt])), (lf, .inl (cI, 9, .inl (zf u_148))), (rt, .inl (cI, 9, .inl (zf gr)))] H := hP
        have hD : va_D A [(g, .inr (3, [.ref k, .int (iI (matT ks ks.length)), .int (iI (cenT ks ks.length)), .int (iI z_136), .int (iI 0), .null, .null])), (r, .inr (5, [.ref a, .int (iI (ks.length : Int))])), (a, .inl (cI, n, .inl (zf f))), (k, .inr (5, [.ref u_23, .int (iI (ks.length : Int))])), (u_23, .inl (cI, ks.length, .inl (zf f1))), (b, .inr (1, [.ref lf, .ref rt])), (lf, .inl (cI, 9, .inl (zf u_148))), (rt, .inl (cI, 9, .inl (zf gr)))] := hD
        refine va_putF (D := D) (ci := 3) (v := .int (iI z_148)) (ty := .int) (C := nGR) (T := fGR) (N := 7) hx hb hts iwGR tGR tkGR nmGR hown hK hP hD hS 0 rfl rfl 4 (by decide) (hts _ (List.mem_cons_of_mem _ lkGR_58)) (fun _ h9 => h9) rfl hnm rfl (by decide +kernel) rfl rfl (Nat.le_of_ble_eq_true rfl) dGR_init_151 (fun H locs hP hD hS => ?_)
        have hP : va_P D vwCl [(g, .inr (3, [.ref k, .int (iI (matT ks ks.length)), .int (iI (cenT ks ks.length)), .int (iI z_136), .int (iI z_148), .null, .null])), (r, .inr (5, [.ref a, .int (iI (ks.length : Int))])), (a, .inl (cI, n, .inl (zf f))), (k, .inr (5, [.ref u_23, .int (iI (ks.length : Int))])), (u_23, .inl (cI, ks.length, .inl (zf f1))), (b, .inr (1, [.ref lf, .ref rt])), (lf, .inl (cI, 9, .inl (zf u_148))), (rt, .inl (cI, 9, .inl (zf gr)))] H := hP
        have hD : va_D A [(g, .inr (3, [.ref k, .int (iI (matT ks ks.length)), .int (iI (cenT ks ks.length)), .int (iI z_136), .int (iI z_148), .null, .null])), (r, .inr (5, [.ref a, .int (iI (ks.length : Int))])), (a, .inl (cI, n, .inl (zf f))), (k, .inr (5, [.ref u_23, .int (iI (ks.length : Int))])), (u_23, .inl (cI, ks.length, .inl (zf f1))), (b, .inr (1, [.ref lf, .ref rt])), (lf, .inl (cI, 9, .inl (zf u_148))), (rt, .inl (cI, 9, .inl (zf gr)))] := hD
        exact hret H locs (0 + 1 + 1) (0 + 2 + 192) 154 ls (k, u_23, f1, z_136, z_148, u_148) ⟨hI, q_136, q_148⟩ (hP.sub [0, 1, 2, 5, 6, 7, 3, 4] rfl) (hD.sub [0, 1, 2, 5, 6, 7, 3, 4] (by decide) rfl) hS (by decide) (by decide) dGR_init_154
      · refine lv_aload_n hx hb dGR_init_49 rfl (lv_at hl 1 rfl) ?_
        refine lv_iload hx hb dGR_init_50 (lv_at hl 6 rfl) ?_
        refine zRI.back ((va_runV (As := [.int (iI (i : Int))]) (rest := []) ⟨hx, hb, hml, hown, hts⟩ (mRO_at l D cI cG r a n f ks (i : Int) h (by omega)) (cwV 1 hts (gT1 lkGR_32 (gT1 imRO_at (gT1 seRO_at (gT1 iniRO (gTW kcRO_at))))) rfl rfl rfl (by decide +kernel) ⟨Nat.le_of_ble_eq_true rfl, Nat.le_of_ble_eq_true rfl⟩) ⟨zRd_blind, va_recv hK hP (ci := 5) (q0 := 1) rfl rfl, zRd.at (wc := [(r, .inr (5, [.ref a, .int (iI (ks.length : Int))])), (a, .inl (cI, n, .inl (zf f)))]) hK (hP.sub (ws' := [(r, .inr (5, [.ref a, .int (iI (ks.length : Int))])), (a, .inl (cI, n, .inl (zf f)))]) [1, 2] rfl) (stF.now hX hS)⟩ rfl rfl hl.1 rfl (lv_room (Nat.le_of_ble_eq_true rfl)) dGR_init_52 ⟨Nat.le_of_ble_eq_true rfl, Nat.le_of_ble_eq_true rfl⟩).run) (fun z_52 q_52 => ?_)
        obtain rfl : z_52 = ks.getD i (-1) := by have q9 : z_52 = lat ks (i : Int) := q_52; rw [q9]; exact (lat_in (by omega) (by omega)).1
        refine lv_sipush (v := iI (13824)) hx hb dGR_init_55 (by decide) ?_
        refine lz_idiv hx hb dGR_init_58 (by have := hrg (j := i) (by omega); omega) (by omega) ?_
        refine lv_istore (lv' := [(7, .int (iI ((ks.getD i (-1)) / 13824))), (0, .ref g), (1, .ref r), (2, .ref b), (3, .int (iI (matT ks i))), (4, .int (iI (cenT ks i))), (5, .int (iI (bef ks i))), (6, .int (iI (i : Int)))]) hx hb dGR_init_59 hl (by decide) rfl (fun ls hl => ?_)
        refine lv_aload_n hx hb dGR_init_61 rfl (lv_at hl 1 rfl) ?_
        refine va_get (D := D) (ci := 3) (v := .ref k) (C := nGR) (T := fGR) (N := 7) hx hb hts iwGR hown hK hP 0 rfl rfl 0 (by decide) (hts _ (List.mem_cons_of_mem _ lkGR_28)) (fun _ h9 => h9) rfl dGR_init_62 ?_
        refine lv_aload_n hx hb dGR_init_65 rfl (lv_at hl 2 rfl) ?_
        refine lv_iload hx hb dGR_init_66 (lv_at hl 7 rfl) ?_
        refine zRI.back ((va_runV (As := [.int (iI (i : Int))]) (rest := [.ref k]) ⟨hx, hb, hml, hown, hts⟩ (mRO_at l D cI cG r a n f ks (i : Int) h (by omega)) (cwV 1 hts (gT1 lkGR_32 (gT1 imRO_at (gT1 seRO_at (gT1 iniRO (gTW kcRO_at))))) rfl rfl rfl (by decide +kernel) ⟨Nat.le_of_ble_eq_true rfl, Nat.le_of_ble_eq_true rfl⟩) ⟨zRd_blind, va_recv hK hP (ci := 5) (q0 := 1) rfl rfl, zRd.at (wc := [(r, .inr (5, [.ref a, .int (iI (ks.length : Int))])), (a, .inl (cI, n, .inl (zf f)))]) hK (hP.sub (ws' := [(r, .inr (5, [.ref a, .int (iI (ks.length : Int))])), (a, .inl (cI, n, .inl (zf f)))]) [1, 2] rfl) (stF.now hX hS)⟩ rfl rfl hl.1 rfl (lv_room (Nat.le_of_ble_eq_true rfl)) dGR_init_68 ⟨Nat.le_of_ble_eq_true rfl, Nat.le_of_ble_eq_true rfl⟩).run) (fun z_68 q_68 => ?_)
        obtain rfl : z_68 = ks.getD i (-1) := by have q9 : z_68 = lat ks (i : Int) := q_68; rw [q9]; exact (lat_in (by omega) (by omega)).1
        refine zI.back (va_runV (As := [.int (iI (ks.getD i (-1)))]) (rest := []) ⟨hx, hb, hml, hown, hts⟩ ((mRO_add l D cI cG k u_23 ks.length f1 (ks.take i) (ks.getD i (-1)) hI (by have := hrg (j := i) (by omega); omega)) H.size) (cwV 1 hts (gT1 lkGR_36 (gT1 imRO_add (gT1 seRO_add (gT1 iniRO (gTW kcRO_add))))) rfl rfl rfl (by decide +kernel) ⟨Nat.le_of_ble_eq_true rfl, Nat.le_of_ble_eq_true rfl⟩) ⟨zPre_blind, va_recv hK hP (ci := 5) (q0 := 6) rfl rfl, zPre.at (wc := [(k, .inr (5, [.ref u_23, .int (iI ((ks.take i).length : Int))])), (u_23, .inl (cI, ks.length, .inl (zf f1)))]) hK hP hD hS hA hX [6, 7] (by decide) rfl⟩ rfl rfl hl.1 rfl (lv_room (Nat.le_of_ble_eq_true rfl)) dGR_init_71 ⟨Nat.le_of_ble_eq_true rfl, Nat.le_of_ble_eq_true rfl⟩) (wr := [(g, .inr (3, [.ref k, .int (iI 0), .int (iI 0), .int (iI 0), .int (iI 0), .null, .null])), (r, .inr (5, [.ref a, .int (iI (ks.length : Int))])), (a, .inl (cI, n, .inl (zf f))), (b, .inr (1, [.ref lf, .ref rt])), (lf, .inl (cI, 9, .inl (zf gl))), (rt, .inl (cI, 9, .inl (zf gr)))]) hP hD hS hA [6, 7] [0, 1, 2, 3, 4, 5] rfl rfl (by decide) (by decide) (fun z_71 u_71 H locs q_71 hP hD hS hz_71 hk_71 => ?_)
        obtain ⟨ks2, ho2, hs2, hcs⟩ := q_71
        have hk2 : ks2 = ks.take (i + 1) := by
          rcases hcs with ⟨_, q, _⟩ | ⟨_, _, q, _⟩ | ⟨_, _, _, q⟩
          · exact absurd q (not_front h.2.2.2.1 (by omega))
          · rw [List.length_take] at q; omega
          · exact take_ins h.2.2.2.1 (by omega) ho2.2.2.2.1 q
        subst hk2
        rw [hs2] at hP hD
        clear hcs
        have hP : va_P D vwCl [(g, .inr (3, [.ref k, .int (iI 0), .int (iI 0), .int (iI 0), .int (iI 0), .null, .null])), (r, .inr (5, [.ref a, .int (iI (ks.length : Int))])), (a, .inl (cI, n, .inl (zf f))), (b, .inr (1, [.ref lf, .ref rt])), (lf, .inl (cI, 9, .inl (zf gl))), (rt, .inl (cI, 9, .inl (zf gr))), (k, .inr (5, [.ref u_23, .int (iI ((ks.take (i + 1)).length : Int))])), (u_23, .inl (cI, ks.length, .inl (zf u_71.2)))] H := hP
        have hD : va_D A [(g, .inr (3, [.ref k, .int (iI 0), .int (iI 0), .int (iI 0), .int (iI 0), .null, .null])), (r, .inr (5, [.ref a, .int (iI (ks.length : Int))])), (a, .inl (cI, n, .inl (zf f))), (b, .inr (1, [.ref lf, .ref rt])), (lf, .inl (cI, 9, .inl (zf gl))), (rt, .inl (cI, 9, .inl (zf gr))), (k, .inr (5, [.ref u_23, .int (iI ((ks.take (i + 1)).length : Int))])), (u_23, .inl (cI, ks.length, .inl (zf u_71.2)))] := hD
        refine lv_pop hx hb dGR_init_74 rfl ?_
        refine lv_iload_n hx hb dGR_init_75 rfl (lv_at hl 4 rfl) ?_
        refine lv_iload hx hb dGR_init_76 (lv_at hl 0 rfl) ?_
        refine lv_iload hx hb dGR_init_78 (lv_at hl 6 rfl) ?_
        refine lz_icmp_ne (tgt := 87) hx hb dGR_init_80 (by decide) (by have := hrg (j := i) (by omega); omega) (by omega) (fun c_80 => ?_) (fun c_80 => ?_)
        · refine lv_iconst (v := iI (1)) hx hb dGR_init_87 rfl ?_
          refine lz_iadd hx hb dGR_init_88 ?_
          refine lv_istore_n (lv' := [(3, .int (iI ((matT ks i) + 1))), (7, .int (iI ((ks.getD i (-1)) / 13824))), (0, .ref g), (1, .ref r), (2, .ref b), (4, .int (iI (cenT ks i))), (5, .int (iI (bef ks i))), (6, .int (iI (i : Int)))]) hx hb dGR_init_89 rfl hl (by decide) rfl (fun ls hl => ?_)
          refine lv_iload hx hb dGR_init_90 (lv_at hl 5 rfl) ?_
          refine lv_iload hx hb dGR_init_92 (lv_at hl 1 rfl) ?_
          refine lv_sipush (v := iI (16484)) hx hb dGR_init_94 (by decide) ?_
          refine lz_icmp_ne (tgt := 104) hx hb dGR_init_97 (by decide) (by have := hrg (j := i) (by omega); omega) (by omega) (fun c_97 => ?_) (fun c_97 => ?_)
          · refine lv_iconst (v := iI (0)) hx hb dGR_init_104 rfl ?_
            refine lz_iadd hx hb dGR_init_105 ?_
            refine lv_istore (lv' := [(4, .int (iI ((cenT ks i) + 0))), (3, .int (iI ((matT ks i) + 1))), (7, .int (iI ((ks.getD i (-1)) / 13824))), (0, .ref g), (1, .ref r), (2, .ref b), (5, .int (iI (bef ks i))), (6, .int (iI (i : Int)))]) hx hb dGR_init_106 hl (by decide) rfl (fun ls hl => ?_)
            refine lv_iload hx hb dGR_init_108 (lv_at hl 2 rfl) ?_
            refine lv_istore (lv' := [(5, .int (iI ((ks.getD i (-1)) / 13824))), (4, .int (iI ((cenT ks i) + 0))), (3, .int (iI ((matT ks i) + 1))), (7, .int (iI ((ks.getD i (-1)) / 13824))), (0, .ref g), (1, .ref r), (2, .ref b), (6, .int (iI (i : Int)))]) hx hb dGR_init_110 hl (by decide) rfl (fun ls hl => ?_)
            refine lz_iinc (lv' := [(6, .int (iI ((i : Int) + 1))), (5, .int (iI ((ks.getD i (-1)) / 13824))), (4, .int (iI ((cenT ks i) + 0))), (3, .int (iI ((matT ks i) + 1))), (7, .int (iI ((ks.getD i (-1)) / 13824))), (0, .ref g), (1, .ref r), (2, .ref b)]) hx hb dGR_init_112 hl (k := 7) rfl (by decide) rfl (fun ls hl => ?_)
            refine lv_goto (tgt := 40) hx hb dGR_init_115 (by decide) ?_
            rw [show (ks.getD i (-1)) / 13824 = bef ks (i + 1) from (bef_s ks i).symm] at hl
            rw [show (matT ks i) + 1 = matT ks (i + 1) from by show _ = matT ks i + _; rw [if_neg c_80]] at hl
            rw [show (cenT ks i) + 0 = cenT ks (i + 1) from by show _ = cenT ks i + _; rw [if_neg c_97]] at hl
            exact ih40 (i + 1) u_71.2 (by omega) ho2 (by omega) _ _ (hP.sub [0, 1, 2, 3, 4, 5, 6, 7] rfl) (hD.sub [0, 1, 2, 3, 4, 5, 6, 7] (by decide) rfl) hS _ (lv_sub hl [5, 6, 7, 3, 2, 1, 0] rfl)
          · refine lv_iconst (v := iI (1)) hx hb dGR_init_100 rfl ?_
            refine lv_goto (tgt := 105) hx hb dGR_init_101 (by decide) ?_
            refine lz_iadd hx hb dGR_init_105 ?_
            refine lv_istore (lv' := [(4, .int (iI ((cenT ks i) + 1))), (3, .int (iI ((matT ks i) + 1))), (7, .int (iI ((ks.getD i (-1)) / 13824))), (0, .ref g), (1, .ref r), (2, .ref b), (5, .int (iI (bef ks i))), (6, .int (iI (i : Int)))]) hx hb dGR_init_106 hl (by decide) rfl (fun ls hl => ?_)
            refine lv_iload hx hb dGR_init_108 (lv_at hl 2 rfl) ?_
            refine lv_istore (lv' := [(5, .int (iI ((ks.getD i (-1)) / 13824))), (4, .int (iI ((cenT ks i) + 1))), (3, .int (iI ((matT ks i) + 1))), (7, .int (iI ((ks.getD i (-1)) / 13824))), (0, .ref g), (1, .ref r), (2, .ref b), (6, .int (iI (i : Int)))]) hx hb dGR_init_110 hl (by decide) rfl (fun ls hl => ?_)
            refine lz_iinc (lv' := [(6, .int (iI ((i : Int) + 1))), (5, .int (iI ((ks.getD i (-1)) / 13824))), (4, .int (iI ((cenT ks i) + 1))), (3, .int (iI ((matT ks i) + 1))), (7, .int (iI ((ks.getD i (-1)) / 13824))), (0, .ref g), (1, .ref r), (2, .ref b)]) hx hb dGR_init_112 hl (k := 7) rfl (by decide) rfl (fun ls hl => ?_)
            refine lv_goto (tgt := 40) hx hb dGR_init_115 (by decide) ?_
            rw [show (ks.getD i (-1)) / 13824 = bef ks (i + 1) from (bef_s ks i).symm] at hl
            rw [show (matT ks i) + 1 = matT ks (i + 1) from by show _ = matT ks i + _; rw [if_neg c_80]] at hl
            rw [show (cenT ks i) + 1 = cenT ks (i + 1) from by show _ = cenT ks i + _; rw [if_pos c_97]] at hl
            exact ih40 (i + 1) u_71.2 (by omega) ho2 (by omega) _ _ (hP.sub [0, 1, 2, 3, 4, 5, 6, 7] rfl) (hD.sub [0, 1, 2, 3, 4, 5, 6, 7] (by decide) rfl) hS _ (lv_sub hl [5, 6, 7, 3, 2, 1, 0] rfl)
        · refine lv_iconst (v := iI (0)) hx hb dGR_init_83 rfl ?_
          refine lv_goto (tgt := 88) hx hb dGR_init_84 (by decide) ?_
          refine lz_iadd hx hb dGR_init_88 ?_
          refine lv_istore_n (lv' := [(3, .int (iI ((matT ks i) + 0))), (7, .int (iI ((ks.getD i (-1)) / 13824))), (0, .ref g), (1, .ref r), (2, .ref b), (4, .int (iI (cenT ks i))), (5, .int (iI (bef ks i))), (6, .int (iI (i : Int)))]) hx hb dGR_init_89 rfl hl (by decide) rfl (fun ls hl => ?_)
          refine lv_iload hx hb dGR_init_90 (lv_at hl 5 rfl) ?_
          refine lv_iload hx hb dGR_init_92 (lv_at hl 1 rfl) ?_
          refine lv_sipush (v := iI (16484)) hx hb dGR_init_94 (by decide) ?_
          refine lz_icmp_ne (tgt := 104) hx hb dGR_init_97 (by decide) (by have := hrg (j := i) (by omega); omega) (by omega) (fun c_97 => ?_) (fun c_97 => ?_)
          · refine lv_iconst (v := iI (0)) hx hb dGR_init_104 rfl ?_
            refine lz_iadd hx hb dGR_init_105 ?_
            refine lv_istore (lv' := [(4, .int (iI ((cenT ks i) + 0))), (3, .int (iI ((matT ks i) + 0))), (7, .int (iI ((ks.getD i (-1)) / 13824))), (0, .ref g), (1, .ref r), (2, .ref b), (5, .int (iI (bef ks i))), (6, .int (iI (i : Int)))]) hx hb dGR_init_106 hl (by decide) rfl (fun ls hl => ?_)
            refine lv_iload hx hb dGR_init_108 (lv_at hl 2 rfl) ?_
            refine lv_istore (lv' := [(5, .int (iI ((ks.getD i (-1)) / 13824))), (4, .int (iI ((cenT ks i) + 0))), (3, .int (iI ((matT ks i) + 0))), (7, .int (iI ((ks.getD i (-1)) / 13824))), (0, .ref g), (1, .ref r), (2, .ref b), (6, .int (iI (i : Int)))]) hx hb dGR_init_110 hl (by decide) rfl (fun ls hl => ?_)
            refine lz_iinc (lv' := [(6, .int (iI ((i : Int) + 1))), (5, .int (iI ((ks.getD i (-1)) / 13824))), (4, .int (iI ((cenT ks i) + 0))), (3, .int (iI ((matT ks i) + 0))), (7, .int (iI ((ks.getD i (-1)) / 13824))), (0, .ref g), (1, .ref r), (2, .ref b)]) hx hb dGR_init_112 hl (k := 7) rfl (by decide) rfl (fun ls hl => ?_)
            refine lv_goto (tgt := 40) hx hb dGR_init_115 (by decide) ?_
            rw [show (ks.getD i (-1)) / 13824 = bef ks (i + 1) from (bef_s ks i).symm] at hl
            rw [show (matT ks i) + 0 = matT ks (i + 1) from by show _ = matT ks i + _; rw [if_pos c_80]] at hl
            rw [show (cenT ks i) + 0 = cenT ks (i + 1) from by show _ = cenT ks i + _; rw [if_neg c_97]] at hl
            exact ih40 (i + 1) u_71.2 (by omega) ho2 (by omega) _ _ (hP.sub [0, 1, 2, 3, 4, 5, 6, 7] rfl) (hD.sub [0, 1, 2, 3, 4, 5, 6, 7] (by decide) rfl) hS _ (lv_sub hl [5, 6, 7, 3, 2, 1, 0] rfl)
          · refine lv_iconst (v := iI (1)) hx hb dGR_init_100 rfl ?_
            refine lv_goto (tgt := 105) hx hb dGR_init_101 (by decide) ?_
            refine lz_iadd hx hb dGR_init_105 ?_
            refine lv_istore (lv' := [(4, .int (iI ((cenT ks i) + 1))), (3, .int (iI ((matT ks i) + 0))), (7, .int (iI ((ks.getD i (-1)) / 13824))), (0, .ref g), (1, .ref r), (2, .ref b), (5, .int (iI (bef ks i))), (6, .int (iI (i : Int)))]) hx hb dGR_init_106 hl (by decide) rfl (fun ls hl => ?_)
            refine lv_iload hx hb dGR_init_108 (lv_at hl 2 rfl) ?_
            refine lv_istore (lv' := [(5, .int (iI ((ks.getD i (-1)) / 13824))), (4, .int (iI ((cenT ks i) + 1))), (3, .int (iI ((matT ks i) + 0))), (7, .int (iI ((ks.getD i (-1)) / 13824))), (0, .ref g), (1, .ref r), (2, .ref b), (6, .int (iI (i : Int)))]) hx hb dGR_init_110 hl (by decide) rfl (fun ls hl => ?_)
            refine lz_iinc (lv' := [(6, .int (iI ((i : Int) + 1))), (5, .int (iI ((ks.getD i (-1)) / 13824))), (4, .int (iI ((cenT ks i) + 1))), (3, .int (iI ((matT ks i) + 0))), (7, .int (iI ((ks.getD i (-1)) / 13824))), (0, .ref g), (1, .ref r), (2, .ref b)]) hx hb dGR_init_112 hl (k := 7) rfl (by decide) rfl (fun ls hl => ?_)
            refine lv_goto (tgt := 40) hx hb dGR_init_115 (by decide) ?_
            rw [show (ks.getD i (-1)) / 13824 = bef ks (i + 1) from (bef_s ks i).symm] at hl
            rw [show (matT ks i) + 0 = matT ks (i + 1) from by show _ = matT ks i + _; rw [if_pos c_80]] at hl
            rw [show (cenT ks i) + 1 = cenT ks (i + 1) from by show _ = cenT ks i + _; rw [if_pos c_97]] at hl
            exact ih40 (i + 1) u_71.2 (by omega) ho2 (by omega) _ _ (hP.sub [0, 1, 2, 3, 4, 5, 6, 7] rfl) (hD.sub [0, 1, 2, 3, 4, 5, 6, 7] (by decide) rfl) hS _ (lv_sub hl [5, 6, 7, 3, 2, 1, 0] rfl)
  exact lp40 _ 0 (fun _ => 0) (Nat.zero_le _) ⟨Nat.zero_le _, by omega, fun j hj => absurd hj (Nat.not_lt_zero _), List.Pairwise.nil, fun x hx => absurd hx List.not_mem_nil⟩ (Nat.lt_succ_self _) _ _ (hP.sub [0, 1, 2, 3, 4, 5, 6, 7] rfl) (hD.sub [0, 1, 2, 3, 4, 5, 6, 7] (by decide) rfl) hS _ (lv_sub hl [4, 5, 6, 3, 2, 1, 0] rfl)
end
section
/-! ALIKE: sets that are joined by generators. -/
noncomputable def cnt (p : Nat → Prop) : Nat → Nat
  | 0 => 0
  | n + 1 => cnt p n + @ite Nat (p n) (Classical.propDecidable _) 1 0
theorem cnt_t {p : Nat → Prop} {n : Nat} (h : p n) : cnt p (n + 1) = cnt p n + 1 := by
  show cnt p n + @ite Nat (p n) (Classical.propDecidable _) 1 0 = _
  rw [if_pos h]
theorem cnt_f {p : Nat → Prop} {n : Nat} (h : ¬ p n) : cnt p (n + 1) = cnt p n := by
  show cnt p n + @ite Nat (p n) (Classical.propDecidable _) 1 0 = _
  rw [if_neg h]
  rfl
theorem cnt_congr {p q : Nat → Prop} : ∀ {n : Nat}, (∀ i, i < n → (p i ↔ q i)) → cnt p n = cnt q n
  | 0, _ => rfl
  | n + 1, h => by
    have ih := cnt_congr (p := p) (q := q) (n := n) fun i hi => h i (by omega)
    by_cases hp : p n
    · rw [cnt_t hp, cnt_t ((h n (by omega)).mp hp), ih]
    · rw [cnt_f hp, cnt_f (fun q => hp ((h n (by omega)).mpr q)), ih]
theorem cnt_le {p : Nat → Prop} : ∀ n : Nat, cnt p n ≤ n
  | 0 => Nat.le_refl _
  | n + 1 => by
    have ih := cnt_le (p := p) n
    by_cases hp : p n
    · rw [cnt_t hp]; omega
    · rw [cnt_f hp]; omega
theorem cnt_one {p q : Nat → Prop} {k : Nat} : ∀ {n : Nat}, k < n → p k → ¬ q k → (∀ i, i < n → i ≠ k → (p i ↔ q i)) → cnt p n = cnt q n + 1
  | 0, h, _, _, _ => absurd h (Nat.not_lt_zero _)
  | n + 1, h, h1, h2, h3 => by
    rcases Nat.lt_or_ge k n with a | a
    · have ih := cnt_one (n := n) a h1 h2 fun i hi hk => h3 i (by omega) hk
      by_cases hp : p n
      · rw [cnt_t hp, cnt_t ((h3 n (by omega) (by omega)).mp hp), ih]
      · rw [cnt_f hp, cnt_f (fun q => hp ((h3 n (by omega) (by omega)).mpr q)), ih]
    · obtain rfl : k = n := by omega
      rw [cnt_t h1, cnt_f h2, cnt_congr fun i hi => h3 i (by omega) (by omega)]
/-- ALIKE -/
def alk (ks : List Int) (i j : Nat) : Prop := ∃ c ∈ ks, timesK c (ks.getD i (-1)) = timesK (ks.getD j (-1)) c
theorem alk_refl {ks : List Int} (h : isG ks) {i : Nat} (hi : i < ks.length) : alk ks i i := ⟨u0, h.2.1, by rw [h.ul (getD_mem hi), h.ur (getD_mem hi)]⟩
theorem alk_symm {ks : List Int} (h : isG ks) {i j : Nat} (hi : i < ks.length) (hj : j < ks.length) (ha : alk ks i j) : alk ks j i := by
  obtain ⟨c, hc, e⟩ := ha
  obtain ⟨d, hd, e1, e2⟩ := h.inv hc
  have mi := getD_mem hi
  have mj := getD_mem hj
  refine ⟨d, hd, ?_⟩
  -- d b = d b c d = d c a d = a d
  have h1 : timesK d (ks.getD j (-1)) = timesK (timesK d (timesK (ks.getD j (-1)) c)) d := by
    rw [h.assoc hd (h.2.2.2 _ mj _ hc) hd, h.assoc mj hc hd, e1, h.ur mj]
  rw [h1, ← e, ← h.assoc hd hc mi, e2, h.ul mi]
theorem alk_trans {ks : List Int} (h : isG ks) {i j k : Nat} (hi : i < ks.length) (hj : j < ks.length) (hk : k < ks.length) (h1 : alk ks i j) (h2 : alk ks j k) : alk ks i k := by
  obtain ⟨c, hc, e⟩ := h1
  obtain ⟨d, hd, e2⟩ := h2
  have mi := getD_mem hi
  have mj := getD_mem hj
  have mk := getD_mem hk
  refine ⟨timesK d c, h.2.2.2 _ hd _ hc, ?_⟩
  rw [h.assoc hd hc mi, e, ← h.assoc hd mj hc, e2, h.assoc mk hd hc]
def inN (n : Nat) (so : Nat → Int) : Prop := ∀ i, i < n → 0 ≤ so i ∧ so i < (n : Int)
/-- how many values there are -/
noncomputable def nval (n : Nat) (so : Nat → Int) : Nat := cnt (fun v => ∃ i, i < n ∧ so i = (v : Int)) n
def jn (so : Nat → Int) (a b : Nat) : Nat → Int := fun i => if so i = so b then so a else so i
theorem nval_congr {n : Nat} {so so' : Nat → Int} (h : ∀ i, i < n → so' i = so i) : nval n so' = nval n so :=
  cnt_congr fun v _ => ⟨fun ⟨i, hi, e⟩ => ⟨i, hi, by rw [← h i hi]; exact e⟩, fun ⟨i, hi, e⟩ => ⟨i, hi, by rw [h i hi]; exact e⟩⟩
theorem jn_val {n : Nat} {so so' : Nat → Int} {a b : Nat} (ha : a < n) (hb : b < n) (hr : inN n so) (hne : so a ≠ so b) (h : ∀ i, i < n → so' i = jn so a b i) : nval n so = nval n so' + 1 := by
  have hb2 := hr b hb
  refine cnt_one (k := (so b).toNat) (by omega) ⟨b, hb, by omega⟩ ?_ ?_
  · rintro ⟨i, hi, e⟩
    rw [h i hi] at e
    unfold jn at e
    by_cases q : so i = so b
    · rw [if_pos q] at e; omega
    · rw [if_neg q] at e; omega
  · intro v hv hk
    constructor
    · rintro ⟨i, hi, e⟩
      by_cases q : so i = so b
      · omega
      · exact ⟨i, hi, by rw [h i hi]; unfold jn; rw [if_neg q]; exact e⟩
    · rintro ⟨i, hi, e⟩
      rw [h i hi] at e
      unfold jn at e
      by_cases q : so i = so b
      · rw [if_pos q] at e; exact ⟨a, ha, e⟩
      · rw [if_neg q] at e; exact ⟨i, hi, e⟩
/-- the first ones of their values -/
noncomputable def nfst (n : Nat) (so : Nat → Int) : Nat := cnt (fun a => ∀ b, b < a → so b ≠ so a) n
theorem nval_pre {n : Nat} {so : Nat → Int} (hr : inN n so) : ∀ m, m ≤ n → cnt (fun v => ∃ i, i < m ∧ so i = (v : Int)) n = nfst m so
  | 0, _ => by
    have : ∀ k : Nat, cnt (fun v => ∃ i, i < 0 ∧ so i = (v : Int)) k = 0 := by
      intro k
      induction k with
      | zero => rfl
      | succ k ih => rw [cnt_f (by rintro ⟨i, hi, _⟩; omega), ih]
    exact this n
  | m + 1, hm => by
    have ih := nval_pre hr m (by omega)
    have hm2 := hr m (by omega)
    by_cases hnew : ∀ b, b < m → so b ≠ so m
    · have e : nfst (m + 1) so = nfst m so + 1 := cnt_t hnew
      rw [e, ← ih]
      refine cnt_one (k := (so m).toNat) (by omega) ⟨m, by omega, by omega⟩ ?_ ?_
      · rintro ⟨i, hi, e⟩
        exact hnew i hi (by omega)
      · intro v hv hk
        constructor
        · rintro ⟨i, hi, e⟩
          refine ⟨i, ?_, e⟩
          rcases Nat.lt_or_ge i m with q | q
          · exact q
          · obtain rfl : i = m := by omega
            omega
        · rintro ⟨i, hi, e⟩
          exact ⟨i, by omega, e⟩
    · have e : nfst (m + 1) so = nfst m so := cnt_f hnew
      rw [e, ← ih]
      clear e
      refine cnt_congr fun v hv => ⟨fun ⟨i, hi, ev⟩ => ?_, fun ⟨i, hi, ev⟩ => ⟨i, by omega, ev⟩⟩
      rcases Nat.lt_or_ge i m with q | q
      · exact ⟨i, q, ev⟩
      · obtain rfl : i = m := by omega
        have : ∃ b, b < i ∧ so b = so i := by
          apply Classical.byContradiction
          intro hn
          exact hnew fun b hb hq => hn ⟨b, hb, hq⟩
        obtain ⟨b, hb, hq⟩ := this
        exact ⟨b, hb, by rw [hq]; exact ev⟩
theorem nval_nfst {n : Nat} {so : Nat → Int} (hr : inN n so) : nval n so = nfst n so := nval_pre hr n (Nat.le_refl _)
theorem nval_id (n : Nat) : ∀ so : Nat → Int, (∀ i, i < n → so i = (i : Int)) → nval n so = n := by
  intro so h
  have : ∀ m, m ≤ n → cnt (fun v => ∃ i, i < n ∧ so i = (v : Int)) m = m := by
    intro m
    induction m with
    | zero => intro _; rfl
    | succ m ih => intro hm; rw [cnt_t ⟨m, by omega, h m (by omega)⟩, ih (by omega)]
  exact this n (Nat.le_refl _)
/-- how many sets of ALIKE ones; how many are ALIKE to one -/
noncomputable def nAlk (ks : List Int) : Nat := cnt (fun a => ∀ b, b < a → ¬ alk ks b a) ks.length
noncomputable def mAlk (ks : List Int) (k : Nat) : Nat := cnt (fun i => alk ks i k) ks.length
/-- the sets, as far as they are joined -/
def ASt (ks : List Int) (so : Nat → Int) (ct : Int) : Prop := inN ks.length so ∧ ct = (nval ks.length so : Int) ∧ ∀ i j, i < ks.length → j < ks.length → so i = so j → alk ks i j
theorem ASt.join {ks : List Int} (hG : isG ks) {so so' : Nat → Int} {ct : Int} (h : ASt ks so ct) {a b : Nat} (ha : a < ks.length) (hb : b < ks.length) (hab : alk ks a b) (hne : so a ≠ so b) (h' : ∀ i, i < ks.length → so' i = jn so a b i) : ASt ks so' (ct - 1) := by
  obtain ⟨h1, h2, h3⟩ := h
  have hv := jn_val ha hb h1 hne h'
  refine ⟨fun i hi => ?_, by omega, fun i j hi hj e => ?_⟩
  · rw [h' i hi]
    unfold jn
    split
    · exact h1 a ha
    · exact h1 i hi
  · rw [h' i hi, h' j hj] at e
    unfold jn at e
    by_cases q : so i = so b
    · have ib := h3 i b hi hb q
      rw [if_pos q] at e
      by_cases q2 : so j = so b
      · exact alk_trans hG hi hb hj ib (alk_symm hG hj hb (h3 j b hj hb q2))
      · rw [if_neg q2] at e
        exact alk_trans hG hi hb hj ib (alk_trans hG hb ha hj (alk_symm hG ha hb hab) (h3 a j ha hj e))
    · rw [if_neg q] at e
      by_cases q2 : so j = so b
      · rw [if_pos q2] at e
        exact alk_trans hG hi ha hj (h3 i a hi ha e) (alk_trans hG ha hb hj hab (alk_symm hG hj hb (h3 j b hj hb q2)))
      · rw [if_neg q2] at e
        exact h3 i j hi hj e
theorem jn_mono {so so' : Nat → Int} {a b n : Nat} (h : ∀ i, i < n → so' i = jn so a b i) {i j : Nat} (hi : i < n) (hj : j < n) (e : so i = so j) : so' i = so' j := by
  rw [h i hi, h j hj]
  unfold jn
  rw [e]
theorem jn_eq {so so' : Nat → Int} {a b n : Nat} (h : ∀ i, i < n → so' i = jn so a b i) (ha : a < n) (hb : b < n) : so' a = so' b := by
  rw [h a ha, h b hb]
  unfold jn
  rw [if_pos rfl]
  split <;> rfl
/-- joined by all generators: joined by all -/
theorem alk_all {ks gs : List Int} (hG : isG ks) (hr : ∀ x ∈ ks, Reach gs x) (hg : ∀ a ∈ gs, a ∈ ks) {so : Nat → Int} (hs : ks.Nodup) (h : ∀ c ∈ gs, ∀ a b, a < ks.length → b < ks.length → timesK c (ks.getD a (-1)) = timesK (ks.getD b (-1)) c → so a = so b) : ∀ i j, i < ks.length → j < ks.length → alk ks i j → so i = so j := by
  have key : ∀ c ∈ ks, ∀ a b, a < ks.length → b < ks.length → timesK c (ks.getD a (-1)) = timesK (ks.getD b (-1)) c → so a = so b := by
    intro c hc
    refine (hr c hc (fun c => c ∈ ks ∧ ∀ a b, a < ks.length → b < ks.length → timesK c (ks.getD a (-1)) = timesK (ks.getD b (-1)) c → so a = so b) ⟨hG.2.1, fun a b ha hb e => ?_⟩ fun y g hy hgm hn => ⟨hG.2.2.2 _ hy.1 _ (hg g hgm), fun a b ha hb e => ?_⟩).2
    · rw [hG.ul (getD_mem ha), hG.ur (getD_mem hb)] at e
      rw [getD_nd hs ha hb e]
    · have hgk := hg g hgm
      obtain ⟨d, hd, e1, e2⟩ := hG.inv hgk
      have ma := getD_mem ha
      have mb := getD_mem hb
      obtain ⟨a', ha', ea⟩ := mem_getD (hG.2.2.2 _ (hG.2.2.2 _ hgk _ ma) _ hd)
      have f1 : timesK g (ks.getD a (-1)) = timesK (ks.getD a' (-1)) g := by
        rw [ea, hG.assoc (hG.2.2.2 _ hgk _ ma) hd hgk, e2, hG.ur (hG.2.2.2 _ hgk _ ma)]
      rw [h g hgm a a' ha ha' f1]
      refine hy.2 a' b ha' hb ?_
      have ma' := getD_mem ha'
      refine hG.rc hgk (hG.2.2.2 _ hy.1 _ ma') (hG.2.2.2 _ mb _ hy.1) ?_
      rw [hG.assoc hy.1 ma' hgk, ← f1, ← hG.assoc hy.1 hgk ma, e, hG.assoc mb hy.1 hgk]
  intro i j hi hj ⟨c, hc, e⟩
  exact key c hc i j hi hj e
theorem isG.gen {ks : List Int} (h : isG ks) (hs : ks.Pairwise (· < ·)) (hl : ks.length ≤ 192) : genOK ks ks := by
  refine ⟨hs, hl, fun x => ⟨fun hx => ?_, fun hx => ?_⟩, fun x hx a ha => h.tne hx ha⟩
  · have := Reach.step (Reach.u ks) hx (by rw [h.ul hx]; exact h.ne hx)
    rw [h.ul hx] at this
    exact this
  · exact hx (fun x => x ∈ ks) h.2.1 fun y a hy ha _ => h.2.2.2 y hy a ha
end
section
/-! decode rows: written by wip/whole/names.py -/
theorem dAS_init_0 : decode cAS_init 0 = .ok (.aload_n 0, 1) := by decide +kernel
theorem dAS_init_1 : decode cAS_init 1 = .ok (.invokespecial 3, 3) := by decide +kernel
theorem dAS_init_4 : decode cAS_init 4 = .ok (.aload_n 1, 1) := by decide +kernel
theorem dAS_init_5 : decode cAS_init 5 = .ok (.invokevirtual 9, 3) := by decide +kernel
theorem dAS_init_8 : decode cAS_init 8 = .ok (.istore 4, 2) := by decide +kernel
theorem dAS_init_10 : decode cAS_init 10 = .ok (.aload_n 0, 1) := by decide +kernel
theorem dAS_init_11 : decode cAS_init 11 = .ok (.iload 4, 2) := by decide +kernel
theorem dAS_init_13 : decode cAS_init 13 = .ok (.newarray .int, 2) := by decide +kernel
theorem dAS_init_15 : decode cAS_init 15 = .ok (.putfield 15, 3) := by decide +kernel
theorem dAS_init_18 : decode cAS_init 18 = .ok (.aload_n 0, 1) := by decide +kernel
theorem dAS_init_19 : decode cAS_init 19 = .ok (.iload 4, 2) := by decide +kernel
theorem dAS_init_21 : decode cAS_init 21 = .ok (.newarray .int, 2) := by decide +kernel
theorem dAS_init_23 : decode cAS_init 23 = .ok (.putfield 21, 3) := by decide +kernel
theorem dAS_init_26 : decode cAS_init 26 = .ok (.aload_n 0, 1) := by decide +kernel
theorem dAS_init_27 : decode cAS_init 27 = .ok (.iload 4, 2) := by decide +kernel
theorem dAS_init_29 : decode cAS_init 29 = .ok (.putfield 24, 3) := by decide +kernel
theorem dAS_init_32 : decode cAS_init 32 = .ok (.aload_n 3, 1) := by decide +kernel
theorem dAS_init_33 : decode cAS_init 33 = .ok (.invokevirtual 28, 3) := by decide +kernel
theorem dAS_init_36 : decode cAS_init 36 = .ok (.iconst 0, 1) := by decide +kernel
theorem dAS_init_37 : decode cAS_init 37 = .ok (.istore 5, 2) := by decide +kernel
theorem dAS_init_39 : decode cAS_init 39 = .ok (.iload 5, 2) := by decide +kernel
theorem dAS_init_41 : decode cAS_init 41 = .ok (.iload 4, 2) := by decide +kernel
theorem dAS_init_43 : decode cAS_init 43 = .ok (.if_icmp .ge 29, 3) := by decide +kernel
theorem dAS_init_46 : decode cAS_init 46 = .ok (.aload_n 0, 1) := by decide +kernel
theorem dAS_init_47 : decode cAS_init 47 = .ok (.getfield 15, 3) := by decide +kernel
theorem dAS_init_50 : decode cAS_init 50 = .ok (.iload 5, 2) := by decide +kernel
theorem dAS_init_52 : decode cAS_init 52 = .ok (.iload 5, 2) := by decide +kernel
theorem dAS_init_54 : decode cAS_init 54 = .ok (.iastore, 1) := by decide +kernel
theorem dAS_init_55 : decode cAS_init 55 = .ok (.aload_n 3, 1) := by decide +kernel
theorem dAS_init_56 : decode cAS_init 56 = .ok (.aload_n 1, 1) := by decide +kernel
theorem dAS_init_57 : decode cAS_init 57 = .ok (.iload 5, 2) := by decide +kernel
theorem dAS_init_59 : decode cAS_init 59 = .ok (.invokevirtual 33, 3) := by decide +kernel
theorem dAS_init_62 : decode cAS_init 62 = .ok (.invokevirtual 37, 3) := by decide +kernel
theorem dAS_init_65 : decode cAS_init 65 = .ok (.pop, 1) := by decide +kernel
theorem dAS_init_66 : decode cAS_init 66 = .ok (.iinc 5 1, 3) := by decide +kernel
theorem dAS_init_69 : decode cAS_init 69 = .ok (.goto (-30), 3) := by decide +kernel
theorem dAS_init_72 : decode cAS_init 72 = .ok (.iload 4, 2) := by decide +kernel
theorem dAS_init_74 : decode cAS_init 74 = .ok (.newarray .int, 2) := by decide +kernel
theorem dAS_init_76 : decode cAS_init 76 = .ok (.astore 5, 2) := by decide +kernel
theorem dAS_init_78 : decode cAS_init 78 = .ok (.iconst 0, 1) := by decide +kernel
theorem dAS_init_79 : decode cAS_init 79 = .ok (.istore 6, 2) := by decide +kernel
theorem dAS_init_81 : decode cAS_init 81 = .ok (.iload 6, 2) := by decide +kernel
theorem dAS_init_83 : decode cAS_init 83 = .ok (.aload_n 3, 1) := by decide +kernel
theorem dAS_init_84 : decode cAS_init 84 = .ok (.invokevirtual 41, 3) := by decide +kernel
theorem dAS_init_87 : decode cAS_init 87 = .ok (.if_icmp .ge 23, 3) := by decide +kernel
theorem dAS_init_90 : decode cAS_init 90 = .ok (.aload_n 0, 1) := by decide +kernel
theorem dAS_init_91 : decode cAS_init 91 = .ok (.aload_n 3, 1) := by decide +kernel
theorem dAS_init_92 : decode cAS_init 92 = .ok (.iload 6, 2) := by decide +kernel
theorem dAS_init_94 : decode cAS_init 94 = .ok (.invokevirtual 44, 3) := by decide +kernel
theorem dAS_init_97 : decode cAS_init 97 = .ok (.aload_n 1, 1) := by decide +kernel
theorem dAS_init_98 : decode cAS_init 98 = .ok (.aload_n 2, 1) := by decide +kernel
theorem dAS_init_99 : decode cAS_init 99 = .ok (.aload 5, 2) := by decide +kernel
theorem dAS_init_101 : decode cAS_init 101 = .ok (.invokevirtual 47, 3) := by decide +kernel
theorem dAS_init_104 : decode cAS_init 104 = .ok (.iinc 6 1, 3) := by decide +kernel
theorem dAS_init_107 : decode cAS_init 107 = .ok (.goto (-26), 3) := by decide +kernel
theorem dAS_init_110 : decode cAS_init 110 = .ok (.iconst 0, 1) := by decide +kernel
theorem dAS_init_111 : decode cAS_init 111 = .ok (.istore 6, 2) := by decide +kernel
theorem dAS_init_113 : decode cAS_init 113 = .ok (.iload 6, 2) := by decide +kernel
theorem dAS_init_115 : decode cAS_init 115 = .ok (.iload 4, 2) := by decide +kernel
theorem dAS_init_117 : decode cAS_init 117 = .ok (.if_icmp .ge 41, 3) := by decide +kernel
theorem dAS_init_120 : decode cAS_init 120 = .ok (.aload_n 0, 1) := by decide +kernel
theorem dAS_init_121 : decode cAS_init 121 = .ok (.getfield 15, 3) := by decide +kernel
theorem dAS_init_124 : decode cAS_init 124 = .ok (.iload 6, 2) := by decide +kernel
theorem dAS_init_126 : decode cAS_init 126 = .ok (.iaload, 1) := by decide +kernel
theorem dAS_init_127 : decode cAS_init 127 = .ok (.istore 7, 2) := by decide +kernel
theorem dAS_init_129 : decode cAS_init 129 = .ok (.iload 7, 2) := by decide +kernel
theorem dAS_init_131 : decode cAS_init 131 = .ok (.ifCond .lt 21, 3) := by decide +kernel
theorem dAS_init_134 : decode cAS_init 134 = .ok (.iload 7, 2) := by decide +kernel
theorem dAS_init_136 : decode cAS_init 136 = .ok (.iload 4, 2) := by decide +kernel
theorem dAS_init_138 : decode cAS_init 138 = .ok (.if_icmp .ge 14, 3) := by decide +kernel
theorem dAS_init_141 : decode cAS_init 141 = .ok (.aload_n 0, 1) := by decide +kernel
theorem dAS_init_142 : decode cAS_init 142 = .ok (.getfield 21, 3) := by decide +kernel
theorem dAS_init_145 : decode cAS_init 145 = .ok (.iload 7, 2) := by decide +kernel
theorem dAS_init_147 : decode cAS_init 147 = .ok (.dup2, 1) := by decide +kernel
theorem dAS_init_148 : decode cAS_init 148 = .ok (.iaload, 1) := by decide +kernel
theorem dAS_init_149 : decode cAS_init 149 = .ok (.iconst 1, 1) := by decide +kernel
theorem dAS_init_150 : decode cAS_init 150 = .ok (.iadd, 1) := by decide +kernel
theorem dAS_init_151 : decode cAS_init 151 = .ok (.iastore, 1) := by decide +kernel
theorem dAS_init_152 : decode cAS_init 152 = .ok (.iinc 6 1, 3) := by decide +kernel
theorem dAS_init_155 : decode cAS_init 155 = .ok (.goto (-42), 3) := by decide +kernel
theorem dAS_init_158 : decode cAS_init 158 = .ok (.return_, 1) := by decide +kernel
theorem dAS_joinBy_0 : decode cAS_joinBy 0 = .ok (.iconst 0, 1) := by decide +kernel
theorem dAS_joinBy_1 : decode cAS_joinBy 1 = .ok (.istore 5, 2) := by decide +kernel
theorem dAS_joinBy_3 : decode cAS_joinBy 3 = .ok (.iload 5, 2) := by decide +kernel
theorem dAS_joinBy_5 : decode cAS_joinBy 5 = .ok (.aload 4, 2) := by decide +kernel
theorem dAS_joinBy_7 : decode cAS_joinBy 7 = .ok (.arraylength, 1) := by decide +kernel
theorem dAS_joinBy_8 : decode cAS_joinBy 8 = .ok (.if_icmp .ge 46, 3) := by decide +kernel
theorem dAS_joinBy_11 : decode cAS_joinBy 11 = .ok (.aload_n 2, 1) := by decide +kernel
theorem dAS_joinBy_12 : decode cAS_joinBy 12 = .ok (.aload_n 3, 1) := by decide +kernel
theorem dAS_joinBy_13 : decode cAS_joinBy 13 = .ok (.aload_n 2, 1) := by decide +kernel
theorem dAS_joinBy_14 : decode cAS_joinBy 14 = .ok (.iload 5, 2) := by decide +kernel
theorem dAS_joinBy_16 : decode cAS_joinBy 16 = .ok (.invokevirtual 33, 3) := by decide +kernel
theorem dAS_joinBy_19 : decode cAS_joinBy 19 = .ok (.iload_n 1, 1) := by decide +kernel
theorem dAS_joinBy_20 : decode cAS_joinBy 20 = .ok (.invokevirtual 51, 3) := by decide +kernel
theorem dAS_joinBy_23 : decode cAS_joinBy 23 = .ok (.invokevirtual 57, 3) := by decide +kernel
theorem dAS_joinBy_26 : decode cAS_joinBy 26 = .ok (.istore 6, 2) := by decide +kernel
theorem dAS_joinBy_28 : decode cAS_joinBy 28 = .ok (.iload 6, 2) := by decide +kernel
theorem dAS_joinBy_30 : decode cAS_joinBy 30 = .ok (.ifCond .lt 18, 3) := by decide +kernel
theorem dAS_joinBy_33 : decode cAS_joinBy 33 = .ok (.iload 6, 2) := by decide +kernel
theorem dAS_joinBy_35 : decode cAS_joinBy 35 = .ok (.aload 4, 2) := by decide +kernel
theorem dAS_joinBy_37 : decode cAS_joinBy 37 = .ok (.arraylength, 1) := by decide +kernel
theorem dAS_joinBy_38 : decode cAS_joinBy 38 = .ok (.if_icmp .ge 10, 3) := by decide +kernel
theorem dAS_joinBy_41 : decode cAS_joinBy 41 = .ok (.aload 4, 2) := by decide +kernel
theorem dAS_joinBy_43 : decode cAS_joinBy 43 = .ok (.iload 6, 2) := by decide +kernel
theorem dAS_joinBy_45 : decode cAS_joinBy 45 = .ok (.iload 5, 2) := by decide +kernel
theorem dAS_joinBy_47 : decode cAS_joinBy 47 = .ok (.iastore, 1) := by decide +kernel
theorem dAS_joinBy_48 : decode cAS_joinBy 48 = .ok (.iinc 5 1, 3) := by decide +kernel
theorem dAS_joinBy_51 : decode cAS_joinBy 51 = .ok (.goto (-48), 3) := by decide +kernel
theorem dAS_joinBy_54 : decode cAS_joinBy 54 = .ok (.iconst 0, 1) := by decide +kernel
theorem dAS_joinBy_55 : decode cAS_joinBy 55 = .ok (.istore 5, 2) := by decide +kernel
theorem dAS_joinBy_57 : decode cAS_joinBy 57 = .ok (.iload 5, 2) := by decide +kernel
theorem dAS_joinBy_59 : decode cAS_joinBy 59 = .ok (.aload 4, 2) := by decide +kernel
theorem dAS_joinBy_61 : decode cAS_joinBy 61 = .ok (.arraylength, 1) := by decide +kernel
theorem dAS_joinBy_62 : decode cAS_joinBy 62 = .ok (.if_icmp .ge 50, 3) := by decide +kernel
theorem dAS_joinBy_65 : decode cAS_joinBy 65 = .ok (.aload_n 2, 1) := by decide +kernel
theorem dAS_joinBy_66 : decode cAS_joinBy 66 = .ok (.aload_n 3, 1) := by decide +kernel
theorem dAS_joinBy_67 : decode cAS_joinBy 67 = .ok (.iload_n 1, 1) := by decide +kernel
theorem dAS_joinBy_68 : decode cAS_joinBy 68 = .ok (.aload_n 2, 1) := by decide +kernel
theorem dAS_joinBy_69 : decode cAS_joinBy 69 = .ok (.iload 5, 2) := by decide +kernel
theorem dAS_joinBy_71 : decode cAS_joinBy 71 = .ok (.invokevirtual 33, 3) := by decide +kernel
theorem dAS_joinBy_74 : decode cAS_joinBy 74 = .ok (.invokevirtual 51, 3) := by decide +kernel
theorem dAS_joinBy_77 : decode cAS_joinBy 77 = .ok (.invokevirtual 57, 3) := by decide +kernel
theorem dAS_joinBy_80 : decode cAS_joinBy 80 = .ok (.istore 6, 2) := by decide +kernel
theorem dAS_joinBy_82 : decode cAS_joinBy 82 = .ok (.iload 6, 2) := by decide +kernel
theorem dAS_joinBy_84 : decode cAS_joinBy 84 = .ok (.ifCond .lt 22, 3) := by decide +kernel
theorem dAS_joinBy_87 : decode cAS_joinBy 87 = .ok (.iload 6, 2) := by decide +kernel
theorem dAS_joinBy_89 : decode cAS_joinBy 89 = .ok (.aload 4, 2) := by decide +kernel
theorem dAS_joinBy_91 : decode cAS_joinBy 91 = .ok (.arraylength, 1) := by decide +kernel
theorem dAS_joinBy_92 : decode cAS_joinBy 92 = .ok (.if_icmp .ge 14, 3) := by decide +kernel
theorem dAS_joinBy_95 : decode cAS_joinBy 95 = .ok (.aload_n 0, 1) := by decide +kernel
theorem dAS_joinBy_96 : decode cAS_joinBy 96 = .ok (.iload 5, 2) := by decide +kernel
theorem dAS_joinBy_98 : decode cAS_joinBy 98 = .ok (.aload 4, 2) := by decide +kernel
theorem dAS_joinBy_100 : decode cAS_joinBy 100 = .ok (.iload 6, 2) := by decide +kernel
theorem dAS_joinBy_102 : decode cAS_joinBy 102 = .ok (.iaload, 1) := by decide +kernel
theorem dAS_joinBy_103 : decode cAS_joinBy 103 = .ok (.invokevirtual 60, 3) := by decide +kernel
theorem dAS_joinBy_106 : decode cAS_joinBy 106 = .ok (.iinc 5 1, 3) := by decide +kernel
theorem dAS_joinBy_109 : decode cAS_joinBy 109 = .ok (.goto (-52), 3) := by decide +kernel
theorem dAS_joinBy_112 : decode cAS_joinBy 112 = .ok (.return_, 1) := by decide +kernel
theorem dAS_join_0 : decode cAS_join 0 = .ok (.iload_n 1, 1) := by decide +kernel
theorem dAS_join_1 : decode cAS_join 1 = .ok (.ifCond .lt 40, 3) := by decide +kernel
theorem dAS_join_4 : decode cAS_join 4 = .ok (.iload_n 1, 1) := by decide +kernel
theorem dAS_join_5 : decode cAS_join 5 = .ok (.aload_n 0, 1) := by decide +kernel
theorem dAS_join_6 : decode cAS_join 6 = .ok (.getfield 15, 3) := by decide +kernel
theorem dAS_join_9 : decode cAS_join 9 = .ok (.arraylength, 1) := by decide +kernel
theorem dAS_join_10 : decode cAS_join 10 = .ok (.if_icmp .ge 31, 3) := by decide +kernel
theorem dAS_join_13 : decode cAS_join 13 = .ok (.iload_n 2, 1) := by decide +kernel
theorem dAS_join_14 : decode cAS_join 14 = .ok (.ifCond .lt 27, 3) := by decide +kernel
theorem dAS_join_17 : decode cAS_join 17 = .ok (.iload_n 2, 1) := by decide +kernel
theorem dAS_join_18 : decode cAS_join 18 = .ok (.aload_n 0, 1) := by decide +kernel
theorem dAS_join_19 : decode cAS_join 19 = .ok (.getfield 15, 3) := by decide +kernel
theorem dAS_join_22 : decode cAS_join 22 = .ok (.arraylength, 1) := by decide +kernel
theorem dAS_join_23 : decode cAS_join 23 = .ok (.if_icmp .ge 18, 3) := by decide +kernel
theorem dAS_join_26 : decode cAS_join 26 = .ok (.aload_n 0, 1) := by decide +kernel
theorem dAS_join_27 : decode cAS_join 27 = .ok (.getfield 15, 3) := by decide +kernel
theorem dAS_join_30 : decode cAS_join 30 = .ok (.iload_n 1, 1) := by decide +kernel
theorem dAS_join_31 : decode cAS_join 31 = .ok (.iaload, 1) := by decide +kernel
theorem dAS_join_32 : decode cAS_join 32 = .ok (.aload_n 0, 1) := by decide +kernel
theorem dAS_join_33 : decode cAS_join 33 = .ok (.getfield 15, 3) := by decide +kernel
theorem dAS_join_36 : decode cAS_join 36 = .ok (.iload_n 2, 1) := by decide +kernel
theorem dAS_join_37 : decode cAS_join 37 = .ok (.iaload, 1) := by decide +kernel
theorem dAS_join_38 : decode cAS_join 38 = .ok (.if_icmp .ne 4, 3) := by decide +kernel
theorem dAS_join_41 : decode cAS_join 41 = .ok (.return_, 1) := by decide +kernel
theorem dAS_join_42 : decode cAS_join 42 = .ok (.aload_n 0, 1) := by decide +kernel
theorem dAS_join_43 : decode cAS_join 43 = .ok (.getfield 15, 3) := by decide +kernel
theorem dAS_join_46 : decode cAS_join 46 = .ok (.iload_n 1, 1) := by decide +kernel
theorem dAS_join_47 : decode cAS_join 47 = .ok (.iaload, 1) := by decide +kernel
theorem dAS_join_48 : decode cAS_join 48 = .ok (.istore_n 3, 1) := by decide +kernel
theorem dAS_join_49 : decode cAS_join 49 = .ok (.aload_n 0, 1) := by decide +kernel
theorem dAS_join_50 : decode cAS_join 50 = .ok (.getfield 15, 3) := by decide +kernel
theorem dAS_join_53 : decode cAS_join 53 = .ok (.iload_n 2, 1) := by decide +kernel
theorem dAS_join_54 : decode cAS_join 54 = .ok (.iaload, 1) := by decide +kernel
theorem dAS_join_55 : decode cAS_join 55 = .ok (.istore 4, 2) := by decide +kernel
theorem dAS_join_57 : decode cAS_join 57 = .ok (.iconst 0, 1) := by decide +kernel
theorem dAS_join_58 : decode cAS_join 58 = .ok (.istore 5, 2) := by decide +kernel
theorem dAS_join_60 : decode cAS_join 60 = .ok (.iload 5, 2) := by decide +kernel
theorem dAS_join_62 : decode cAS_join 62 = .ok (.aload_n 0, 1) := by decide +kernel
theorem dAS_join_63 : decode cAS_join 63 = .ok (.getfield 15, 3) := by decide +kernel
theorem dAS_join_66 : decode cAS_join 66 = .ok (.arraylength, 1) := by decide +kernel
theorem dAS_join_67 : decode cAS_join 67 = .ok (.if_icmp .ge 29, 3) := by decide +kernel
theorem dAS_join_70 : decode cAS_join 70 = .ok (.aload_n 0, 1) := by decide +kernel
theorem dAS_join_71 : decode cAS_join 71 = .ok (.getfield 15, 3) := by decide +kernel
theorem dAS_join_74 : decode cAS_join 74 = .ok (.iload 5, 2) := by decide +kernel
theorem dAS_join_76 : decode cAS_join 76 = .ok (.iaload, 1) := by decide +kernel
theorem dAS_join_77 : decode cAS_join 77 = .ok (.iload 4, 2) := by decide +kernel
theorem dAS_join_79 : decode cAS_join 79 = .ok (.if_icmp .ne 11, 3) := by decide +kernel
theorem dAS_join_82 : decode cAS_join 82 = .ok (.aload_n 0, 1) := by decide +kernel
theorem dAS_join_83 : decode cAS_join 83 = .ok (.getfield 15, 3) := by decide +kernel
theorem dAS_join_86 : decode cAS_join 86 = .ok (.iload 5, 2) := by decide +kernel
theorem dAS_join_88 : decode cAS_join 88 = .ok (.iload_n 3, 1) := by decide +kernel
theorem dAS_join_89 : decode cAS_join 89 = .ok (.iastore, 1) := by decide +kernel
theorem dAS_join_90 : decode cAS_join 90 = .ok (.iinc 5 1, 3) := by decide +kernel
theorem dAS_join_93 : decode cAS_join 93 = .ok (.goto (-33), 3) := by decide +kernel
theorem dAS_join_96 : decode cAS_join 96 = .ok (.aload_n 0, 1) := by decide +kernel
theorem dAS_join_97 : decode cAS_join 97 = .ok (.dup, 1) := by decide +kernel
theorem dAS_join_98 : decode cAS_join 98 = .ok (.getfield 24, 3) := by decide +kernel
theorem dAS_join_101 : decode cAS_join 101 = .ok (.iconst 1, 1) := by decide +kernel
theorem dAS_join_102 : decode cAS_join 102 = .ok (.isub, 1) := by decide +kernel
theorem dAS_join_103 : decode cAS_join 103 = .ok (.putfield 24, 3) := by decide +kernel
theorem dAS_join_106 : decode cAS_join 106 = .ok (.return_, 1) := by decide +kernel
theorem dAS_count_0 : decode cAS_count 0 = .ok (.aload_n 0, 1) := by decide +kernel
theorem dAS_count_1 : decode cAS_count 1 = .ok (.getfield 24, 3) := by decide +kernel
theorem dAS_count_4 : decode cAS_count 4 = .ok (.ireturn, 1) := by decide +kernel
theorem dAS_sizeOf_0 : decode cAS_sizeOf 0 = .ok (.iload_n 1, 1) := by decide +kernel
theorem dAS_sizeOf_1 : decode cAS_sizeOf 1 = .ok (.ifCond .lt 21, 3) := by decide +kernel
theorem dAS_sizeOf_4 : decode cAS_sizeOf 4 = .ok (.iload_n 1, 1) := by decide +kernel
theorem dAS_sizeOf_5 : decode cAS_sizeOf 5 = .ok (.aload_n 0, 1) := by decide +kernel
theorem dAS_sizeOf_6 : decode cAS_sizeOf 6 = .ok (.getfield 15, 3) := by decide +kernel
theorem dAS_sizeOf_9 : decode cAS_sizeOf 9 = .ok (.arraylength, 1) := by decide +kernel
theorem dAS_sizeOf_10 : decode cAS_sizeOf 10 = .ok (.if_icmp .ge 12, 3) := by decide +kernel
theorem dAS_sizeOf_13 : decode cAS_sizeOf 13 = .ok (.aload_n 0, 1) := by decide +kernel
theorem dAS_sizeOf_14 : decode cAS_sizeOf 14 = .ok (.getfield 15, 3) := by decide +kernel
theorem dAS_sizeOf_17 : decode cAS_sizeOf 17 = .ok (.iload_n 1, 1) := by decide +kernel
theorem dAS_sizeOf_18 : decode cAS_sizeOf 18 = .ok (.iaload, 1) := by decide +kernel
theorem dAS_sizeOf_19 : decode cAS_sizeOf 19 = .ok (.goto 4, 3) := by decide +kernel
theorem dAS_sizeOf_22 : decode cAS_sizeOf 22 = .ok (.iconst (-1), 1) := by decide +kernel
theorem dAS_sizeOf_23 : decode cAS_sizeOf 23 = .ok (.istore_n 2, 1) := by decide +kernel
theorem dAS_sizeOf_24 : decode cAS_sizeOf 24 = .ok (.iload_n 2, 1) := by decide +kernel
theorem dAS_sizeOf_25 : decode cAS_sizeOf 25 = .ok (.ifCond .lt 21, 3) := by decide +kernel
theorem dAS_sizeOf_28 : decode cAS_sizeOf 28 = .ok (.iload_n 2, 1) := by decide +kernel
theorem dAS_sizeOf_29 : decode cAS_sizeOf 29 = .ok (.aload_n 0, 1) := by decide +kernel
theorem dAS_sizeOf_30 : decode cAS_sizeOf 30 = .ok (.getfield 21, 3) := by decide +kernel
theorem dAS_sizeOf_33 : decode cAS_sizeOf 33 = .ok (.arraylength, 1) := by decide +kernel
theorem dAS_sizeOf_34 : decode cAS_sizeOf 34 = .ok (.if_icmp .ge 12, 3) := by decide +kernel
theorem dAS_sizeOf_37 : decode cAS_sizeOf 37 = .ok (.aload_n 0, 1) := by decide +kernel
theorem dAS_sizeOf_38 : decode cAS_sizeOf 38 = .ok (.getfield 21, 3) := by decide +kernel
theorem dAS_sizeOf_41 : decode cAS_sizeOf 41 = .ok (.iload_n 2, 1) := by decide +kernel
theorem dAS_sizeOf_42 : decode cAS_sizeOf 42 = .ok (.iaload, 1) := by decide +kernel
theorem dAS_sizeOf_43 : decode cAS_sizeOf 43 = .ok (.goto 4, 3) := by decide +kernel
theorem dAS_sizeOf_46 : decode cAS_sizeOf 46 = .ok (.iconst (-1), 1) := by decide +kernel
theorem dAS_sizeOf_47 : decode cAS_sizeOf 47 = .ok (.ireturn, 1) := by decide +kernel
end
section
/-! AlikeSets: written by wip/whole/genas.py -/
def rmAS_count : Room := { frames := 0, cells := 0, slots := 0, locals := 0 }
set_option maxHeartbeats 4000000 in
set_option maxRecDepth 100000 in
theorem mAS_count (l : Launch) (D : va_G) (cI cG : ClassId) (t sa za : Nat) (ct : Int)  : zRI l yAS_count wAS_count rmAS_count D vwCl (zT cI cG) [.ref t] [(t, .inr (0, [.ref sa, .ref za, .int (iI ct)]))] (fun z => z = ct) := by
  refine zRI.of (cc := cAS_count) (maxL := 1) (rt := .int) (by decide) rfl (Nat.le_of_ble_eq_true rfl) (fun _ _ => rfl) ?_
  intro p e s m args below meth c ls Q hx hb hml hown hts hK hP hX hl hret
  have hS0 : va_S (fun _ => False) s.heap s.heap [] := va_S.rf
  have hl : lv_has ls 1 [(0, .ref t)] := hl
  refine lv_aload_n hx hb dAS_count_0 rfl (lv_at hl 0 rfl) ?_
  refine va_get (D := D) (ci := 0) (v := .int (iI ct)) (C := nAS) (T := fAS) (N := 3) hx hb hts iwAS hown hK hP 0 rfl rfl 2 (by decide) (hts _ (List.mem_cons_of_mem _ lkAS_24)) (fun _ h9 => h9) rfl dAS_count_1 ?_
  exact hret 4 ls ct rfl dAS_count_4

def rmAS_sizeOf : Room := { frames := 0, cells := 0, slots := 0, locals := 0 }
set_option maxHeartbeats 4000000 in
set_option maxRecDepth 100000 in
theorem mAS_sizeOf (l : Launch) (D : va_G) (cI cG : ClassId) (t sa za n : Nat) (so sz : Nat → Int) (ct k : Int) (hr : inN n so) (hn : n ≤ 192) (hk : 0 ≤ k ∧ k < (n : Int)) : zRI l yAS_sizeOf wAS_sizeOf rmAS_sizeOf D vwCl (zT cI cG) [.ref t, .int (iI k)] [(t, .inr (0, [.ref sa, .ref za, .int (iI ct)])), (sa, .inl (cI, n, .inl (zf so))), (za, .inl (cI, n, .inl (zf sz)))] (fun z => z = sz (so k.toNat).toNat) := by
  refine zRI.of (cc := cAS_sizeOf) (maxL := 3) (rt := .int) (by decide) rfl (Nat.le_of_ble_eq_true rfl) (fun _ _ => rfl) ?_
  intro p e s m args below meth c ls Q hx hb hml hown hts hK hP hX hl hret
  have hS0 : va_S (fun _ => False) s.heap s.heap [] := va_S.rf
  have hl : lv_has ls 3 [(0, .ref t), (1, .int (iI k))] := hl
  have hrk := hr k.toNat (by omega)
  refine lv_iload_n hx hb dAS_sizeOf_0 rfl (lv_at hl 1 rfl) ?_
  refine lz_if_lt (tgt := 22) hx hb dAS_sizeOf_1 (by decide) (by omega) (fun c_1 => ?_) (fun c_1 => ?_)
  · exact absurd c_1 (by omega)
  · refine lv_iload_n hx hb dAS_sizeOf_4 rfl (lv_at hl 1 rfl) ?_
    refine lv_aload_n hx hb dAS_sizeOf_5 rfl (lv_at hl 0 rfl) ?_
    refine va_get (D := D) (ci := 0) (v := .ref sa) (C := nAS) (T := fAS) (N := 3) hx hb hts iwAS hown hK hP 0 rfl rfl 0 (by decide) (hts _ (List.mem_cons_of_mem _ lkAS_15)) (fun _ h9 => h9) rfl dAS_sizeOf_6 ?_
    refine lz_alen hx hb hK hP 1 0 rfl rfl dAS_sizeOf_9 ?_
    refine lz_icmp_ge (tgt := 22) hx hb dAS_sizeOf_10 (by decide) (by omega) (by omega) (fun c_10 => ?_) (fun c_10 => ?_)
    · exact absurd c_10 (by omega)
    · refine lv_aload_n hx hb dAS_sizeOf_13 rfl (lv_at hl 0 rfl) ?_
      refine va_get (D := D) (ci := 0) (v := .ref sa) (C := nAS) (T := fAS) (N := 3) hx hb hts iwAS hown hK hP 0 rfl rfl 0 (by decide) (hts _ (List.mem_cons_of_mem _ lkAS_15)) (fun _ h9 => h9) rfl dAS_sizeOf_14 ?_
      refine lv_iload_n hx hb dAS_sizeOf_17 rfl (lv_at hl 1 rfl) ?_
      refine lz_iald hx hb hK hP 1 0 rfl rfl (z := k) (by omega) dAS_sizeOf_18 ?_
      refine lv_goto (tgt := 23) hx hb dAS_sizeOf_19 (by decide) ?_
      refine lv_istore_n (lv' := [(2, .int (iI (so (k).toNat))), (0, .ref t), (1, .int (iI k))]) hx hb dAS_sizeOf_23 rfl hl (by decide) rfl (fun ls hl => ?_)
      refine lv_iload_n hx hb dAS_sizeOf_24 rfl (lv_at hl 0 rfl) ?_
      refine lz_if_lt (tgt := 46) hx hb dAS_sizeOf_25 (by decide) (by omega) (fun c_25 => ?_) (fun c_25 => ?_)
      · exact absurd c_25 (by omega)
      · refine lv_iload_n hx hb dAS_sizeOf_28 rfl (lv_at hl 0 rfl) ?_
        refine lv_aload_n hx hb dAS_sizeOf_29 rfl (lv_at hl 1 rfl) ?_
        refine va_get (D := D) (ci := 0) (v := .ref za) (C := nAS) (T := fAS) (N := 3) hx hb hts iwAS hown hK hP 0 rfl rfl 1 (by decide) (hts _ (List.mem_cons_of_mem _ lkAS_21)) (fun _ h9 => h9) rfl dAS_sizeOf_30 ?_
        refine lz_alen hx hb hK hP 2 0 rfl rfl dAS_sizeOf_33 ?_
        refine lz_icmp_ge (tgt := 46) hx hb dAS_sizeOf_34 (by decide) (by omega) (by omega) (fun c_34 => ?_) (fun c_34 => ?_)
        · exact absurd c_34 (by omega)
        · refine lv_aload_n hx hb dAS_sizeOf_37 rfl (lv_at hl 1 rfl) ?_
          refine va_get (D := D) (ci := 0) (v := .ref za) (C := nAS) (T := fAS) (N := 3) hx hb hts iwAS hown hK hP 0 rfl rfl 1 (by decide) (hts _ (List.mem_cons_of_mem _ lkAS_21)) (fun _ h9 => h9) rfl dAS_sizeOf_38 ?_
          refine lv_iload_n hx hb dAS_sizeOf_41 rfl (lv_at hl 0 rfl) ?_
          refine lz_iald hx hb hK hP 2 0 rfl rfl (z := so (k).toNat) (by omega) dAS_sizeOf_42 ?_
          refine lv_goto (tgt := 47) hx hb dAS_sizeOf_43 (by decide) ?_
          exact hret 47 ls (sz (so (k).toNat).toNat) rfl dAS_sizeOf_47

def rmAS_join : Room := { frames := 0, cells := 0, slots := 0, locals := 0 }
set_option maxHeartbeats 4000000 in
set_option maxRecDepth 100000 in
theorem mAS_join (l : Launch) (D : va_G) (cI cG : ClassId) (t sa za n : Nat) (so : Nat → Int) (ct : Int) (a b : Nat) (hr : inN n so) (hn : n ≤ 192) (ha : a < n) (hb9 : b < n) : zV l yAS_join wAS_join rmAS_join D vwCl (zT cI cG) [.ref t, .int (iI (a : Int)), .int (iI (b : Int))] [(t, .inr (0, [.ref sa, .ref za, .int (iI ct)])), (sa, .inl (cI, n, .inl (zf so)))] (S := ((Nat → Int) × Int)) (fun u => (so a = so b ∧ u.1 = so ∧ u.2 = ct) ∨ (so a ≠ so b ∧ (∀ i, i < n → u.1 i = jn so a b i) ∧ u.2 = ct - 1)) (fun u => [(t, .inr (0, [.ref sa, .ref za, .int (iI u.2)])), (sa, .inl (cI, n, .inl (zf u.1)))]) := by
  refine zV.of (cc := cAS_join) (maxL := 6) (by decide) rfl (Nat.le_of_ble_eq_true rfl) ?_
  intro p e s m args below meth c A ls Q hx hb hml hown hts hnm hK hD hA hAe hX hl hret H locs hP hS
  have hl : lv_has ls 6 [(0, .ref t), (1, .int (iI (a : Int))), (2, .int (iI (b : Int)))] := hl
  have hra := hr a ha
  have hrb := hr b hb9
  refine lv_iload_n hx hb dAS_join_0 rfl (lv_at hl 1 rfl) ?_
  refine lz_if_lt (tgt := 41) hx hb dAS_join_1 (by decide) (by omega) (fun c_1 => ?_) (fun c_1 => ?_)
  · exact absurd c_1 (by omega)
  · refine lv_iload_n hx hb dAS_join_4 rfl (lv_at hl 1 rfl) ?_
    refine lv_aload_n hx hb dAS_join_5 rfl (lv_at hl 0 rfl) ?_
    refine va_get (D := D) (ci := 0) (v := .ref sa) (C := nAS) (T := fAS) (N := 3) hx hb hts iwAS hown hK hP 0 rfl rfl 0 (by decide) (hts _ (List.mem_cons_of_mem _ lkAS_15)) (fun _ h9 => h9) rfl dAS_join_6 ?_
    refine lz_alen hx hb hK hP 1 0 rfl rfl dAS_join_9 ?_
    refine lz_icmp_ge (tgt := 41) hx hb dAS_join_10 (by decide) (by omega) (by omega) (fun c_10 => ?_) (fun c_10 => ?_)
    · exact absurd c_10 (by omega)
    · refine lv_iload_n hx hb dAS_join_13 rfl (lv_at hl 2 rfl) ?_
      refine lz_if_lt (tgt := 41) hx hb dAS_join_14 (by decide) (by omega) (fun c_14 => ?_) (fun c_14 => ?_)
      · exact absurd c_14 (by omega)
      · refine lv_iload_n hx hb dAS_join_17 rfl (lv_at hl 2 rfl) ?_
        refine lv_aload_n hx hb dAS_join_18 rfl (lv_at hl 0 rfl) ?_
        refine va_get (D := D) (ci := 0) (v := .ref sa) (C := nAS) (T := fAS) (N := 3) hx hb hts iwAS hown hK hP 0 rfl rfl 0 (by decide) (hts _ (List.mem_cons_of_mem _ lkAS_15)) (fun _ h9 => h9) rfl dAS_join_19 ?_
        refine lz_alen hx hb hK hP 1 0 rfl rfl dAS_join_22 ?_
        refine lz_icmp_ge (tgt := 41) hx hb dAS_join_23 (by decide) (by omega) (by omega) (fun c_23 => ?_) (fun c_23 => ?_)
        · exact absurd c_23 (by omega)
        · refine lv_aload_n hx hb dAS_join_26 rfl (lv_at hl 0 rfl) ?_
          refine va_get (D := D) (ci := 0) (v := .ref sa) (C := nAS) (T := fAS) (N := 3) hx hb hts iwAS hown hK hP 0 rfl rfl 0 (by decide) (hts _ (List.mem_cons_of_mem _ lkAS_15)) (fun _ h9 => h9) rfl dAS_join_27 ?_
          refine lv_iload_n hx hb dAS_join_30 rfl (lv_at hl 1 rfl) ?_
          refine lz_ialk hx hb hK hP 1 0 rfl rfl (z := (a : Int)) a rfl (by omega) dAS_join_31 ?_
          refine lv_aload_n hx hb dAS_join_32 rfl (lv_at hl 0 rfl) ?_
          refine va_get (D := D) (ci := 0) (v := .ref sa) (C := nAS) (T := fAS) (N := 3) hx hb hts iwAS hown hK hP 0 rfl rfl 0 (by decide) (hts _ (List.mem_cons_of_mem _ lkAS_15)) (fun _ h9 => h9) rfl dAS_join_33 ?_
          refine lv_iload_n hx hb dAS_join_36 rfl (lv_at hl 2 rfl) ?_
          refine lz_ialk hx hb hK hP 1 0 rfl rfl (z := (b : Int)) b rfl (by omega) dAS_join_37 ?_
          refine lz_icmp_ne (tgt := 42) hx hb dAS_join_38 (by decide) (by omega) (by omega) (fun c_38 => ?_) (fun c_38 => ?_)
          · refine lv_aload_n hx hb dAS_join_42 rfl (lv_at hl 0 rfl) ?_
            refine va_get (D := D) (ci := 0) (v := .ref sa) (C := nAS) (T := fAS) (N := 3) hx hb hts iwAS hown hK hP 0 rfl rfl 0 (by decide) (hts _ (List.mem_cons_of_mem _ lkAS_15)) (fun _ h9 => h9) rfl dAS_join_43 ?_
            refine lv_iload_n hx hb dAS_join_46 rfl (lv_at hl 1 rfl) ?_
            refine lz_ialk hx hb hK hP 1 0 rfl rfl (z := (a : Int)) a rfl (by omega) dAS_join_47 ?_
            refine lv_istore_n (lv' := [(3, .int (iI (so a))), (0, .ref t), (1, .int (iI (a : Int))), (2, .int (iI (b : Int)))]) hx hb dAS_join_48 rfl hl (by decide) rfl (fun ls hl => ?_)
            refine lv_aload_n hx hb dAS_join_49 rfl (lv_at hl 1 rfl) ?_
            refine va_get (D := D) (ci := 0) (v := .ref sa) (C := nAS) (T := fAS) (N := 3) hx hb hts iwAS hown hK hP 0 rfl rfl 0 (by decide) (hts _ (List.mem_cons_of_mem _ lkAS_15)) (fun _ h9 => h9) rfl dAS_join_50 ?_
            refine lv_iload_n hx hb dAS_join_53 rfl (lv_at hl 3 rfl) ?_
            refine lz_ialk hx hb hK hP 1 0 rfl rfl (z := (b : Int)) b rfl (by omega) dAS_join_54 ?_
            refine lv_istore (lv' := [(4, .int (iI (so b))), (3, .int (iI (so a))), (0, .ref t), (1, .int (iI (a : Int))), (2, .int (iI (b : Int)))]) hx hb dAS_join_55 hl (by decide) rfl (fun ls hl => ?_)
            refine lv_iconst (v := iI (0)) hx hb dAS_join_57 rfl ?_
            refine lv_istore (lv' := [(5, .int (iI 0)), (4, .int (iI (so b))), (3, .int (iI (so a))), (0, .ref t), (1, .int (iI (a : Int))), (2, .int (iI (b : Int)))]) hx hb dAS_join_58 hl (by decide) rfl (fun ls hl => ?_)
            have lp60 : ∀ (n9 : Nat) (i : Nat) (s1 : Nat → Int), (i ≤ n) → (∀ j, j < i → s1 j = jn so a b j) → (∀ j, i ≤ j → j < n → s1 j = so j) → (n - i) < n9 → ∀ (H : Heap) (locs : List Loc), va_P D vwCl [(t, .inr (0, [.ref sa, .ref za, .int (iI ct)])), (sa, .inl (cI, n, .inl (zf s1)))] H → va_D A [(t, .inr (0, [.ref sa, .ref za, .int (iI ct)])), (sa, .inl (cI, n, .inl (zf s1)))] → va_S A s.heap H locs → ∀ (ls : Array Slot), lv_has ls 6 [(0, .ref t), (3, .int (iI (so a))), (4, .int (iI (so b))), (5, .int (iI (i : Int)))] → W p l e (headSpec wAS_join rmAS_join).room s m args below meth c H locs 0 0 Q (F0 m 60 ls []) := by
              intro n9
              induction n9 with
              | zero => intro i s1 hi hI hI2 hm; exact absurd hm (Nat.not_lt_zero _)
              | succ n9 ih60 =>
                intro i s1 hi hI hI2 hm60 H locs hP hD hS ls hl
                refine lv_iload hx hb dAS_join_60 (lv_at hl 3 rfl) ?_
                refine lv_aload_n hx hb dAS_join_62 rfl (lv_at hl 0 rfl) ?_
                refine va_get (D := D) (ci := 0) (v := .ref sa) (C := nAS) (T := fAS) (N := 3) hx hb hts iwAS hown hK hP 0 rfl rfl 0 (by decide) (hts _ (List.mem_cons_of_mem _ lkAS_15)) (fun _ h9 => h9) rfl dAS_join_63 ?_
                refine lz_alen hx hb hK hP 1 0 rfl rfl dAS_join_66 ?_
                refine lz_icmp_ge (tgt := 96) hx hb dAS_join_67 (by decide) (by omega) (by omega) (fun c_67 => ?_) (fun c_67 => ?_)
                · refine lv_aload_n hx hb dAS_join_96 rfl (lv_at hl 0 rfl) ?_
                  refine lv_dup hx hb dAS_join_97 rfl ?_
                  refine va_get (D := D) (ci := 0) (v := .int (iI ct)) (C := nAS) (T := fAS) (N := 3) hx hb hts iwAS hown hK hP 0 rfl rfl 2 (by decide) (hts _ (List.mem_cons_of_mem _ lkAS_24)) (fun _ h9 => h9) rfl dAS_join_98 ?_
                  refine lv_iconst (v := iI (1)) hx hb dAS_join_101 rfl ?_
                  refine lz_isub hx hb dAS_join_102 ?_
                  refine va_put (D := D) (ci := 0) (v := .int (iI (ct - 1))) (ty := .int) (C := nAS) (T := fAS) (N := 3) hx hb hts iwAS tAS tkAS nmAS hown hK hP hD hS 0 rfl rfl 2 (by decide) (hts _ (List.mem_cons_of_mem _ lkAS_24)) (fun _ h9 => h9) rfl (by decide +kernel) rfl rfl (Nat.le_of_ble_eq_true rfl) dAS_join_103 (fun H locs hP hD hS => ?_)
                  have hP : va_P D vwCl [(t, .inr (0, [.ref sa, .ref za, .int (iI (ct - 1))])), (sa, .inl (cI, n, .inl (zf s1)))] H := hP
                  have hD : va_D A [(t, .inr (0, [.ref sa, .ref za, .int (iI (ct - 1))])), (sa, .inl (cI, n, .inl (zf s1)))] := hD
                  exact hret H locs 0 0 106 ls (s1, ct - 1) (Or.inr ⟨c_38, fun j hj => hI j (by omega), rfl⟩) (hP.sub [0, 1] rfl) (hD.sub [0, 1] (by decide) rfl) hS (Nat.zero_le _) (Nat.zero_le _) dAS_join_106
                · refine lv_aload_n hx hb dAS_join_70 rfl (lv_at hl 0 rfl) ?_
                  refine va_get (D := D) (ci := 0) (v := .ref sa) (C := nAS) (T := fAS) (N := 3) hx hb hts iwAS hown hK hP 0 rfl rfl 0 (by decide) (hts _ (List.mem_cons_of_mem _ lkAS_15)) (fun _ h9 => h9) rfl dAS_join_71 ?_
                  refine lv_iload hx hb dAS_join_74 (lv_at hl 3 rfl) ?_
                  refine lz_ialk hx hb hK hP 1 0 rfl rfl (z := (i : Int)) i rfl (by omega) dAS_join_76 ?_
                  refine lv_iload hx hb dAS_join_77 (lv_at hl 2 rfl) ?_
                  refine lz_icmp_ne (tgt := 90) hx hb dAS_join_79 (by decide) (by rw [hI2 i (Nat.le_refl _) (by omega)]; have := hr i (by omega); omega) (by omega) (fun c_79 => ?_) (fun c_79 => ?_)
                  · refine lz_iinc (lv' := [(5, .int (iI ((i : Int) + 1))), (0, .ref t), (3, .int (iI (so a))), (4, .int (iI (so b)))]) hx hb dAS_join_90 hl (k := 3) rfl (by decide) rfl (fun ls hl => ?_)
                    refine lv_goto (tgt := 60) hx hb dAS_join_93 (by decide) ?_
                    exact ih60 (i + 1) s1 (by omega) (fun j hj => by
                        rcases Nat.lt_or_ge j i with q | q
                        · exact hI j q
                        · obtain rfl : j = i := by omega
                          have c78 := c_79
                          rw [hI2 j (Nat.le_refl _) (by omega)] at c78
                          rw [hI2 j (Nat.le_refl _) (by omega)]; unfold jn; rw [if_neg c78]) (fun j h1 h2 => hI2 j (by omega) h2) (by omega) _ _ (hP.sub [0, 1] rfl) (hD.sub [0, 1] (by decide) rfl) hS _ (lv_sub hl [1, 2, 3, 0] rfl)
                  · refine lv_aload_n hx hb dAS_join_82 rfl (lv_at hl 0 rfl) ?_
                    refine va_get (D := D) (ci := 0) (v := .ref sa) (C := nAS) (T := fAS) (N := 3) hx hb hts iwAS hown hK hP 0 rfl rfl 0 (by decide) (hts _ (List.mem_cons_of_mem _ lkAS_15)) (fun _ h9 => h9) rfl dAS_join_83 ?_
                    refine lv_iload hx hb dAS_join_86 (lv_at hl 3 rfl) ?_
                    refine lv_iload_n hx hb dAS_join_88 rfl (lv_at hl 1 rfl) ?_
                    refine lz_iask hx hb hK hP hD hS 1 0 rfl rfl (z := (i : Int)) (v := so a) i rfl (by omega) dAS_join_89 (fun H locs hP hD hS => ?_)
                    have hP : va_P D vwCl [(t, .inr (0, [.ref sa, .ref za, .int (iI ct)])), (sa, .inl (cI, n, .inl (zf (zu s1 i (so a)))))] H := hP
                    have hD : va_D A [(t, .inr (0, [.ref sa, .ref za, .int (iI ct)])), (sa, .inl (cI, n, .inl (zf (zu s1 i (so a)))))] := hD
                    refine lz_iinc (lv' := [(5, .int (iI ((i : Int) + 1))), (0, .ref t), (3, .int (iI (so a))), (4, .int (iI (so b)))]) hx hb dAS_join_90 hl (k := 3) rfl (by decide) rfl (fun ls hl => ?_)
                    refine lv_goto (tgt := 60) hx hb dAS_join_93 (by decide) ?_
                    exact ih60 (i + 1) (zu s1 i (so a)) (by omega) (fun j hj => by
                        rcases Nat.lt_or_ge j i with q | q
                        · rw [zu_n _ _ (by omega)]; exact hI j q
                        · obtain rfl : j = i := by omega
                          have c78 := c_79
                          rw [hI2 j (Nat.le_refl _) (by omega)] at c78
                          rw [zu_s]; unfold jn; rw [if_pos c78]) (fun j h1 h2 => by rw [zu_n _ _ (by omega)]; exact hI2 j (by omega) h2) (by omega) _ _ (hP.sub [0, 1] rfl) (hD.sub [0, 1] (by decide) rfl) hS _ (lv_sub hl [1, 2, 3, 0] rfl)
            exact lp60 _ 0 so (Nat.zero_le _) (fun j hj => absurd hj (Nat.not_lt_zero _)) (fun j _ _ => rfl) (Nat.lt_succ_self _) _ _ (hP.sub [0, 1] rfl) (hD.sub [0, 1] (by decide) rfl) hS _ (lv_sub hl [3, 2, 1, 0] rfl)
          · exact hret H locs 0 0 41 ls (so, ct) (Or.inl ⟨c_38, rfl, rfl⟩) (hP.sub [0, 1] rfl) (hD.sub [0, 1] (by decide) rfl) hS (Nat.zero_le _) (Nat.zero_le _) dAS_join_41

def rmAS_joinBy : Room := { frames := 2, cells := 0, slots := 0, locals := 54 }
set_option maxHeartbeats 4000000 in
set_option maxRecDepth 100000 in
theorem mAS_joinBy (l : Launch) (D : va_G) (cI cG : ClassId) (t sa za : Nat) (so : Nat → Int) (ct : Int) (r a n : Nat) (f : Nat → Int) (ks : List Int) (b lf rt : Nat) (gl gr : Nat → Int) (bf : Nat) (fb : Nat → Int) (c9 : Int) (h : rowOK n f ks) (hn : ks.length ≤ 192) (hG : isG ks) (hc9 : c9 ∈ ks) (hA9 : ASt ks so ct) : zV l yAS_joinBy wAS_joinBy rmAS_joinBy D vwCl (zT cI cG) [.ref t, .int (iI c9), .ref r, .ref b, .ref bf] [(t, .inr (0, [.ref sa, .ref za, .int (iI ct)])), (sa, .inl (cI, ks.length, .inl (zf so))), (r, .inr (5, [.ref a, .int (iI (ks.length : Int))])), (a, .inl (cI, n, .inl (zf f))), (b, .inr (1, [.ref lf, .ref rt])), (lf, .inl (cI, 9, .inl (zf gl))), (rt, .inl (cI, 9, .inl (zf gr))), (bf, .inl (cI, ks.length, .inl (zf fb)))] (S := ((Nat → Int) × Int × (Nat → Int) × (Nat → Int) × (Nat → Int))) (fun u => ASt ks u.1 u.2.1 ∧ (∀ i j, i < ks.length → j < ks.length → so i = so j → u.1 i = u.1 j) ∧ ∀ a b, a < ks.length → b < ks.length → timesK c9 (ks.getD a (-1)) = timesK (ks.getD b (-1)) c9 → u.1 a = u.1 b) (fun u => [(t, .inr (0, [.ref sa, .ref za, .int (iI u.2.1)])), (sa, .inl (cI, ks.length, .inl (zf u.1))), (r, .inr (5, [.ref a, .int (iI (ks.length : Int))])), (a, .inl (cI, n, .inl (zf f))), (b, .inr (1, [.ref lf, .ref rt])), (lf, .inl (cI, 9, .inl (zf u.2.2.1))), (rt, .inl (cI, 9, .inl (zf u.2.2.2.1))), (bf, .inl (cI, ks.length, .inl (zf u.2.2.2.2)))]) := by
  refine zV.of (cc := cAS_joinBy) (maxL := 7) (by decide) rfl (Nat.le_of_ble_eq_true rfl) ?_
  intro p e s m args below meth c A ls Q hx hb hml hown hts hnm hK hD hA hAe hX hl hret H locs hP hS
  have hl : lv_has ls 7 [(0, .ref t), (1, .int (iI c9)), (2, .ref r), (3, .ref b), (4, .ref bf)] := hl
  have hb1 := h.1
  have hb2 := h.2.1
  have hck := (hG.2.2.1 c9 hc9).1
  have hkk : ∀ j, j < ks.length → kOK (ks.getD j (-1)) := fun j hj => (hG.2.2.1 _ (getD_mem hj)).1
  have hnd := nodup_lt h.2.2.2.1
  refine lv_iconst (v := iI (0)) hx hb dAS_joinBy_0 rfl ?_
  refine lv_istore (lv' := [(5, .int (iI 0)), (0, .ref t), (1, .int (iI c9)), (2, .ref r), (3, .ref b), (4, .ref bf)]) hx hb dAS_joinBy_1 hl (by decide) rfl (fun ls hl => ?_)
  have lp3 : ∀ (n9 : Nat) (i : Nat) (gl1 gr1 fb1 : Nat → Int), (i ≤ ks.length) → (∀ j, j < i → ∀ k, k < ks.length → timesK (ks.getD j (-1)) c9 = ks.getD k (-1) → fb1 k = (j : Int)) → (ks.length - i) < n9 → ∀ (H : Heap) (locs : List Loc), va_P D vwCl [(t, .inr (0, [.ref sa, .ref za, .int (iI ct)])), (sa, .inl (cI, ks.length, .inl (zf so))), (r, .inr (5, [.ref a, .int (iI (ks.length : Int))])), (a, .inl (cI, n, .inl (zf f))), (b, .inr (1, [.ref lf, .ref rt])), (lf, .inl (cI, 9, .inl (zf gl1))), (rt, .inl (cI, 9, .inl (zf gr1))), (bf, .inl (cI, ks.length, .inl (zf fb1)))] H → va_D A [(t, .inr (0, [.ref sa, .ref za, .int (iI ct)])), (sa, .inl (cI, ks.length, .inl (zf so))), (r, .inr (5, [.ref a, .int (iI (ks.length : Int))])), (a, .inl (cI, n, .inl (zf f))), (b, .inr (1, [.ref lf, .ref rt])), (lf, .inl (cI, 9, .inl (zf gl1))), (rt, .inl (cI, 9, .inl (zf gr1))), (bf, .inl (cI, ks.length, .inl (zf fb1)))] → va_S A s.heap H locs → ∀ (ls : Array Slot), lv_has ls 7 [(0, .ref t), (1, .int (iI c9)), (2, .ref r), (3, .ref b), (4, .ref bf), (5, .int (iI (i : Int)))] → W p l e (headSpec wAS_joinBy rmAS_joinBy).room s m args below meth c H locs 0 0 Q (F0 m 3 ls []) := by
    intro n9
    induction n9 with
    | zero => intro i gl1 gr1 fb1 hi hI hm; exact absurd hm (Nat.not_lt_zero _)
    | succ n9 ih3 =>
      intro i gl1 gr1 fb1 hi hI hm3 H locs hP hD hS ls hl
      refine lv_iload hx hb dAS_joinBy_3 (lv_at hl 5 rfl) ?_
      refine lv_aload hx hb dAS_joinBy_5 (lv_at hl 4 rfl) ?_
      refine lz_alen hx hb hK hP 7 0 rfl rfl dAS_joinBy_7 ?_
      refine lz_icmp_ge (tgt := 54) hx hb dAS_joinBy_8 (by decide) (by omega) (by omega) (fun c_8 => ?_) (fun c_8 => ?_)
      · have hin : i = ks.length := by omega
        have hbf : ∀ j, j < ks.length → ∀ k, k < ks.length → timesK (ks.getD j (-1)) c9 = ks.getD k (-1) → fb1 k = (j : Int) := fun j hj => hI j (by omega)
        clear hI hin
        refine lv_iconst (v := iI (0)) hx hb dAS_joinBy_54 rfl ?_
        refine lv_istore (lv' := [(5, .int (iI 0)), (0, .ref t), (1, .int (iI c9)), (2, .ref r), (3, .ref b), (4, .ref bf)]) hx hb dAS_joinBy_55 hl (by decide) rfl (fun ls hl => ?_)
        have lp57 : ∀ (n9 : Nat) (i : Nat) (s1 : Nat → Int) (ct1 : Int) (gl2 gr2 : Nat → Int), (i ≤ ks.length) → (ASt ks s1 ct1) → (∀ x y, x < ks.length → y < ks.length → so x = so y → s1 x = s1 y) → (∀ x, x < i → ∀ y, y < ks.length → timesK c9 (ks.getD x (-1)) = timesK (ks.getD y (-1)) c9 → s1 x = s1 y) → (ks.length - i) < n9 → ∀ (H : Heap) (locs : List Loc), va_P D vwCl [(t, .inr (0, [.ref sa, .ref za, .int (iI ct1)])), (sa, .inl (cI, ks.length, .inl (zf s1))), (r, .inr (5, [.ref a, .int (iI (ks.length : Int))])), (a, .inl (cI, n, .inl (zf f))), (b, .inr (1, [.ref lf, .ref rt])), (lf, .inl (cI, 9, .inl (zf gl2))), (rt, .inl (cI, 9, .inl (zf gr2))), (bf, .inl (cI, ks.length, .inl (zf fb1)))] H → va_D A [(t, .inr (0, [.ref sa, .ref za, .int (iI ct1)])), (sa, .inl (cI, ks.length, .inl (zf s1))), (r, .inr (5, [.ref a, .int (iI (ks.length : Int))])), (a, .inl (cI, n, .inl (zf f))), (b, .inr (1, [.ref lf, .ref rt])), (lf, .inl (cI, 9, .inl (zf gl2))), (rt, .inl (cI, 9, .inl (zf gr2))), (bf, .inl (cI, ks.length, .inl (zf fb1)))] → va_S A s.heap H locs → ∀ (ls : Array Slot), lv_has ls 7 [(0, .ref t), (1, .int (iI c9)), (2, .ref r), (3, .ref b), (4, .ref bf), (5, .int (iI (i : Int)))] → W p l e (headSpec wAS_joinBy rmAS_joinBy).room s m args below meth c H locs 0 0 Q (F0 m 57 ls []) := by
          intro n9
          induction n9 with
          | zero => intro i s1 ct1 gl2 gr2 hi2 hA3 hmo hJ hm; exact absurd hm (Nat.not_lt_zero _)
          | succ n9 ih57 =>
            intro i s1 ct1 gl2 gr2 hi2 hA3 hmo hJ hm57 H locs hP hD hS ls hl
            refine lv_iload hx hb dAS_joinBy_57 (lv_at hl 5 rfl) ?_
            refine lv_aload hx hb dAS_joinBy_59 (lv_at hl 4 rfl) ?_
            refine lz_alen hx hb hK hP 7 0 rfl rfl dAS_joinBy_61 ?_
            refine lz_icmp_ge (tgt := 112) hx hb dAS_joinBy_62 (by decide) (by omega) (by omega) (fun c_62 => ?_) (fun c_62 => ?_)
            · exact hret H locs 0 0 112 ls (s1, ct1, gl2, gr2, fb1) ⟨hA3, hmo, fun x y hx9 hy e => hJ x (by omega) y hy e⟩ (hP.sub [0, 1, 2, 3, 4, 5, 6, 7] rfl) (hD.sub [0, 1, 2, 3, 4, 5, 6, 7] (by decide) rfl) hS (Nat.zero_le _) (Nat.zero_le _) dAS_joinBy_112
            · refine lv_aload_n hx hb dAS_joinBy_65 rfl (lv_at hl 2 rfl) ?_
              refine lv_aload_n hx hb dAS_joinBy_66 rfl (lv_at hl 3 rfl) ?_
              refine lv_iload_n hx hb dAS_joinBy_67 rfl (lv_at hl 1 rfl) ?_
              refine lv_aload_n hx hb dAS_joinBy_68 rfl (lv_at hl 2 rfl) ?_
              refine lv_iload hx hb dAS_joinBy_69 (lv_at hl 5 rfl) ?_
              refine zRI.back ((va_runV (As := [.int (iI (i : Int))]) (rest := [.int (iI c9), .ref b, .ref r]) ⟨hx, hb, hml, hown, hts⟩ (mRO_at l D cI cG r a n f ks (i : Int) h (by omega)) (cwV 1 hts (gT1 lkAS_33 (gT1 imRO_at (gT1 seRO_at (gT1 iniRO (gTW kcRO_at))))) rfl rfl rfl (by decide +kernel) ⟨Nat.le_of_ble_eq_true rfl, Nat.le_of_ble_eq_true rfl⟩) ⟨zRd_blind, va_recv hK hP (ci := 5) (q0 := 2) rfl rfl, zRd.at (wc := [(r, .inr (5, [.ref a, .int (iI (ks.length : Int))])), (a, .inl (cI, n, .inl (zf f)))]) hK (hP.sub (ws' := [(r, .inr (5, [.ref a, .int (iI (ks.length : Int))])), (a, .inl (cI, n, .inl (zf f)))]) [2, 3] rfl) (stF.now hX hS)⟩ rfl rfl hl.1 rfl (lv_room (Nat.le_of_ble_eq_true rfl)) dAS_joinBy_71 ⟨Nat.le_of_ble_eq_true rfl, Nat.le_of_ble_eq_true rfl⟩).run) (fun z_71 q_71 => ?_)
              obtain rfl : z_71 = ks.getD i (-1) := by have q9 : z_71 = lat ks (i : Int) := q_71; rw [q9]; exact (lat_in (by omega) (by omega)).1
              refine zI.back (va_runV (As := [.int (iI c9), .int (iI (ks.getD i (-1)))]) (rest := [.ref r]) ⟨hx, hb, hml, hown, hts⟩ ((mBE_times l D cI cG b lf rt gl2 gr2 c9 (ks.getD i (-1)) hck (hkk i (by omega))) H.size) (cwV 2 hts (gT1 lkAS_51 (gT1 imBE_times (gT1 seBE_times (gT1 iniBE (gTW kcBE_times))))) rfl rfl rfl (by decide +kernel) ⟨Nat.le_of_ble_eq_true rfl, Nat.le_of_ble_eq_true rfl⟩) ⟨zPre_blind, va_recv hK hP (ci := 1) (q0 := 4) rfl rfl, zPre.at (wc := [(b, .inr (1, [.ref lf, .ref rt])), (lf, .inl (cI, 9, .inl (zf gl2))), (rt, .inl (cI, 9, .inl (zf gr2)))]) hK hP hD hS hA hX [4, 5, 6] (by decide) rfl⟩ rfl rfl hl.1 rfl (lv_room (Nat.le_of_ble_eq_true rfl)) dAS_joinBy_74 ⟨Nat.le_of_ble_eq_true rfl, Nat.le_of_ble_eq_true rfl⟩) (wr := [(t, .inr (0, [.ref sa, .ref za, .int (iI ct1)])), (sa, .inl (cI, ks.length, .inl (zf s1))), (r, .inr (5, [.ref a, .int (iI (ks.length : Int))])), (a, .inl (cI, n, .inl (zf f))), (bf, .inl (cI, ks.length, .inl (zf fb1)))]) hP hD hS hA [4, 5, 6] [0, 1, 2, 3, 7] rfl rfl (by decide) (by decide) (fun z_74 u_74 H locs q_74 hP hD hS hz_74 hk_74 => ?_)
              obtain rfl : z_74 = timesK c9 (ks.getD i (-1)) := q_74
              have hP : va_P D vwCl [(t, .inr (0, [.ref sa, .ref za, .int (iI ct1)])), (sa, .inl (cI, ks.length, .inl (zf s1))), (r, .inr (5, [.ref a, .int (iI (ks.length : Int))])), (a, .inl (cI, n, .inl (zf f))), (bf, .inl (cI, ks.length, .inl (zf fb1))), (b, .inr (1, [.ref lf, .ref rt])), (lf, .inl (cI, 9, .inl (zf (rd c9 gl2)))), (rt, .inl (cI, 9, .inl (zf (rd (ks.getD i (-1)) gr2))))] H := hP
              have hD : va_D A [(t, .inr (0, [.ref sa, .ref za, .int (iI ct1)])), (sa, .inl (cI, ks.length, .inl (zf s1))), (r, .inr (5, [.ref a, .int (iI (ks.length : Int))])), (a, .inl (cI, n, .inl (zf f))), (bf, .inl (cI, ks.length, .inl (zf fb1))), (b, .inr (1, [.ref lf, .ref rt])), (lf, .inl (cI, 9, .inl (zf (rd c9 gl2)))), (rt, .inl (cI, 9, .inl (zf (rd (ks.getD i (-1)) gr2))))] := hD
              refine zRI.back ((va_runV (As := [.int (iI (timesK c9 (ks.getD i (-1))))]) (rest := []) ⟨hx, hb, hml, hown, hts⟩ (mRO_indexOf l D cI cG r a n f ks (timesK c9 (ks.getD i (-1))) h (by have := times_bd c9 (ks.getD i (-1)); omega)) (cwV 1 hts (gT1 lkAS_57 (gT1 imRO_indexOf (gT1 seRO_indexOf (gT1 iniRO (gTW kcRO_indexOf))))) rfl rfl rfl (by decide +kernel) ⟨Nat.le_of_ble_eq_true rfl, Nat.le_of_ble_eq_true rfl⟩) ⟨zRd_blind, va_recv hK hP (ci := 5) (q0 := 2) rfl rfl, zRd.at (wc := [(r, .inr (5, [.ref a, .int (iI (ks.length : Int))])), (a, .inl (cI, n, .inl (zf f)))]) hK (hP.sub (ws' := [(r, .inr (5, [.ref a, .int (iI (ks.length : Int))])), (a, .inl (cI, n, .inl (zf f)))]) [2, 3] rfl) (stF.now hX hS)⟩ rfl rfl hl.1 rfl (lv_room (Nat.le_of_ble_eq_true rfl)) dAS_joinBy_77 ⟨Nat.le_of_ble_eq_true rfl, Nat.le_of_ble_eq_true rfl⟩).run) (fun z_77 q_77 => ?_)
              have q_77 : lix ks (timesK c9 (ks.getD i (-1))) z_77 := q_77
              obtain ⟨k9, hk9, ek9, rfl⟩ : ∃ k9 : Nat, k9 < ks.length ∧ ks.getD k9 (-1) = timesK c9 (ks.getD i (-1)) ∧ z_77 = (k9 : Int) := by
                rcases q_77 with ⟨_, q1, q2, q3⟩ | ⟨q, _⟩
                · exact ⟨z_77.toNat, by omega, q3, by omega⟩
                · exact absurd (hG.2.2.2 _ hc9 _ (getD_mem (by omega))) q
              refine lv_istore (lv' := [(6, .int (iI (k9 : Int))), (0, .ref t), (1, .int (iI c9)), (2, .ref r), (3, .ref b), (4, .ref bf), (5, .int (iI (i : Int)))]) hx hb dAS_joinBy_80 hl (by decide) rfl (fun ls hl => ?_)
              refine lv_iload hx hb dAS_joinBy_82 (lv_at hl 0 rfl) ?_
              refine lz_if_lt (tgt := 106) hx hb dAS_joinBy_84 (by decide) (by omega) (fun c_84 => ?_) (fun c_84 => ?_)
              · exact absurd c_84 (by omega)
              · refine lv_iload hx hb dAS_joinBy_87 (lv_at hl 0 rfl) ?_
                refine lv_aload hx hb dAS_joinBy_89 (lv_at hl 5 rfl) ?_
                refine lz_alen hx hb hK hP 4 0 rfl rfl dAS_joinBy_91 ?_
                refine lz_icmp_ge (tgt := 106) hx hb dAS_joinBy_92 (by decide) (by omega) (by omega) (fun c_92 => ?_) (fun c_92 => ?_)
                · exact absurd c_92 (by omega)
                · refine lv_aload_n hx hb dAS_joinBy_95 rfl (lv_at hl 1 rfl) ?_
                  refine lv_iload hx hb dAS_joinBy_96 (lv_at hl 6 rfl) ?_
                  refine lv_aload hx hb dAS_joinBy_98 (lv_at hl 5 rfl) ?_
                  refine lv_iload hx hb dAS_joinBy_100 (lv_at hl 0 rfl) ?_
                  obtain ⟨b9, hb9, eb0⟩ : ∃ b9, b9 < ks.length ∧ timesK (ks.getD b9 (-1)) c9 = ks.getD k9 (-1) := by
                    obtain ⟨d, hd, e1, e2⟩ := hG.inv hc9
                    obtain ⟨b9, hb9, eb⟩ := mem_getD (hG.2.2.2 _ (getD_mem hk9) _ hd)
                    exact ⟨b9, hb9, by rw [eb, hG.assoc (getD_mem hk9) hd hc9, e2, hG.ur (getD_mem hk9)]⟩
                  have eb9 : timesK (ks.getD b9 (-1)) c9 = ks.getD k9 (-1) := eb0
                  have hfb := hbf b9 hb9 k9 hk9 eb0
                  refine lz_ialk hx hb hK hP 4 0 rfl rfl (z := (k9 : Int)) k9 rfl (by omega) dAS_joinBy_102 ?_
                  refine lz_as (x := fb1 k9) (y := (b9 : Int)) (hfb) ?_
                  refine zV.back (va_runV (As := [.int (iI (i : Int)), .int (iI (b9 : Int))]) (rest := []) ⟨hx, hb, hml, hown, hts⟩ ((mAS_join l D cI cG t sa za ks.length s1 ct1 i b9 hA3.1 hn (by omega) hb9) H.size) (cwV 2 hts (gT1 lkAS_60 (gT1 imAS_join (gT1 seAS_join (gT1 iniAS (gTW kcAS_join))))) rfl rfl rfl (by decide +kernel) ⟨Nat.le_of_ble_eq_true rfl, Nat.le_of_ble_eq_true rfl⟩) ⟨zPre_blind, va_recv hK hP (ci := 0) (q0 := 0) rfl rfl, zPre.at (wc := [(t, .inr (0, [.ref sa, .ref za, .int (iI ct1)])), (sa, .inl (cI, ks.length, .inl (zf s1)))]) hK hP hD hS hA hX [0, 1] (by decide) rfl⟩ rfl rfl hl.1 rfl (lv_room (Nat.le_of_ble_eq_true rfl)) dAS_joinBy_103 ⟨Nat.le_of_ble_eq_true rfl, Nat.le_of_ble_eq_true rfl⟩) (wr := [(r, .inr (5, [.ref a, .int (iI (ks.length : Int))])), (a, .inl (cI, n, .inl (zf f))), (bf, .inl (cI, ks.length, .inl (zf fb1))), (b, .inr (1, [.ref lf, .ref rt])), (lf, .inl (cI, 9, .inl (zf (rd c9 gl2)))), (rt, .inl (cI, 9, .inl (zf (rd (ks.getD i (-1)) gr2))))]) hP hD hS hA [0, 1] [2, 3, 4, 5, 6, 7] rfl rfl (by decide) (by decide) (fun u_103 H locs q_103 hP hD hS hz_103 hk_103 => ?_)
                  have hal : alk ks i b9 := ⟨c9, hc9, ek9.symm.trans eb9.symm⟩
                  have hres : ASt ks u_103.1 u_103.2 ∧ (∀ x y, x < ks.length → y < ks.length → s1 x = s1 y → u_103.1 x = u_103.1 y) ∧ u_103.1 i = u_103.1 b9 := by
                    rcases q_103 with ⟨q1, q2, q3⟩ | ⟨q1, q2, q3⟩
                    · rw [q2, q3]; exact ⟨hA3, fun x y _ _ e => e, q1⟩
                    · rw [q3]; exact ⟨hA3.join hG (by omega) hb9 hal q1 q2, fun x y hx9 hy e => jn_mono q2 hx9 hy e, jn_eq q2 (by omega) hb9⟩
                  obtain ⟨hA4, hmn, hjq⟩ := hres
                  have hP : va_P D vwCl [(r, .inr (5, [.ref a, .int (iI (ks.length : Int))])), (a, .inl (cI, n, .inl (zf f))), (bf, .inl (cI, ks.length, .inl (zf fb1))), (b, .inr (1, [.ref lf, .ref rt])), (lf, .inl (cI, 9, .inl (zf (rd c9 gl2)))), (rt, .inl (cI, 9, .inl (zf (rd (ks.getD i (-1)) gr2)))), (t, .inr (0, [.ref sa, .ref za, .int (iI u_103.2)])), (sa, .inl (cI, ks.length, .inl (zf u_103.1)))] H := hP
                  have hD : va_D A [(r, .inr (5, [.ref a, .int (iI (ks.length : Int))])), (a, .inl (cI, n, .inl (zf f))), (bf, .inl (cI, ks.length, .inl (zf fb1))), (b, .inr (1, [.ref lf, .ref rt])), (lf, .inl (cI, 9, .inl (zf (rd c9 gl2)))), (rt, .inl (cI, 9, .inl (zf (rd (ks.getD i (-1)) gr2)))), (t, .inr (0, [.ref sa, .ref za, .int (iI u_103.2)])), (sa, .inl (cI, ks.length, .inl (zf u_103.1)))] := hD
                  refine lz_iinc (lv' := [(5, .int (iI ((i : Int) + 1))), (6, .int (iI (k9 : Int))), (0, .ref t), (1, .int (iI c9)), (2, .ref r), (3, .ref b), (4, .ref bf)]) hx hb dAS_joinBy_106 hl (k := 6) rfl (by decide) rfl (fun ls hl => ?_)
                  refine lv_goto (tgt := 57) hx hb dAS_joinBy_109 (by decide) ?_
                  exact ih57 (i + 1) u_103.1 u_103.2 (rd c9 gl2) (rd (ks.getD i (-1)) gr2) (by omega) hA4 (fun x y hx9 hy e => hmn x y hx9 hy (hmo x y hx9 hy e)) (fun x hx9 y hy e => by
                      rcases Nat.lt_or_ge x i with q | q
                      · exact hmn x y (by omega) hy (hJ x q y hy e)
                      · obtain rfl : x = i := by omega
                        have : y = b9 := getD_nd hnd hy hb9 (hG.rc hc9 (getD_mem hy) (getD_mem hb9) (e.symm.trans (ek9.symm.trans eb9.symm)))
                        rw [this]; exact hjq) (by omega) _ _ (hP.sub [6, 7, 0, 1, 3, 4, 5, 2] rfl) (hD.sub [6, 7, 0, 1, 3, 4, 5, 2] (by decide) rfl) hS _ (lv_sub hl [2, 3, 4, 5, 6, 0] rfl)
        exact lp57 _ 0 so ct gl1 gr1 (Nat.zero_le _) hA9 (fun x y _ _ e => e) (fun x hx9 => absurd hx9 (Nat.not_lt_zero _)) (Nat.lt_succ_self _) _ _ (hP.sub [0, 1, 2, 3, 4, 5, 6, 7] rfl) (hD.sub [0, 1, 2, 3, 4, 5, 6, 7] (by decide) rfl) hS _ (lv_sub hl [1, 2, 3, 4, 5, 0] rfl)
      · refine lv_aload_n hx hb dAS_joinBy_11 rfl (lv_at hl 2 rfl) ?_
        refine lv_aload_n hx hb dAS_joinBy_12 rfl (lv_at hl 3 rfl) ?_
        refine lv_aload_n hx hb dAS_joinBy_13 rfl (lv_at hl 2 rfl) ?_
        refine lv_iload hx hb dAS_joinBy_14 (lv_at hl 5 rfl) ?_
        refine zRI.back ((va_runV (As := [.int (iI (i : Int))]) (rest := [.ref b, .ref r]) ⟨hx, hb, hml, hown, hts⟩ (mRO_at l D cI cG r a n f ks (i : Int) h (by omega)) (cwV 1 hts (gT1 lkAS_33 (gT1 imRO_at (gT1 seRO_at (gT1 iniRO (gTW kcRO_at))))) rfl rfl rfl (by decide +kernel) ⟨Nat.le_of_ble_eq_true rfl, Nat.le_of_ble_eq_true rfl⟩) ⟨zRd_blind, va_recv hK hP (ci := 5) (q0 := 2) rfl rfl, zRd.at (wc := [(r, .inr (5, [.ref a, .int (iI (ks.length : Int))])), (a, .inl (cI, n, .inl (zf f)))]) hK (hP.sub (ws' := [(r, .inr (5, [.ref a, .int (iI (ks.length : Int))])), (a, .inl (cI, n, .inl (zf f)))]) [2, 3] rfl) (stF.now hX hS)⟩ rfl rfl hl.1 rfl (lv_room (Nat.le_of_ble_eq_true rfl)) dAS_joinBy_16 ⟨Nat.le_of_ble_eq_true rfl, Nat.le_of_ble_eq_true rfl⟩).run) (fun z_16 q_16 => ?_)
        obtain rfl : z_16 = ks.getD i (-1) := by have q9 : z_16 = lat ks (i : Int) := q_16; rw [q9]; exact (lat_in (by omega) (by omega)).1
        refine lv_iload_n hx hb dAS_joinBy_19 rfl (lv_at hl 1 rfl) ?_
        refine zI.back (va_runV (As := [.int (iI (ks.getD i (-1))), .int (iI c9)]) (rest := [.ref r]) ⟨hx, hb, hml, hown, hts⟩ ((mBE_times l D cI cG b lf rt gl1 gr1 (ks.getD i (-1)) c9 (hkk i (by omega)) hck) H.size) (cwV 2 hts (gT1 lkAS_51 (gT1 imBE_times (gT1 seBE_times (gT1 iniBE (gTW kcBE_times))))) rfl rfl rfl (by decide +kernel) ⟨Nat.le_of_ble_eq_true rfl, Nat.le_of_ble_eq_true rfl⟩) ⟨zPre_blind, va_recv hK hP (ci := 1) (q0 := 4) rfl rfl, zPre.at (wc := [(b, .inr (1, [.ref lf, .ref rt])), (lf, .inl (cI, 9, .inl (zf gl1))), (rt, .inl (cI, 9, .inl (zf gr1)))]) hK hP hD hS hA hX [4, 5, 6] (by decide) rfl⟩ rfl rfl hl.1 rfl (lv_room (Nat.le_of_ble_eq_true rfl)) dAS_joinBy_20 ⟨Nat.le_of_ble_eq_true rfl, Nat.le_of_ble_eq_true rfl⟩) (wr := [(t, .inr (0, [.ref sa, .ref za, .int (iI ct)])), (sa, .inl (cI, ks.length, .inl (zf so))), (r, .inr (5, [.ref a, .int (iI (ks.length : Int))])), (a, .inl (cI, n, .inl (zf f))), (bf, .inl (cI, ks.length, .inl (zf fb1)))]) hP hD hS hA [4, 5, 6] [0, 1, 2, 3, 7] rfl rfl (by decide) (by decide) (fun z_20 u_20 H locs q_20 hP hD hS hz_20 hk_20 => ?_)
        obtain rfl : z_20 = timesK (ks.getD i (-1)) c9 := q_20
        have hP : va_P D vwCl [(t, .inr (0, [.ref sa, .ref za, .int (iI ct)])), (sa, .inl (cI, ks.length, .inl (zf so))), (r, .inr (5, [.ref a, .int (iI (ks.length : Int))])), (a, .inl (cI, n, .inl (zf f))), (bf, .inl (cI, ks.length, .inl (zf fb1))), (b, .inr (1, [.ref lf, .ref rt])), (lf, .inl (cI, 9, .inl (zf (rd (ks.getD i (-1)) gl1)))), (rt, .inl (cI, 9, .inl (zf (rd c9 gr1))))] H := hP
        have hD : va_D A [(t, .inr (0, [.ref sa, .ref za, .int (iI ct)])), (sa, .inl (cI, ks.length, .inl (zf so))), (r, .inr (5, [.ref a, .int (iI (ks.length : Int))])), (a, .inl (cI, n, .inl (zf f))), (bf, .inl (cI, ks.length, .inl (zf fb1))), (b, .inr (1, [.ref lf, .ref rt])), (lf, .inl (cI, 9, .inl (zf (rd (ks.getD i (-1)) gl1)))), (rt, .inl (cI, 9, .inl (zf (rd c9 gr1))))] := hD
        refine zRI.back ((va_runV (As := [.int (iI (timesK (ks.getD i (-1)) c9))]) (rest := []) ⟨hx, hb, hml, hown, hts⟩ (mRO_indexOf l D cI cG r a n f ks (timesK (ks.getD i (-1)) c9) h (by have := times_bd (ks.getD i (-1)) c9; omega)) (cwV 1 hts (gT1 lkAS_57 (gT1 imRO_indexOf (gT1 seRO_indexOf (gT1 iniRO (gTW kcRO_indexOf))))) rfl rfl rfl (by decide +kernel) ⟨Nat.le_of_ble_eq_true rfl, Nat.le_of_ble_eq_true rfl⟩) ⟨zRd_blind, va_recv hK hP (ci := 5) (q0 := 2) rfl rfl, zRd.at (wc := [(r, .inr (5, [.ref a, .int (iI (ks.length : Int))])), (a, .inl (cI, n, .inl (zf f)))]) hK (hP.sub (ws' := [(r, .inr (5, [.ref a, .int (iI (ks.length : Int))])), (a, .inl (cI, n, .inl (zf f)))]) [2, 3] rfl) (stF.now hX hS)⟩ rfl rfl hl.1 rfl (lv_room (Nat.le_of_ble_eq_true rfl)) dAS_joinBy_23 ⟨Nat.le_of_ble_eq_true rfl, Nat.le_of_ble_eq_true rfl⟩).run) (fun z_23 q_23 => ?_)
        have q_23 : lix ks (timesK (ks.getD i (-1)) c9) z_23 := q_23
        obtain ⟨k9, hk9, ek9, rfl⟩ : ∃ k9 : Nat, k9 < ks.length ∧ ks.getD k9 (-1) = timesK (ks.getD i (-1)) c9 ∧ z_23 = (k9 : Int) := by
          rcases q_23 with ⟨_, q1, q2, q3⟩ | ⟨q, _⟩
          · exact ⟨z_23.toNat, by omega, q3, by omega⟩
          · exact absurd (hG.2.2.2 _ (getD_mem (by omega)) _ hc9) q
        refine lv_istore (lv' := [(6, .int (iI (k9 : Int))), (0, .ref t), (1, .int (iI c9)), (2, .ref r), (3, .ref b), (4, .ref bf), (5, .int (iI (i : Int)))]) hx hb dAS_joinBy_26 hl (by decide) rfl (fun ls hl => ?_)
        refine lv_iload hx hb dAS_joinBy_28 (lv_at hl 0 rfl) ?_
        refine lz_if_lt (tgt := 48) hx hb dAS_joinBy_30 (by decide) (by omega) (fun c_30 => ?_) (fun c_30 => ?_)
        · exact absurd c_30 (by omega)
        · refine lv_iload hx hb dAS_joinBy_33 (lv_at hl 0 rfl) ?_
          refine lv_aload hx hb dAS_joinBy_35 (lv_at hl 5 rfl) ?_
          refine lz_alen hx hb hK hP 4 0 rfl rfl dAS_joinBy_37 ?_
          refine lz_icmp_ge (tgt := 48) hx hb dAS_joinBy_38 (by decide) (by omega) (by omega) (fun c_38 => ?_) (fun c_38 => ?_)
          · exact absurd c_38 (by omega)
          · refine lv_aload hx hb dAS_joinBy_41 (lv_at hl 5 rfl) ?_
            refine lv_iload hx hb dAS_joinBy_43 (lv_at hl 0 rfl) ?_
            refine lv_iload hx hb dAS_joinBy_45 (lv_at hl 6 rfl) ?_
            refine lz_iask hx hb hK hP hD hS 4 0 rfl rfl (z := (k9 : Int)) (v := (i : Int)) k9 rfl (by omega) dAS_joinBy_47 (fun H locs hP hD hS => ?_)
            have hP : va_P D vwCl [(t, .inr (0, [.ref sa, .ref za, .int (iI ct)])), (sa, .inl (cI, ks.length, .inl (zf so))), (r, .inr (5, [.ref a, .int (iI (ks.length : Int))])), (a, .inl (cI, n, .inl (zf f))), (bf, .inl (cI, ks.length, .inl (zf (zu fb1 k9 (i : Int))))), (b, .inr (1, [.ref lf, .ref rt])), (lf, .inl (cI, 9, .inl (zf (rd (ks.getD i (-1)) gl1)))), (rt, .inl (cI, 9, .inl (zf (rd c9 gr1))))] H := hP
            have hD : va_D A [(t, .inr (0, [.ref sa, .ref za, .int (iI ct)])), (sa, .inl (cI, ks.length, .inl (zf so))), (r, .inr (5, [.ref a, .int (iI (ks.length : Int))])), (a, .inl (cI, n, .inl (zf f))), (bf, .inl (cI, ks.length, .inl (zf (zu fb1 k9 (i : Int))))), (b, .inr (1, [.ref lf, .ref rt])), (lf, .inl (cI, 9, .inl (zf (rd (ks.getD i (-1)) gl1)))), (rt, .inl (cI, 9, .inl (zf (rd c9 gr1))))] := hD
            refine lz_iinc (lv' := [(5, .int (iI ((i : Int) + 1))), (6, .int (iI (k9 : Int))), (0, .ref t), (1, .int (iI c9)), (2, .ref r), (3, .ref b), (4, .ref bf)]) hx hb dAS_joinBy_48 hl (k := 6) rfl (by decide) rfl (fun ls hl => ?_)
            refine lv_goto (tgt := 3) hx hb dAS_joinBy_51 (by decide) ?_
            exact ih3 (i + 1) (rd (ks.getD i (-1)) gl1) (rd c9 gr1) (zu fb1 k9 (i : Int)) (by omega) (fun j hj k hk e => by
                unfold zu
                by_cases q : k = k9
                · rw [if_pos q]
                  subst q
                  have : j = i := getD_nd hnd (by omega) (by omega) (hG.rc hc9 (getD_mem (by omega)) (getD_mem (by omega)) (e.trans ek9))
                  rw [this]
                · rw [if_neg q]
                  rcases Nat.lt_or_ge j i with q2 | q2
                  · exact hI j q2 k hk e
                  · obtain rfl : j = i := by omega
                    exact absurd (getD_nd hnd hk hk9 (e.symm.trans ek9.symm)) q) (by omega) _ _ (hP.sub [0, 1, 2, 3, 5, 6, 7, 4] rfl) (hD.sub [0, 1, 2, 3, 5, 6, 7, 4] (by decide) rfl) hS _ (lv_sub hl [2, 3, 4, 5, 6, 0] rfl)
  exact lp3 _ 0 gl gr fb (Nat.zero_le _) (fun j hj => absurd hj (Nat.not_lt_zero _)) (Nat.lt_succ_self _) _ _ (hP.sub [0, 1, 2, 3, 4, 5, 6, 7] rfl) (hD.sub [0, 1, 2, 3, 4, 5, 6, 7] (by decide) rfl) hS _ (lv_sub hl [1, 2, 3, 4, 5, 0] rfl)
end
section
/-! The sets when all is joined. -/
theorem alk_count {ks : List Int} {so : Nat → Int} (hr : inN ks.length so) (h : ∀ i j, i < ks.length → j < ks.length → (so i = so j ↔ alk ks i j)) : nval ks.length so = nAlk ks := by
  rw [nval_nfst hr]
  refine cnt_congr fun a ha => ⟨fun g b hb q => g b hb ((h b a (by omega) ha).mpr q), fun g b hb q => g b hb ((h b a (by omega) ha).mp q)⟩
theorem alk_many {ks : List Int} {so : Nat → Int} (h : ∀ i j, i < ks.length → j < ks.length → (so i = so j ↔ alk ks i j)) {k : Nat} (hk : k < ks.length) : cnt (fun i => so i = so k) ks.length = mAlk ks k :=
  cnt_congr fun i hi => h i k hi hk
/-- sizes, counted up to i -/
def szI (so sz : Nat → Int) (n i : Nat) : Prop := ∀ v : Nat, v < n → sz v = (cnt (fun j => so j = (v : Int)) i : Int)
theorem szI_0 (so : Nat → Int) (n : Nat) : szI so (fun _ => 0) n 0 := fun v _ => rfl
theorem szI_s {so sz : Nat → Int} {n i : Nat} (hr : inN n so) (hi : i < n) (h : szI so sz n i) : szI so (zu sz (so i).toNat (sz (so i).toNat + 1)) n (i + 1) := by
  intro v hv
  have hb := hr i hi
  unfold zu
  by_cases q : v = (so i).toNat
  · rw [if_pos q, cnt_t (show so i = (v : Int) by omega), ← q, h v hv]
    omega
  · rw [if_neg q, cnt_f (show ¬ so i = (v : Int) by omega), h v hv]
theorem szI_end {so sz : Nat → Int} {n : Nat} (hr : inN n so) (h : szI so sz n n) {k : Nat} (hk : k < n) : sz (so k).toNat = (cnt (fun j => so j = so k) n : Int) := by
  have hb := hr k hk
  rw [h (so k).toNat (by omega)]
  congr 1
  exact cnt_congr fun i _ => by rw [show (((so k).toNat : Nat) : Int) = so k by omega]
end
section
/-! AlikeSets: the constructor: written by wip/whole/genas2.py -/
def rmAS_init : Room := { frames := 4, cells := 3, slots := 576, locals := 131 }
set_option maxHeartbeats 4000000 in
set_option maxRecDepth 100000 in
theorem mAS_init (l : Launch) (D : va_G) (cI cG : ClassId) (t : Nat) (r a n : Nat) (f : Nat → Int) (ks : List Int) (cl b lf rt fr fa ca ge : Nat) (fs : Int) (ff fc : Nat → Int) (cc : Int) (fg : Nat → Int) (gc : Int) (gl gr : Nat → Int) (K0 : List Int) (h : rowOK n f ks) (hn : ks.length ≤ 192) (hG : isG ks) (hr0 : rowOK 192 ff K0) (hfs0 : fs = (K0.length : Int)) : zV l yAS_init wAS_init rmAS_init D vwCl (zT cI cG) [.ref t, .ref r, .ref b, .ref cl] [(t, .inr (0, [.null, .null, .int (iI 0)])), (r, .inr (5, [.ref a, .int (iI (ks.length : Int))])), (a, .inl (cI, n, .inl (zf f))), (cl, .inr (2, [.ref b, .ref fr, .ref ca, .int (iI cc), .ref ge, .int (iI gc)])), (b, .inr (1, [.ref lf, .ref rt])), (lf, .inl (cI, 9, .inl (zf gl))), (rt, .inl (cI, 9, .inl (zf gr))), (fr, .inr (5, [.ref fa, .int (iI fs)])), (fa, .inl (cI, 192, .inl (zf ff))), (ca, .inl (cI, 192, .inl (zf fc))), (ge, .inl (cI, 10, .inl (zf fg)))] (S := (Nat × Nat × (Nat → Int) × (Nat → Int) × Int × CS)) (fun u => inN ks.length u.2.2.1 ∧ u.2.2.2.2.1 = (nAlk ks : Int) ∧ (∀ k, k < ks.length → u.2.2.2.1 (u.2.2.1 k).toNat = (mAlk ks k : Int)) ∧ ∃ K, rowOK 192 u.2.2.2.2.2.2.1 K ∧ u.2.2.2.2.2.1 = (K.length : Int)) (fun u => [(t, .inr (0, [.ref u.1, .ref u.2.1, .int (iI u.2.2.2.2.1)])), (u.1, .inl (cI, ks.length, .inl (zf u.2.2.1))), (u.2.1, .inl (cI, ks.length, .inl (zf u.2.2.2.1))), (r, .inr (5, [.ref a, .int (iI (ks.length : Int))])), (a, .inl (cI, n, .inl (zf f))), (cl, .inr (2, [.ref b, .ref fr, .ref ca, .int (iI u.2.2.2.2.2.2.2.2.1), .ref ge, .int (iI u.2.2.2.2.2.2.2.2.2.2.1)])), (b, .inr (1, [.ref lf, .ref rt])), (lf, .inl (cI, 9, .inl (zf u.2.2.2.2.2.2.2.2.2.2.2.1))), (rt, .inl (cI, 9, .inl (zf u.2.2.2.2.2.2.2.2.2.2.2.2))), (fr, .inr (5, [.ref fa, .int (iI u.2.2.2.2.2.1)])), (fa, .inl (cI, 192, .inl (zf u.2.2.2.2.2.2.1))), (ca, .inl (cI, 192, .inl (zf u.2.2.2.2.2.2.2.1))), (ge, .inl (cI, 10, .inl (zf u.2.2.2.2.2.2.2.2.2.1)))]) := by
  refine zV.of (cc := cAS_init) (maxL := 8) (by decide) rfl (Nat.le_of_ble_eq_true rfl) ?_
  intro p e s m args below meth c A ls Q hx hb hml hown hts hnm hK hD hA hAe hX hl hret H locs hP hS
  have hl : lv_has ls 8 [(0, .ref t), (1, .ref r), (2, .ref b), (3, .ref cl)] := hl
  have hb1 := h.1
  have hb2 := h.2.1
  have hnd := nodup_lt h.2.2.2.1
  have hgen := hG.gen h.2.2.2.1 hn
  refine lv_aload_n hx hb dAS_init_0 rfl (lv_at hl 0 rfl) ?_
  refine W.objInit hx hb hown (hts _ (List.mem_cons_of_mem _ lkAS_3)) (hts _ (List.mem_cons_of_mem _ imJO_init)) (hts _ (List.mem_cons_of_mem _ kcJO_init)) rfl (by rw [hml]; exact hl.1) rfl dAS_init_1 (Nat.le_of_ble_eq_true rfl) (Nat.le_of_ble_eq_true rfl) ?_
  refine W.eq (g2 := F0 m 4 ls []) rfl ?_
  refine lv_aload_n hx hb dAS_init_4 rfl (lv_at hl 1 rfl) ?_
  refine zRI.back ((va_runV (As := []) (rest := []) ⟨hx, hb, hml, hown, hts⟩ (mRO_size l D cI cG r a (ks.length : Int)) (cwV 0 hts (gT1 lkAS_9 (gT1 imRO_size (gT1 seRO_size (gT1 iniRO (gTW kcRO_size))))) rfl rfl rfl (by decide +kernel) ⟨Nat.le_of_ble_eq_true rfl, Nat.le_of_ble_eq_true rfl⟩) ⟨zRd_blind, va_recv hK hP (ci := 5) (q0 := 1) rfl rfl, zRd.at (wc := [(r, .inr (5, [.ref a, .int (iI (ks.length : Int))]))]) hK (hP.sub (ws' := [(r, .inr (5, [.ref a, .int (iI (ks.length : Int))]))]) [1] rfl) (stF.now hX hS)⟩ rfl rfl hl.1 rfl (lv_room (Nat.le_of_ble_eq_true rfl)) dAS_init_5 ⟨Nat.le_of_ble_eq_true rfl, Nat.le_of_ble_eq_true rfl⟩).run) (fun z_5 q_5 => ?_)
  obtain rfl : z_5 = (ks.length : Int) := q_5
  refine lv_istore (lv' := [(4, .int (iI (ks.length : Int))), (0, .ref t), (1, .ref r), (2, .ref b), (3, .ref cl)]) hx hb dAS_init_8 hl (by decide) rfl (fun ls hl => ?_)
  refine lv_aload_n hx hb dAS_init_10 rfl (lv_at hl 1 rfl) ?_
  refine lv_iload hx hb dAS_init_11 (lv_at hl 0 rfl) ?_
  refine lz_newa hx hb (hts _ (List.mem_cons_of_mem _ ac_int)) hK hP hD hS hA 0 rfl (N := ks.length) rfl (by omega) (Nat.le_of_ble_eq_true rfl) (by show 0 + ks.length ≤ 576; omega) dAS_init_13 (fun sa H hP hD hS => ?_)
  refine W.widen (k := 1) (n := 192) (by omega) (by omega) ?_
  have hP : va_P D vwCl [(t, .inr (0, [.null, .null, .int (iI 0)])), (r, .inr (5, [.ref a, .int (iI (ks.length : Int))])), (a, .inl (cI, n, .inl (zf f))), (cl, .inr (2, [.ref b, .ref fr, .ref ca, .int (iI cc), .ref ge, .int (iI gc)])), (b, .inr (1, [.ref lf, .ref rt])), (lf, .inl (cI, 9, .inl (zf gl))), (rt, .inl (cI, 9, .inl (zf gr))), (fr, .inr (5, [.ref fa, .int (iI fs)])), (fa, .inl (cI, 192, .inl (zf ff))), (ca, .inl (cI, 192, .inl (zf fc))), (ge, .inl (cI, 10, .inl (zf fg))), (sa, .inl (cI, ks.length, .inl (zf (fun _ => 0))))] H := hP
  have hD : va_D A [(t, .inr (0, [.null, .null, .int (iI 0)])), (r, .inr (5, [.ref a, .int (iI (ks.length : Int))])), (a, .inl (cI, n, .inl (zf f))), (cl, .inr (2, [.ref b, .ref fr, .ref ca, .int (iI cc), .ref ge, .int (iI gc)])), (b, .inr (1, [.ref lf, .ref rt])), (lf, .inl (cI, 9, .inl (zf gl))), (rt, .inl (cI, 9, .inl (zf gr))), (fr, .inr (5, [.ref fa, .int (iI fs)])), (fa, .inl (cI, 192, .inl (zf ff))), (ca, .inl (cI, 192, .inl (zf fc))), (ge, .inl (cI, 10, .inl (zf fg))), (sa, .inl (cI, ks.length, .inl (zf (fun _ => 0))))] := hD
  refine va_putF (D := D) (ci := 0) (v := .ref sa) (ty := .array .int) (C := nAS) (T := fAS) (N := 3) hx hb hts iwAS tAS tkAS nmAS hown hK hP hD hS 0 rfl rfl 0 (by decide) (hts _ (List.mem_cons_of_mem _ lkAS_15)) (fun _ h9 => h9) rfl hnm rfl (by decide +kernel) rfl rfl (Nat.le_of_ble_eq_true rfl) dAS_init_15 (fun H locs hP hD hS => ?_)
  have hP : va_P D vwCl [(t, .inr (0, [.ref sa, .null, .int (iI 0)])), (r, .inr (5, [.ref a, .int (iI (ks.length : Int))])), (a, .inl (cI, n, .inl (zf f))), (cl, .inr (2, [.ref b, .ref fr, .ref ca, .int (iI cc), .ref ge, .int (iI gc)])), (b, .inr (1, [.ref lf, .ref rt])), (lf, .inl (cI, 9, .inl (zf gl))), (rt, .inl (cI, 9, .inl (zf gr))), (fr, .inr (5, [.ref fa, .int (iI fs)])), (fa, .inl (cI, 192, .inl (zf ff))), (ca, .inl (cI, 192, .inl (zf fc))), (ge, .inl (cI, 10, .inl (zf fg))), (sa, .inl (cI, ks.length, .inl (zf (fun _ => 0))))] H := hP
  have hD : va_D A [(t, .inr (0, [.ref sa, .null, .int (iI 0)])), (r, .inr (5, [.ref a, .int (iI (ks.length : Int))])), (a, .inl (cI, n, .inl (zf f))), (cl, .inr (2, [.ref b, .ref fr, .ref ca, .int (iI cc), .ref ge, .int (iI gc)])), (b, .inr (1, [.ref lf, .ref rt])), (lf, .inl (cI, 9, .inl (zf gl))), (rt, .inl (cI, 9, .inl (zf gr))), (fr, .inr (5, [.ref fa, .int (iI fs)])), (fa, .inl (cI, 192, .inl (zf ff))), (ca, .inl (cI, 192, .inl (zf fc))), (ge, .inl (cI, 10, .inl (zf fg))), (sa, .inl (cI, ks.length, .inl (zf (fun _ => 0))))] := hD
  refine lv_aload_n hx hb dAS_init_18 rfl (lv_at hl 1 rfl) ?_
  refine lv_iload hx hb dAS_init_19 (lv_at hl 0 rfl) ?_
  refine lz_newa hx hb (hts _ (List.mem_cons_of_mem _ ac_int)) hK hP hD hS hA 0 rfl (N := ks.length) rfl (by omega) (Nat.le_of_ble_eq_true rfl) (by show 192 + ks.length ≤ 576; omega) dAS_init_21 (fun za H hP hD hS => ?_)
  refine W.widen (k := 2) (n := 384) (by omega) (by omega) ?_
  have hP : va_P D vwCl [(t, .inr (0, [.ref sa, .null, .int (iI 0)])), (r, .inr (5, [.ref a, .int (iI (ks.length : Int))])), (a, .inl (cI, n, .inl (zf f))), (cl, .inr (2, [.ref b, .ref fr, .ref ca, .int (iI cc), .ref ge, .int (iI gc)])), (b, .inr (1, [.ref lf, .ref rt])), (lf, .inl (cI, 9, .inl (zf gl))), (rt, .inl (cI, 9, .inl (zf gr))), (fr, .inr (5, [.ref fa, .int (iI fs)])), (fa, .inl (cI, 192, .inl (zf ff))), (ca, .inl (cI, 192, .inl (zf fc))), (ge, .inl (cI, 10, .inl (zf fg))), (sa, .inl (cI, ks.length, .inl (zf (fun _ => 0)))), (za, .inl (cI, ks.length, .inl (zf (fun _ => 0))))] H := hP
  have hD : va_D A [(t, .inr (0, [.ref sa, .null, .int (iI 0)])), (r, .inr (5, [.ref a, .int (iI (ks.length : Int))])), (a, .inl (cI, n, .inl (zf f))), (cl, .inr (2, [.ref b, .ref fr, .ref ca, .int (iI cc), .ref ge, .int (iI gc)])), (b, .inr (1, [.ref lf, .ref rt])), (lf, .inl (cI, 9, .inl (zf gl))), (rt, .inl (cI, 9, .inl (zf gr))), (fr, .inr (5, [.ref fa, .int (iI fs)])), (fa, .inl (cI, 192, .inl (zf ff))), (ca, .inl (cI, 192, .inl (zf fc))), (ge, .inl (cI, 10, .inl (zf fg))), (sa, .inl (cI, ks.length, .inl (zf (fun _ => 0)))), (za, .inl (cI, ks.length, .inl (zf (fun _ => 0))))] := hD
  refine va_putF (D := D) (ci := 0) (v := .ref za) (ty := .array .int) (C := nAS) (T := fAS) (N := 3) hx hb hts iwAS tAS tkAS nmAS hown hK hP hD hS 0 rfl rfl 1 (by decide) (hts _ (List.mem_cons_of_mem _ lkAS_21)) (fun _ h9 => h9) rfl hnm rfl (by decide +kernel) rfl rfl (Nat.le_of_ble_eq_true rfl) dAS_init_23 (fun H locs hP hD hS => ?_)
  have hP : va_P D vwCl [(t, .inr (0, [.ref sa, .ref za, .int (iI 0)])), (r, .inr (5, [.ref a, .int (iI (ks.length : Int))])), (a, .inl (cI, n, .inl (zf f))), (cl, .inr (2, [.ref b, .ref fr, .ref ca, .int (iI cc), .ref ge, .int (iI gc)])), (b, .inr (1, [.ref lf, .ref rt])), (lf, .inl (cI, 9, .inl (zf gl))), (rt, .inl (cI, 9, .inl (zf gr))), (fr, .inr (5, [.ref fa, .int (iI fs)])), (fa, .inl (cI, 192, .inl (zf ff))), (ca, .inl (cI, 192, .inl (zf fc))), (ge, .inl (cI, 10, .inl (zf fg))), (sa, .inl (cI, ks.length, .inl (zf (fun _ => 0)))), (za, .inl (cI, ks.length, .inl (zf (fun _ => 0))))] H := hP
  have hD : va_D A [(t, .inr (0, [.ref sa, .ref za, .int (iI 0)])), (r, .inr (5, [.ref a, .int (iI (ks.length : Int))])), (a, .inl (cI, n, .inl (zf f))), (cl, .inr (2, [.ref b, .ref fr, .ref ca, .int (iI cc), .ref ge, .int (iI gc)])), (b, .inr (1, [.ref lf, .ref rt])), (lf, .inl (cI, 9, .inl (zf gl))), (rt, .inl (cI, 9, .inl (zf gr))), (fr, .inr (5, [.ref fa, .int (iI fs)])), (fa, .inl (cI, 192, .inl (zf ff))), (ca, .inl (cI, 192, .inl (zf fc))), (ge, .inl (cI, 10, .inl (zf fg))), (sa, .inl (cI, ks.length, .inl (zf (fun _ => 0)))), (za, .inl (cI, ks.length, .inl (zf (fun _ => 0))))] := hD
  refine lv_aload_n hx hb dAS_init_26 rfl (lv_at hl 1 rfl) ?_
  refine lv_iload hx hb dAS_init_27 (lv_at hl 0 rfl) ?_
  refine va_put (D := D) (ci := 0) (v := .int (iI (ks.length : Int))) (ty := .int) (C := nAS) (T := fAS) (N := 3) hx hb hts iwAS tAS tkAS nmAS hown hK hP hD hS 0 rfl rfl 2 (by decide) (hts _ (List.mem_cons_of_mem _ lkAS_24)) (fun _ h9 => h9) rfl (by decide +kernel) rfl rfl (Nat.le_of_ble_eq_true rfl) dAS_init_29 (fun H locs hP hD hS => ?_)
  have hP : va_P D vwCl [(t, .inr (0, [.ref sa, .ref za, .int (iI (ks.length : Int))])), (r, .inr (5, [.ref a, .int (iI (ks.length : Int))])), (a, .inl (cI, n, .inl (zf f))), (cl, .inr (2, [.ref b, .ref fr, .ref ca, .int (iI cc), .ref ge, .int (iI gc)])), (b, .inr (1, [.ref lf, .ref rt])), (lf, .inl (cI, 9, .inl (zf gl))), (rt, .inl (cI, 9, .inl (zf gr))), (fr, .inr (5, [.ref fa, .int (iI fs)])), (fa, .inl (cI, 192, .inl (zf ff))), (ca, .inl (cI, 192, .inl (zf fc))), (ge, .inl (cI, 10, .inl (zf fg))), (sa, .inl (cI, ks.length, .inl (zf (fun _ => 0)))), (za, .inl (cI, ks.length, .inl (zf (fun _ => 0))))] H := hP
  have hD : va_D A [(t, .inr (0, [.ref sa, .ref za, .int (iI (ks.length : Int))])), (r, .inr (5, [.ref a, .int (iI (ks.length : Int))])), (a, .inl (cI, n, .inl (zf f))), (cl, .inr (2, [.ref b, .ref fr, .ref ca, .int (iI cc), .ref ge, .int (iI gc)])), (b, .inr (1, [.ref lf, .ref rt])), (lf, .inl (cI, 9, .inl (zf gl))), (rt, .inl (cI, 9, .inl (zf gr))), (fr, .inr (5, [.ref fa, .int (iI fs)])), (fa, .inl (cI, 192, .inl (zf ff))), (ca, .inl (cI, 192, .inl (zf fc))), (ge, .inl (cI, 10, .inl (zf fg))), (sa, .inl (cI, ks.length, .inl (zf (fun _ => 0)))), (za, .inl (cI, ks.length, .inl (zf (fun _ => 0))))] := hD
  refine lv_aload_n hx hb dAS_init_32 rfl (lv_at hl 4 rfl) ?_
  refine zV.back (va_runV (As := []) (rest := []) ⟨hx, hb, hml, hown, hts⟩ ((mCL_start l D cI cG cl b lf rt fr fa ca ge fs ff fc cc fg gc gl gr K0 hr0 hfs0) H.size) (cwV 0 hts (gT1 lkAS_28 (gT1 imCL_start (gT1 seCL_start (gT1 iniCL (gTW kcCL_start))))) rfl rfl rfl (by decide +kernel) ⟨Nat.le_of_ble_eq_true rfl, Nat.le_of_ble_eq_true rfl⟩) ⟨zPre_blind, va_recv hK hP (ci := 2) (q0 := 3) rfl rfl, zPre.at (wc := [(cl, .inr (2, [.ref b, .ref fr, .ref ca, .int (iI cc), .ref ge, .int (iI gc)])), (b, .inr (1, [.ref lf, .ref rt])), (lf, .inl (cI, 9, .inl (zf gl))), (rt, .inl (cI, 9, .inl (zf gr))), (fr, .inr (5, [.ref fa, .int (iI fs)])), (fa, .inl (cI, 192, .inl (zf ff))), (ca, .inl (cI, 192, .inl (zf fc))), (ge, .inl (cI, 10, .inl (zf fg)))]) hK hP hD hS hA hX [3, 4, 5, 6, 7, 8, 9, 10] (by decide) rfl⟩ rfl rfl hl.1 rfl (lv_room (Nat.le_of_ble_eq_true rfl)) dAS_init_33 ⟨Nat.le_of_ble_eq_true rfl, Nat.le_of_ble_eq_true rfl⟩) (wr := [(t, .inr (0, [.ref sa, .ref za, .int (iI (ks.length : Int))])), (r, .inr (5, [.ref a, .int (iI (ks.length : Int))])), (a, .inl (cI, n, .inl (zf f))), (sa, .inl (cI, ks.length, .inl (zf (fun _ => 0)))), (za, .inl (cI, ks.length, .inl (zf (fun _ => 0))))]) hP hD hS hA [3, 4, 5, 6, 7, 8, 9, 10] [0, 1, 2, 11, 12] rfl rfl (by decide) (by decide) (fun u_33 H locs q_33 hP hD hS hz_33 hk_33 => ?_)
  obtain ⟨fs1, ff1, fc1, cc1, fg1, gc1, gl1, gr1⟩ := u_33
  have q_33 : CSt fs1 ff1 fc1 cc1 fg1 gc1 [u0] [u0] [] := q_33
  have hP : va_P D vwCl [(t, .inr (0, [.ref sa, .ref za, .int (iI (ks.length : Int))])), (r, .inr (5, [.ref a, .int (iI (ks.length : Int))])), (a, .inl (cI, n, .inl (zf f))), (sa, .inl (cI, ks.length, .inl (zf (fun _ => 0)))), (za, .inl (cI, ks.length, .inl (zf (fun _ => 0)))), (cl, .inr (2, [.ref b, .ref fr, .ref ca, .int (iI cc1), .ref ge, .int (iI gc1)])), (b, .inr (1, [.ref lf, .ref rt])), (lf, .inl (cI, 9, .inl (zf gl1))), (rt, .inl (cI, 9, .inl (zf gr1))), (fr, .inr (5, [.ref fa, .int (iI fs1)])), (fa, .inl (cI, 192, .inl (zf ff1))), (ca, .inl (cI, 192, .inl (zf fc1))), (ge, .inl (cI, 10, .inl (zf fg1)))] H := hP
  have hD : va_D A [(t, .inr (0, [.ref sa, .ref za, .int (iI (ks.length : Int))])), (r, .inr (5, [.ref a, .int (iI (ks.length : Int))])), (a, .inl (cI, n, .inl (zf f))), (sa, .inl (cI, ks.length, .inl (zf (fun _ => 0)))), (za, .inl (cI, ks.length, .inl (zf (fun _ => 0)))), (cl, .inr (2, [.ref b, .ref fr, .ref ca, .int (iI cc1), .ref ge, .int (iI gc1)])), (b, .inr (1, [.ref lf, .ref rt])), (lf, .inl (cI, 9, .inl (zf gl1))), (rt, .inl (cI, 9, .inl (zf gr1))), (fr, .inr (5, [.ref fa, .int (iI fs1)])), (fa, .inl (cI, 192, .inl (zf ff1))), (ca, .inl (cI, 192, .inl (zf fc1))), (ge, .inl (cI, 10, .inl (zf fg1)))] := hD
  refine lv_iconst (v := iI (0)) hx hb dAS_init_36 rfl ?_
  refine lv_istore (lv' := [(5, .int (iI 0)), (4, .int (iI (ks.length : Int))), (0, .ref t), (1, .ref r), (2, .ref b), (3, .ref cl)]) hx hb dAS_init_37 hl (by decide) rfl (fun ls hl => ?_)
  have lp39 : ∀ (n9 : Nat) (i : Nat) (so1 : Nat → Int) (fs2 : Int) (ff2 fc2 : Nat → Int) (cc2 : Int) (fg2 : Nat → Int) (gc2 : Int) (gl2 gr2 : Nat → Int) (K cm gs : List Int), (i ≤ ks.length) → (∀ j, j < i → so1 j = (j : Int)) → (CSt fs2 ff2 fc2 cc2 fg2 gc2 K cm gs) → (CIv K cm gs) → (∀ a ∈ gs, a ∈ ks) → (∀ j, j < i → ks.getD j (-1) ∈ K) → (ks.length - i) < n9 → ∀ (H : Heap) (locs : List Loc), va_P D vwCl [(t, .inr (0, [.ref sa, .ref za, .int (iI (ks.length : Int))])), (sa, .inl (cI, ks.length, .inl (zf so1))), (za, .inl (cI, ks.length, .inl (zf (fun _ => 0)))), (r, .inr (5, [.ref a, .int (iI (ks.length : Int))])), (a, .inl (cI, n, .inl (zf f))), (cl, .inr (2, [.ref b, .ref fr, .ref ca, .int (iI cc2), .ref ge, .int (iI gc2)])), (b, .inr (1, [.ref lf, .ref rt])), (lf, .inl (cI, 9, .inl (zf gl2))), (rt, .inl (cI, 9, .inl (zf gr2))), (fr, .inr (5, [.ref fa, .int (iI fs2)])), (fa, .inl (cI, 192, .inl (zf ff2))), (ca, .inl (cI, 192, .inl (zf fc2))), (ge, .inl (cI, 10, .inl (zf fg2)))] H → va_D A [(t, .inr (0, [.ref sa, .ref za, .int (iI (ks.length : Int))])), (sa, .inl (cI, ks.length, .inl (zf so1))), (za, .inl (cI, ks.length, .inl (zf (fun _ => 0)))), (r, .inr (5, [.ref a, .int (iI (ks.length : Int))])), (a, .inl (cI, n, .inl (zf f))), (cl, .inr (2, [.ref b, .ref fr, .ref ca, .int (iI cc2), .ref ge, .int (iI gc2)])), (b, .inr (1, [.ref lf, .ref rt])), (lf, .inl (cI, 9, .inl (zf gl2))), (rt, .inl (cI, 9, .inl (zf gr2))), (fr, .inr (5, [.ref fa, .int (iI fs2)])), (fa, .inl (cI, 192, .inl (zf ff2))), (ca, .inl (cI, 192, .inl (zf fc2))), (ge, .inl (cI, 10, .inl (zf fg2)))] → va_S A s.heap H locs → ∀ (ls : Array Slot), lv_has ls 8 [(0, .ref t), (1, .ref r), (2, .ref b), (3, .ref cl), (4, .int (iI (ks.length : Int))), (5, .int (iI (i : Int)))] → W p l e (headSpec wAS_init rmAS_init).room s m args below meth c H locs 2 384 Q (F0 m 39 ls []) := by
    intro n9
    induction n9 with
    | zero => intro i so1 fs2 ff2 fc2 cc2 fg2 gc2 gl2 gr2 K cm gs hi hso hC hV hgs hKi hm; exact absurd hm (Nat.not_lt_zero _)
    | succ n9 ih39 =>
      intro i so1 fs2 ff2 fc2 cc2 fg2 gc2 gl2 gr2 K cm gs hi hso hC hV hgs hKi hm39 H locs hP hD hS ls hl
      refine lv_iload hx hb dAS_init_39 (lv_at hl 5 rfl) ?_
      refine lv_iload hx hb dAS_init_41 (lv_at hl 4 rfl) ?_
      refine lz_icmp_ge (tgt := 72) hx hb dAS_init_43 (by decide) (by omega) (by omega) (fun c_43 => ?_) (fun c_43 => ?_)
      · have hin : i = ks.length := by omega
        obtain rfl : gc2 = (gs.length : Int) := hC.2.2.2.2.2.2.1
        have hgl := hC.2.2.2.2.2.2.2.1
        have hrea : ∀ x ∈ ks, Reach gs x := fun x hx9 => by
          obtain ⟨j, hj, rfl⟩ := mem_getD hx9
          exact (hV.2.2.1.2.2.1 _).mp (hKi j (by omega))
        have hso9 : ∀ j, j < ks.length → so1 j = (j : Int) := fun j hj => hso j (by omega)
        have hA0 : ASt ks so1 (ks.length : Int) := ⟨fun j hj => by rw [hso9 j hj]; omega, by rw [nval_id _ _ hso9], fun x y hx9 hy e => by rw [hso9 x hx9, hso9 y hy] at e; rw [show x = y by omega]; exact alk_refl hG hy⟩
        refine lv_iload hx hb dAS_init_72 (lv_at hl 4 rfl) ?_
        refine lz_newa hx hb (hts _ (List.mem_cons_of_mem _ ac_int)) hK hP hD hS hA 0 rfl (N := ks.length) rfl (by omega) (Nat.le_of_ble_eq_true rfl) (by show 384 + ks.length ≤ 576; omega) dAS_init_74 (fun bf H hP hD hS => ?_)
        refine W.widen (k := 3) (n := 576) (by omega) (by omega) ?_
        have hP : va_P D vwCl [(t, .inr (0, [.ref sa, .ref za, .int (iI (ks.length : Int))])), (sa, .inl (cI, ks.length, .inl (zf so1))), (za, .inl (cI, ks.length, .inl (zf (fun _ => 0)))), (r, .inr (5, [.ref a, .int (iI (ks.length : Int))])), (a, .inl (cI, n, .inl (zf f))), (cl, .inr (2, [.ref b, .ref fr, .ref ca, .int (iI cc2), .ref ge, .int (iI (gs.length : Int))])), (b, .inr (1, [.ref lf, .ref rt])), (lf, .inl (cI, 9, .inl (zf gl2))), (rt, .inl (cI, 9, .inl (zf gr2))), (fr, .inr (5, [.ref fa, .int (iI fs2)])), (fa, .inl (cI, 192, .inl (zf ff2))), (ca, .inl (cI, 192, .inl (zf fc2))), (ge, .inl (cI, 10, .inl (zf fg2))), (bf, .inl (cI, ks.length, .inl (zf (fun _ => 0))))] H := hP
        have hD : va_D A [(t, .inr (0, [.ref sa, .ref za, .int (iI (ks.length : Int))])), (sa, .inl (cI, ks.length, .inl (zf so1))), (za, .inl (cI, ks.length, .inl (zf (fun _ => 0)))), (r, .inr (5, [.ref a, .int (iI (ks.length : Int))])), (a, .inl (cI, n, .inl (zf f))), (cl, .inr (2, [.ref b, .ref fr, .ref ca, .int (iI cc2), .ref ge, .int (iI (gs.length : Int))])), (b, .inr (1, [.ref lf, .ref rt])), (lf, .inl (cI, 9, .inl (zf gl2))), (rt, .inl (cI, 9, .inl (zf gr2))), (fr, .inr (5, [.ref fa, .int (iI fs2)])), (fa, .inl (cI, 192, .inl (zf ff2))), (ca, .inl (cI, 192, .inl (zf fc2))), (ge, .inl (cI, 10, .inl (zf fg2))), (bf, .inl (cI, ks.length, .inl (zf (fun _ => 0))))] := hD
        refine lv_astore (lv' := [(5, .ref bf), (0, .ref t), (1, .ref r), (2, .ref b), (3, .ref cl), (4, .int (iI (ks.length : Int)))]) hx hb dAS_init_76 hl (by decide) rfl (fun ls hl => ?_)
        refine lv_iconst (v := iI (0)) hx hb dAS_init_78 rfl ?_
        refine lv_istore (lv' := [(6, .int (iI 0)), (5, .ref bf), (0, .ref t), (1, .ref r), (2, .ref b), (3, .ref cl), (4, .int (iI (ks.length : Int)))]) hx hb dAS_init_79 hl (by decide) rfl (fun ls hl => ?_)
        have lp81 : ∀ (n9 : Nat) (j : Nat) (so : Nat → Int) (ct : Int) (gl4 gr4 fb : Nat → Int), (j ≤ gs.length) → (ASt ks so ct) → (∀ t, t < j → ∀ x y, x < ks.length → y < ks.length → timesK (gs.getD t (-1)) (ks.getD x (-1)) = timesK (ks.getD y (-1)) (gs.getD t (-1)) → so x = so y) → (gs.length - j) < n9 → ∀ (H : Heap) (locs : List Loc), va_P D vwCl [(t, .inr (0, [.ref sa, .ref za, .int (iI ct)])), (sa, .inl (cI, ks.length, .inl (zf so))), (za, .inl (cI, ks.length, .inl (zf (fun _ => 0)))), (r, .inr (5, [.ref a, .int (iI (ks.length : Int))])), (a, .inl (cI, n, .inl (zf f))), (cl, .inr (2, [.ref b, .ref fr, .ref ca, .int (iI cc2), .ref ge, .int (iI (gs.length : Int))])), (b, .inr (1, [.ref lf, .ref rt])), (lf, .inl (cI, 9, .inl (zf gl4))), (rt, .inl (cI, 9, .inl (zf gr4))), (fr, .inr (5, [.ref fa, .int (iI fs2)])), (fa, .inl (cI, 192, .inl (zf ff2))), (ca, .inl (cI, 192, .inl (zf fc2))), (ge, .inl (cI, 10, .inl (zf fg2))), (bf, .inl (cI, ks.length, .inl (zf fb)))] H → va_D A [(t, .inr (0, [.ref sa, .ref za, .int (iI ct)])), (sa, .inl (cI, ks.length, .inl (zf so))), (za, .inl (cI, ks.length, .inl (zf (fun _ => 0)))), (r, .inr (5, [.ref a, .int (iI (ks.length : Int))])), (a, .inl (cI, n, .inl (zf f))), (cl, .inr (2, [.ref b, .ref fr, .ref ca, .int (iI cc2), .ref ge, .int (iI (gs.length : Int))])), (b, .inr (1, [.ref lf, .ref rt])), (lf, .inl (cI, 9, .inl (zf gl4))), (rt, .inl (cI, 9, .inl (zf gr4))), (fr, .inr (5, [.ref fa, .int (iI fs2)])), (fa, .inl (cI, 192, .inl (zf ff2))), (ca, .inl (cI, 192, .inl (zf fc2))), (ge, .inl (cI, 10, .inl (zf fg2))), (bf, .inl (cI, ks.length, .inl (zf fb)))] → va_S A s.heap H locs → ∀ (ls : Array Slot), lv_has ls 8 [(0, .ref t), (1, .ref r), (2, .ref b), (3, .ref cl), (4, .int (iI (ks.length : Int))), (5, .ref bf), (6, .int (iI (j : Int)))] → W p l e (headSpec wAS_init rmAS_init).room s m args below meth c H locs 3 576 Q (F0 m 81 ls []) := by
          intro n9
          induction n9 with
          | zero => intro j so ct gl4 gr4 fb hj hA9 hJ hm; exact absurd hm (Nat.not_lt_zero _)
          | succ n9 ih81 =>
            intro j so ct gl4 gr4 fb hj hA9 hJ hm81 H locs hP hD hS ls hl
            refine lv_iload hx hb dAS_init_81 (lv_at hl 6 rfl) ?_
            refine lv_aload_n hx hb dAS_init_83 rfl (lv_at hl 3 rfl) ?_
            refine zRI.back ((va_runV (As := []) (rest := [.int (iI (j : Int))]) ⟨hx, hb, hml, hown, hts⟩ (mCL_generatorCount l D cI cG cl b lf rt fr fa ca ge cc2 (gs.length : Int)) (cwV 0 hts (gT1 lkAS_41 (gT1 imCL_generatorCount (gT1 seCL_generatorCount (gT1 iniCL (gTW kcCL_generatorCount))))) rfl rfl rfl (by decide +kernel) ⟨Nat.le_of_ble_eq_true rfl, Nat.le_of_ble_eq_true rfl⟩) ⟨zRd_blind, va_recv hK hP (ci := 2) (q0 := 5) rfl rfl, zRd.at (wc := [(cl, .inr (2, [.ref b, .ref fr, .ref ca, .int (iI cc2), .ref ge, .int (iI (gs.length : Int))]))]) hK (hP.sub (ws' := [(cl, .inr (2, [.ref b, .ref fr, .ref ca, .int (iI cc2), .ref ge, .int (iI (gs.length : Int))]))]) [5] rfl) (stF.now hX hS)⟩ rfl rfl hl.1 rfl (lv_room (Nat.le_of_ble_eq_true rfl)) dAS_init_84 ⟨Nat.le_of_ble_eq_true rfl, Nat.le_of_ble_eq_true rfl⟩).run) (fun z_84 q_84 => ?_)
            obtain rfl : z_84 = (gs.length : Int) := q_84
            refine lz_icmp_ge (tgt := 110) hx hb dAS_init_87 (by decide) (by omega) (by omega) (fun c_87 => ?_) (fun c_87 => ?_)
            · have hiff : ∀ x y, x < ks.length → y < ks.length → (so x = so y ↔ alk ks x y) := fun x y hx9 hy => ⟨hA9.2.2 x y hx9 hy, alk_all hG hrea hgs hnd (fun c hc x y hx9 hy e => by obtain ⟨t, ht, rfl⟩ := mem_getD hc; exact hJ t (by omega) x y hx9 hy e) x y hx9 hy⟩
              refine lv_iconst (v := iI (0)) hx hb dAS_init_110 rfl ?_
              refine lv_istore (lv' := [(6, .int (iI 0)), (0, .ref t), (1, .ref r), (2, .ref b), (3, .ref cl), (4, .int (iI (ks.length : Int))), (5, .ref bf)]) hx hb dAS_init_111 hl (by decide) rfl (fun ls hl => ?_)
              have lp113 : ∀ (n9 : Nat) (i9 : Nat) (sz : Nat → Int), (i9 ≤ ks.length) → (szI so sz ks.length i9) → (ks.length - i9) < n9 → ∀ (H : Heap) (locs : List Loc), va_P D vwCl [(t, .inr (0, [.ref sa, .ref za, .int (iI ct)])), (sa, .inl (cI, ks.length, .inl (zf so))), (za, .inl (cI, ks.length, .inl (zf sz))), (r, .inr (5, [.ref a, .int (iI (ks.length : Int))])), (a, .inl (cI, n, .inl (zf f))), (cl, .inr (2, [.ref b, .ref fr, .ref ca, .int (iI cc2), .ref ge, .int (iI (gs.length : Int))])), (b, .inr (1, [.ref lf, .ref rt])), (lf, .inl (cI, 9, .inl (zf gl4))), (rt, .inl (cI, 9, .inl (zf gr4))), (fr, .inr (5, [.ref fa, .int (iI fs2)])), (fa, .inl (cI, 192, .inl (zf ff2))), (ca, .inl (cI, 192, .inl (zf fc2))), (ge, .inl (cI, 10, .inl (zf fg2))), (bf, .inl (cI, ks.length, .inl (zf fb)))] H → va_D A [(t, .inr (0, [.ref sa, .ref za, .int (iI ct)])), (sa, .inl (cI, ks.length, .inl (zf so))), (za, .inl (cI, ks.length, .inl (zf sz))), (r, .inr (5, [.ref a, .int (iI (ks.length : Int))])), (a, .inl (cI, n, .inl (zf f))), (cl, .inr (2, [.ref b, .ref fr, .ref ca, .int (iI cc2), .ref ge, .int (iI (gs.length : Int))])), (b, .inr (1, [.ref lf, .ref rt])), (lf, .inl (cI, 9, .inl (zf gl4))), (rt, .inl (cI, 9, .inl (zf gr4))), (fr, .inr (5, [.ref fa, .int (iI fs2)])), (fa, .inl (cI, 192, .inl (zf ff2))), (ca, .inl (cI, 192, .inl (zf fc2))), (ge, .inl (cI, 10, .inl (zf fg2))), (bf, .inl (cI, ks.length, .inl (zf fb)))] → va_S A s.heap H locs → ∀ (ls : Array Slot), lv_has ls 8 [(0, .ref t), (1, .ref r), (2, .ref b), (3, .ref cl), (4, .int (iI (ks.length : Int))), (6, .int (iI (i9 : Int)))] → W p l e (headSpec wAS_init rmAS_init).room s m args below meth c H locs 3 576 Q (F0 m 113 ls []) := by
                intro n9
                induction n9 with
                | zero => intro i9 sz hi9 hz9 hm; exact absurd hm (Nat.not_lt_zero _)
                | succ n9 ih113 =>
                  intro i9 sz hi9 hz9 hm113 H locs hP hD hS ls hl
                  refine lv_iload hx hb dAS_init_113 (lv_at hl 5 rfl) ?_
                  refine lv_iload hx hb dAS_init_115 (lv_at hl 4 rfl) ?_
                  refine lz_icmp_ge (tgt := 158) hx hb dAS_init_117 (by decide) (by omega) (by omega) (fun c_117 => ?_) (fun c_117 => ?_)
                  · exact hret H locs 3 576 158 ls (sa, za, so, sz, ct, fs2, ff2, fc2, cc2, fg2, (gs.length : Int), gl4, gr4) ⟨hA9.1, by show ct = _; rw [hA9.2.1, alk_count hA9.1 hiff], fun k hk => by show sz (so k).toNat = _; rw [szI_end (sz := sz) hA9.1 (by rw [show i9 = ks.length by omega] at hz9; exact hz9) hk, alk_many hiff hk], K, hC.1, hC.2.1⟩ (hP.sub [0, 1, 2, 3, 4, 5, 6, 7, 8, 9, 10, 11, 12] rfl) (hD.sub [0, 1, 2, 3, 4, 5, 6, 7, 8, 9, 10, 11, 12] (by decide) rfl) hS (by decide) (by decide) dAS_init_158
                  · have hso2 := hA9.1 i9 (by omega)
                    refine lv_aload_n hx hb dAS_init_120 rfl (lv_at hl 0 rfl) ?_
                    refine va_get (D := D) (ci := 0) (v := .ref sa) (C := nAS) (T := fAS) (N := 3) hx hb hts iwAS hown hK hP 0 rfl rfl 0 (by decide) (hts _ (List.mem_cons_of_mem _ lkAS_15)) (fun _ h9 => h9) rfl dAS_init_121 ?_
                    refine lv_iload hx hb dAS_init_124 (lv_at hl 5 rfl) ?_
                    refine lz_ialk hx hb hK hP 1 0 rfl rfl (z := (i9 : Int)) i9 rfl (by omega) dAS_init_126 ?_
                    refine lv_istore (lv' := [(7, .int (iI (so i9))), (0, .ref t), (1, .ref r), (2, .ref b), (3, .ref cl), (4, .int (iI (ks.length : Int))), (6, .int (iI (i9 : Int)))]) hx hb dAS_init_127 hl (by decide) rfl (fun ls hl => ?_)
                    refine lv_iload hx hb dAS_init_129 (lv_at hl 0 rfl) ?_
                    refine lz_if_lt (tgt := 152) hx hb dAS_init_131 (by decide) (by omega) (fun c_131 => ?_) (fun c_131 => ?_)
                    · exact absurd c_131 (by omega)
                    · refine lv_iload hx hb dAS_init_134 (lv_at hl 0 rfl) ?_
                      refine lv_iload hx hb dAS_init_136 (lv_at hl 5 rfl) ?_
                      refine lz_icmp_ge (tgt := 152) hx hb dAS_init_138 (by decide) (by omega) (by omega) (fun c_138 => ?_) (fun c_138 => ?_)
                      · exact absurd c_138 (by omega)
                      · refine lv_aload_n hx hb dAS_init_141 rfl (lv_at hl 1 rfl) ?_
                        refine va_get (D := D) (ci := 0) (v := .ref za) (C := nAS) (T := fAS) (N := 3) hx hb hts iwAS hown hK hP 0 rfl rfl 1 (by decide) (hts _ (List.mem_cons_of_mem _ lkAS_21)) (fun _ h9 => h9) rfl dAS_init_142 ?_
                        refine lv_iload hx hb dAS_init_145 (lv_at hl 0 rfl) ?_
                        refine lv_dup2_11 hx hb dAS_init_147 rfl rfl ?_
                        refine lz_iald hx hb hK hP 2 0 rfl rfl (z := so i9) (by omega) dAS_init_148 ?_
                        refine lv_iconst (v := iI (1)) hx hb dAS_init_149 rfl ?_
                        refine lz_iadd hx hb dAS_init_150 ?_
                        refine lz_iast hx hb hK hP hD hS 2 0 rfl rfl (z := so i9) (v := (sz (so i9).toNat) + 1) (by omega) dAS_init_151 (fun H locs hP hD hS => ?_)
                        have hP : va_P D vwCl [(t, .inr (0, [.ref sa, .ref za, .int (iI ct)])), (sa, .inl (cI, ks.length, .inl (zf so))), (za, .inl (cI, ks.length, .inl (zf (zu sz (so i9).toNat ((sz (so i9).toNat) + 1))))), (r, .inr (5, [.ref a, .int (iI (ks.length : Int))])), (a, .inl (cI, n, .inl (zf f))), (cl, .inr (2, [.ref b, .ref fr, .ref ca, .int (iI cc2), .ref ge, .int (iI (gs.length : Int))])), (b, .inr (1, [.ref lf, .ref rt])), (lf, .inl (cI, 9, .inl (zf gl4))), (rt, .inl (cI, 9, .inl (zf gr4))), (fr, .inr (5, [.ref fa, .int (iI fs2)])), (fa, .inl (cI, 192, .inl (zf ff2))), (ca, .inl (cI, 192, .inl (zf fc2))), (ge, .inl (cI, 10, .inl (zf fg2))), (bf, .inl (cI, ks.length, .inl (zf fb)))] H := hP
                        have hD : va_D A [(t, .inr (0, [.ref sa, .ref za, .int (iI ct)])), (sa, .inl (cI, ks.length, .inl (zf so))), (za, .inl (cI, ks.length, .inl (zf (zu sz (so i9).toNat ((sz (so i9).toNat) + 1))))), (r, .inr (5, [.ref a, .int (iI (ks.length : Int))])), (a, .inl (cI, n, .inl (zf f))), (cl, .inr (2, [.ref b, .ref fr, .ref ca, .int (iI cc2), .ref ge, .int (iI (gs.length : Int))])), (b, .inr (1, [.ref lf, .ref rt])), (lf, .inl (cI, 9, .inl (zf gl4))), (rt, .inl (cI, 9, .inl (zf gr4))), (fr, .inr (5, [.ref fa, .int (iI fs2)])), (fa, .inl (cI, 192, .inl (zf ff2))), (ca, .inl (cI, 192, .inl (zf fc2))), (ge, .inl (cI, 10, .inl (zf fg2))), (bf, .inl (cI, ks.length, .inl (zf fb)))] := hD
                        refine lz_iinc (lv' := [(6, .int (iI ((i9 : Int) + 1))), (7, .int (iI (so i9))), (0, .ref t), (1, .ref r), (2, .ref b), (3, .ref cl), (4, .int (iI (ks.length : Int)))]) hx hb dAS_init_152 hl (k := 6) rfl (by decide) rfl (fun ls hl => ?_)
                        refine lv_goto (tgt := 113) hx hb dAS_init_155 (by decide) ?_
                        exact ih113 (i9 + 1) (zu sz (so i9).toNat (sz (so i9).toNat + 1)) (by omega) (szI_s hA9.1 (by omega) hz9) (by omega) _ _ (hP.sub [0, 1, 2, 3, 4, 5, 6, 7, 8, 9, 10, 11, 12, 13] rfl) (hD.sub [0, 1, 2, 3, 4, 5, 6, 7, 8, 9, 10, 11, 12, 13] (by decide) rfl) hS _ (lv_sub hl [2, 3, 4, 5, 6, 0] rfl)
              exact lp113 _ 0 (fun _ => 0) (Nat.zero_le _) (szI_0 so ks.length) (Nat.lt_succ_self _) _ _ (hP.sub [0, 1, 2, 3, 4, 5, 6, 7, 8, 9, 10, 11, 12, 13] rfl) (hD.sub [0, 1, 2, 3, 4, 5, 6, 7, 8, 9, 10, 11, 12, 13] (by decide) rfl) hS _ (lv_sub hl [1, 2, 3, 4, 5, 0] rfl)
            · refine lv_aload_n hx hb dAS_init_90 rfl (lv_at hl 0 rfl) ?_
              refine lv_aload_n hx hb dAS_init_91 rfl (lv_at hl 3 rfl) ?_
              refine lv_iload hx hb dAS_init_92 (lv_at hl 6 rfl) ?_
              refine zRI.back ((va_runV (As := [.int (iI (j : Int))]) (rest := [.ref t]) ⟨hx, hb, hml, hown, hts⟩ (mCL_generator l D cI cG cl b lf rt fr fa ca ge cc2 fg2 gs (j : Int) hC.2.2.2.2.2.1 (by omega) (by omega)) (cwV 1 hts (gT1 lkAS_44 (gT1 imCL_generator (gT1 seCL_generator (gT1 iniCL (gTW kcCL_generator))))) rfl rfl rfl (by decide +kernel) ⟨Nat.le_of_ble_eq_true rfl, Nat.le_of_ble_eq_true rfl⟩) ⟨zRd_blind, va_recv hK hP (ci := 2) (q0 := 5) rfl rfl, zRd.at (wc := [(cl, .inr (2, [.ref b, .ref fr, .ref ca, .int (iI cc2), .ref ge, .int (iI (gs.length : Int))])), (ge, .inl (cI, 10, .inl (zf fg2)))]) hK (hP.sub (ws' := [(cl, .inr (2, [.ref b, .ref fr, .ref ca, .int (iI cc2), .ref ge, .int (iI (gs.length : Int))])), (ge, .inl (cI, 10, .inl (zf fg2)))]) [5, 12] rfl) (stF.now hX hS)⟩ rfl rfl hl.1 rfl (lv_room (Nat.le_of_ble_eq_true rfl)) dAS_init_94 ⟨Nat.le_of_ble_eq_true rfl, Nat.le_of_ble_eq_true rfl⟩).run) (fun z_94 q_94 => ?_)
              obtain rfl : z_94 = gs.getD j (-1) := by have q9 : z_94 = lat gs (j : Int) := q_94; rw [q9]; exact (lat_in (by omega) (by omega)).1
              refine lv_aload_n hx hb dAS_init_97 rfl (lv_at hl 1 rfl) ?_
              refine lv_aload_n hx hb dAS_init_98 rfl (lv_at hl 2 rfl) ?_
              refine lv_aload hx hb dAS_init_99 (lv_at hl 5 rfl) ?_
              refine zV.back (va_runV (As := [.int (iI (gs.getD j (-1))), .ref r, .ref b, .ref bf]) (rest := []) ⟨hx, hb, hml, hown, hts⟩ ((mAS_joinBy l D cI cG t sa za so ct r a n f ks b lf rt gl4 gr4 bf fb (gs.getD j (-1)) h hn hG (hgs _ (getD_mem (by omega))) hA9) H.size) (cwV 4 hts (gT1 lkAS_47 (gT1 imAS_joinBy (gT1 seAS_joinBy (gT1 iniAS (gTW kcAS_joinBy))))) rfl rfl rfl (by decide +kernel) ⟨Nat.le_of_ble_eq_true rfl, Nat.le_of_ble_eq_true rfl⟩) ⟨zPre_blind, va_recv hK hP (ci := 0) (q0 := 0) rfl rfl, zPre.at (wc := [(t, .inr (0, [.ref sa, .ref za, .int (iI ct)])), (sa, .inl (cI, ks.length, .inl (zf so))), (r, .inr (5, [.ref a, .int (iI (ks.length : Int))])), (a, .inl (cI, n, .inl (zf f))), (b, .inr (1, [.ref lf, .ref rt])), (lf, .inl (cI, 9, .inl (zf gl4))), (rt, .inl (cI, 9, .inl (zf gr4))), (bf, .inl (cI, ks.length, .inl (zf fb)))]) hK hP hD hS hA hX [0, 1, 3, 4, 6, 7, 8, 13] (by decide) rfl⟩ rfl rfl hl.1 rfl (lv_room (Nat.le_of_ble_eq_true rfl)) dAS_init_101 ⟨Nat.le_of_ble_eq_true rfl, Nat.le_of_ble_eq_true rfl⟩) (wr := [(za, .inl (cI, ks.length, .inl (zf (fun _ => 0)))), (cl, .inr (2, [.ref b, .ref fr, .ref ca, .int (iI cc2), .ref ge, .int (iI (gs.length : Int))])), (fr, .inr (5, [.ref fa, .int (iI fs2)])), (fa, .inl (cI, 192, .inl (zf ff2))), (ca, .inl (cI, 192, .inl (zf fc2))), (ge, .inl (cI, 10, .inl (zf fg2)))]) hP hD hS hA [0, 1, 3, 4, 6, 7, 8, 13] [2, 5, 9, 10, 11, 12] rfl rfl (by decide) (by decide) (fun u_101 H locs q_101 hP hD hS hz_101 hk_101 => ?_)
              obtain ⟨so5, ct5, gl5, gr5, fb5⟩ := u_101
              obtain ⟨hA5, hmo5, hj5⟩ := q_101
              have hP : va_P D vwCl [(za, .inl (cI, ks.length, .inl (zf (fun _ => 0)))), (cl, .inr (2, [.ref b, .ref fr, .ref ca, .int (iI cc2), .ref ge, .int (iI (gs.length : Int))])), (fr, .inr (5, [.ref fa, .int (iI fs2)])), (fa, .inl (cI, 192, .inl (zf ff2))), (ca, .inl (cI, 192, .inl (zf fc2))), (ge, .inl (cI, 10, .inl (zf fg2))), (t, .inr (0, [.ref sa, .ref za, .int (iI ct5)])), (sa, .inl (cI, ks.length, .inl (zf so5))), (r, .inr (5, [.ref a, .int (iI (ks.length : Int))])), (a, .inl (cI, n, .inl (zf f))), (b, .inr (1, [.ref lf, .ref rt])), (lf, .inl (cI, 9, .inl (zf gl5))), (rt, .inl (cI, 9, .inl (zf gr5))), (bf, .inl (cI, ks.length, .inl (zf fb5)))] H := hP
              have hD : va_D A [(za, .inl (cI, ks.length, .inl (zf (fun _ => 0)))), (cl, .inr (2, [.ref b, .ref fr, .ref ca, .int (iI cc2), .ref ge, .int (iI (gs.length : Int))])), (fr, .inr (5, [.ref fa, .int (iI fs2)])), (fa, .inl (cI, 192, .inl (zf ff2))), (ca, .inl (cI, 192, .inl (zf fc2))), (ge, .inl (cI, 10, .inl (zf fg2))), (t, .inr (0, [.ref sa, .ref za, .int (iI ct5)])), (sa, .inl (cI, ks.length, .inl (zf so5))), (r, .inr (5, [.ref a, .int (iI (ks.length : Int))])), (a, .inl (cI, n, .inl (zf f))), (b, .inr (1, [.ref lf, .ref rt])), (lf, .inl (cI, 9, .inl (zf gl5))), (rt, .inl (cI, 9, .inl (zf gr5))), (bf, .inl (cI, ks.length, .inl (zf fb5)))] := hD
              refine lz_iinc (lv' := [(6, .int (iI ((j : Int) + 1))), (0, .ref t), (1, .ref r), (2, .ref b), (3, .ref cl), (4, .int (iI (ks.length : Int))), (5, .ref bf)]) hx hb dAS_init_104 hl (k := 6) rfl (by decide) rfl (fun ls hl => ?_)
              refine lv_goto (tgt := 81) hx hb dAS_init_107 (by decide) ?_
              exact ih81 (j + 1) so5 ct5 gl5 gr5 fb5 (by omega) hA5 (fun t ht x y hx9 hy e => by
                  rcases Nat.lt_or_ge t j with q | q
                  · exact hmo5 x y hx9 hy (hJ t q x y hx9 hy e)
                  · obtain rfl : t = j := by omega
                    exact hj5 x y hx9 hy e) (by omega) _ _ (hP.sub [6, 7, 0, 8, 9, 1, 10, 11, 12, 2, 3, 4, 5, 13] rfl) (hD.sub [6, 7, 0, 8, 9, 1, 10, 11, 12, 2, 3, 4, 5, 13] (by decide) rfl) hS _ (lv_sub hl [1, 2, 3, 4, 5, 6, 0] rfl)
        exact lp81 _ 0 so1 (ks.length : Int) gl2 gr2 (fun _ => 0) (Nat.zero_le _) hA0 (fun t ht => absurd ht (Nat.not_lt_zero _)) (Nat.lt_succ_self _) _ _ (hP.sub [0, 1, 2, 3, 4, 5, 6, 7, 8, 9, 10, 11, 12, 13] rfl) (hD.sub [0, 1, 2, 3, 4, 5, 6, 7, 8, 9, 10, 11, 12, 13] (by decide) rfl) hS _ (lv_sub hl [2, 3, 4, 5, 6, 1, 0] rfl)
      · refine lv_aload_n hx hb dAS_init_46 rfl (lv_at hl 0 rfl) ?_
        refine va_get (D := D) (ci := 0) (v := .ref sa) (C := nAS) (T := fAS) (N := 3) hx hb hts iwAS hown hK hP 0 rfl rfl 0 (by decide) (hts _ (List.mem_cons_of_mem _ lkAS_15)) (fun _ h9 => h9) rfl dAS_init_47 ?_
        refine lv_iload hx hb dAS_init_50 (lv_at hl 5 rfl) ?_
        refine lv_iload hx hb dAS_init_52 (lv_at hl 5 rfl) ?_
        refine lz_iask hx hb hK hP hD hS 1 0 rfl rfl (z := (i : Int)) (v := (i : Int)) i rfl (by omega) dAS_init_54 (fun H locs hP hD hS => ?_)
        have hP : va_P D vwCl [(t, .inr (0, [.ref sa, .ref za, .int (iI (ks.length : Int))])), (sa, .inl (cI, ks.length, .inl (zf (zu so1 i (i : Int))))), (za, .inl (cI, ks.length, .inl (zf (fun _ => 0)))), (r, .inr (5, [.ref a, .int (iI (ks.length : Int))])), (a, .inl (cI, n, .inl (zf f))), (cl, .inr (2, [.ref b, .ref fr, .ref ca, .int (iI cc2), .ref ge, .int (iI gc2)])), (b, .inr (1, [.ref lf, .ref rt])), (lf, .inl (cI, 9, .inl (zf gl2))), (rt, .inl (cI, 9, .inl (zf gr2))), (fr, .inr (5, [.ref fa, .int (iI fs2)])), (fa, .inl (cI, 192, .inl (zf ff2))), (ca, .inl (cI, 192, .inl (zf fc2))), (ge, .inl (cI, 10, .inl (zf fg2)))] H := hP
        have hD : va_D A [(t, .inr (0, [.ref sa, .ref za, .int (iI (ks.length : Int))])), (sa, .inl (cI, ks.length, .inl (zf (zu so1 i (i : Int))))), (za, .inl (cI, ks.length, .inl (zf (fun _ => 0)))), (r, .inr (5, [.ref a, .int (iI (ks.length : Int))])), (a, .inl (cI, n, .inl (zf f))), (cl, .inr (2, [.ref b, .ref fr, .ref ca, .int (iI cc2), .ref ge, .int (iI gc2)])), (b, .inr (1, [.ref lf, .ref rt])), (lf, .inl (cI, 9, .inl (zf gl2))), (rt, .inl (cI, 9, .inl (zf gr2))), (fr, .inr (5, [.ref fa, .int (iI fs2)])), (fa, .inl (cI, 192, .inl (zf ff2))), (ca, .inl (cI, 192, .inl (zf fc2))), (ge, .inl (cI, 10, .inl (zf fg2)))] := hD
        refine lv_aload_n hx hb dAS_init_55 rfl (lv_at hl 3 rfl) ?_
        refine lv_aload_n hx hb dAS_init_56 rfl (lv_at hl 1 rfl) ?_
        refine lv_iload hx hb dAS_init_57 (lv_at hl 5 rfl) ?_
        refine zRI.back ((va_runV (As := [.int (iI (i : Int))]) (rest := [.ref cl]) ⟨hx, hb, hml, hown, hts⟩ (mRO_at l D cI cG r a n f ks (i : Int) h (by omega)) (cwV 1 hts (gT1 lkAS_33 (gT1 imRO_at (gT1 seRO_at (gT1 iniRO (gTW kcRO_at))))) rfl rfl rfl (by decide +kernel) ⟨Nat.le_of_ble_eq_true rfl, Nat.le_of_ble_eq_true rfl⟩) ⟨zRd_blind, va_recv hK hP (ci := 5) (q0 := 3) rfl rfl, zRd.at (wc := [(r, .inr (5, [.ref a, .int (iI (ks.length : Int))])), (a, .inl (cI, n, .inl (zf f)))]) hK (hP.sub (ws' := [(r, .inr (5, [.ref a, .int (iI (ks.length : Int))])), (a, .inl (cI, n, .inl (zf f)))]) [3, 4] rfl) (stF.now hX hS)⟩ rfl rfl hl.1 rfl (lv_room (Nat.le_of_ble_eq_true rfl)) dAS_init_59 ⟨Nat.le_of_ble_eq_true rfl, Nat.le_of_ble_eq_true rfl⟩).run) (fun z_59 q_59 => ?_)
        obtain rfl : z_59 = ks.getD i (-1) := by have q9 : z_59 = lat ks (i : Int) := q_59; rw [q9]; exact (lat_in (by omega) (by omega)).1
        refine zI.back (va_runV (As := [.int (iI (ks.getD i (-1)))]) (rest := []) ⟨hx, hb, hml, hown, hts⟩ ((mCL_take l D cI cG cl b lf rt fr fa ca ge fs2 ff2 fc2 cc2 fg2 gc2 gl2 gr2 K cm gs (ks.getD i (-1)) hC hV (hG.2.2.1 _ (getD_mem (by omega)))) H.size) (cwV 1 hts (gT1 lkAS_37 (gT1 imCL_take (gT1 seCL_take (gT1 iniCL (gTW kcCL_take))))) rfl rfl rfl (by decide +kernel) ⟨Nat.le_of_ble_eq_true rfl, Nat.le_of_ble_eq_true rfl⟩) ⟨zPre_blind, va_recv hK hP (ci := 2) (q0 := 5) rfl rfl, zPre.at (wc := [(cl, .inr (2, [.ref b, .ref fr, .ref ca, .int (iI cc2), .ref ge, .int (iI gc2)])), (b, .inr (1, [.ref lf, .ref rt])), (lf, .inl (cI, 9, .inl (zf gl2))), (rt, .inl (cI, 9, .inl (zf gr2))), (fr, .inr (5, [.ref fa, .int (iI fs2)])), (fa, .inl (cI, 192, .inl (zf ff2))), (ca, .inl (cI, 192, .inl (zf fc2))), (ge, .inl (cI, 10, .inl (zf fg2)))]) hK hP hD hS hA hX [5, 6, 7, 8, 9, 10, 11, 12] (by decide) rfl⟩ rfl rfl hl.1 rfl (lv_room (Nat.le_of_ble_eq_true rfl)) dAS_init_62 ⟨Nat.le_of_ble_eq_true rfl, Nat.le_of_ble_eq_true rfl⟩) (wr := [(t, .inr (0, [.ref sa, .ref za, .int (iI (ks.length : Int))])), (sa, .inl (cI, ks.length, .inl (zf (zu so1 i (i : Int))))), (za, .inl (cI, ks.length, .inl (zf (fun _ => 0)))), (r, .inr (5, [.ref a, .int (iI (ks.length : Int))])), (a, .inl (cI, n, .inl (zf f)))]) hP hD hS hA [5, 6, 7, 8, 9, 10, 11, 12] [0, 1, 2, 3, 4] rfl rfl (by decide) (by decide) (fun z_62 u_62 H locs q_62 hP hD hS hz_62 hk_62 => ?_)
        obtain ⟨fs3, ff3, fc3, cc3, fg3, gc3, gl3, gr3⟩ := u_62
        have hgk : ∀ a ∈ gs ++ [ks.getD i (-1)], a ∈ ks := fun a ha => (List.mem_append.mp ha).elim (fun q => hgs a q) (fun q => by rw [List.mem_singleton.mp q]; exact getD_mem (by omega))
        obtain ⟨K2, cm2, gs2, hC2, hV2, hin2, hg2⟩ : ∃ K2 cm2 gs2, CSt fs3 ff3 fc3 cc3 fg3 gc3 K2 cm2 gs2 ∧ CIv K2 cm2 gs2 ∧ ks.getD i (-1) ∈ K2 ∧ (gs2 = gs ∨ gs2 = gs ++ [ks.getD i (-1)]) := by
          rcases q_62 with ⟨_, q⟩ | ⟨_, _, q⟩
          · exact q
          · exact absurd (hgen.sub (fun a ha => hG.2.2.1 a ha) hgk) q
        have hgs2 : ∀ a ∈ gs2, a ∈ ks := by
          rcases hg2 with q | q
          · rw [q]; exact hgs
          · rw [q]; exact hgk
        have hsubK : ∀ x ∈ K, x ∈ K2 := fun x hx9 => by
          have h1 := (hV.2.2.1.2.2.1 x).mp hx9
          refine (hV2.2.2.1.2.2.1 x).mpr ?_
          rcases hg2 with q | q
          · rw [q]; exact h1
          · rw [q]; exact Reach.mono (fun b hb9 => List.mem_append_left _ hb9) h1
        clear q_62 hgk
        have hP : va_P D vwCl [(t, .inr (0, [.ref sa, .ref za, .int (iI (ks.length : Int))])), (sa, .inl (cI, ks.length, .inl (zf (zu so1 i (i : Int))))), (za, .inl (cI, ks.length, .inl (zf (fun _ => 0)))), (r, .inr (5, [.ref a, .int (iI (ks.length : Int))])), (a, .inl (cI, n, .inl (zf f))), (cl, .inr (2, [.ref b, .ref fr, .ref ca, .int (iI cc3), .ref ge, .int (iI gc3)])), (b, .inr (1, [.ref lf, .ref rt])), (lf, .inl (cI, 9, .inl (zf gl3))), (rt, .inl (cI, 9, .inl (zf gr3))), (fr, .inr (5, [.ref fa, .int (iI fs3)])), (fa, .inl (cI, 192, .inl (zf ff3))), (ca, .inl (cI, 192, .inl (zf fc3))), (ge, .inl (cI, 10, .inl (zf fg3)))] H := hP
        have hD : va_D A [(t, .inr (0, [.ref sa, .ref za, .int (iI (ks.length : Int))])), (sa, .inl (cI, ks.length, .inl (zf (zu so1 i (i : Int))))), (za, .inl (cI, ks.length, .inl (zf (fun _ => 0)))), (r, .inr (5, [.ref a, .int (iI (ks.length : Int))])), (a, .inl (cI, n, .inl (zf f))), (cl, .inr (2, [.ref b, .ref fr, .ref ca, .int (iI cc3), .ref ge, .int (iI gc3)])), (b, .inr (1, [.ref lf, .ref rt])), (lf, .inl (cI, 9, .inl (zf gl3))), (rt, .inl (cI, 9, .inl (zf gr3))), (fr, .inr (5, [.ref fa, .int (iI fs3)])), (fa, .inl (cI, 192, .inl (zf ff3))), (ca, .inl (cI, 192, .inl (zf fc3))), (ge, .inl (cI, 10, .inl (zf fg3)))] := hD
        refine lv_pop hx hb dAS_init_65 rfl ?_
        refine lz_iinc (lv' := [(5, .int (iI ((i : Int) + 1))), (0, .ref t), (1, .ref r), (2, .ref b), (3, .ref cl), (4, .int (iI (ks.length : Int)))]) hx hb dAS_init_66 hl (k := 5) rfl (by decide) rfl (fun ls hl => ?_)
        refine lv_goto (tgt := 39) hx hb dAS_init_69 (by decide) ?_
        exact ih39 (i + 1) (zu so1 i (i : Int)) fs3 ff3 fc3 cc3 fg3 gc3 gl3 gr3 K2 cm2 gs2 (by omega) (fun j hj => by
            rcases Nat.lt_or_ge j i with q | q
            · rw [zu_n _ _ (by omega)]; exact hso j q
            · obtain rfl : j = i := by omega
              rw [zu_s]) hC2 hV2 hgs2 (fun j hj => by
            rcases Nat.lt_or_ge j i with q | q
            · exact hsubK _ (hKi j q)
            · obtain rfl : j = i := by omega
              exact hin2) (by omega) _ _ (hP.sub [0, 1, 2, 3, 4, 5, 6, 7, 8, 9, 10, 11, 12] rfl) (hD.sub [0, 1, 2, 3, 4, 5, 6, 7, 8, 9, 10, 11, 12] (by decide) rfl) hS _ (lv_sub hl [1, 2, 3, 4, 5, 0] rfl)
  exact lp39 _ 0 (fun _ => 0) fs1 ff1 fc1 cc1 fg1 gc1 gl1 gr1 ([u0]) ([u0]) ([]) (Nat.zero_le _) (fun j hj => absurd hj (Nat.not_lt_zero _)) q_33 CIv.start (fun a ha => absurd ha List.not_mem_nil) (fun j hj => absurd hj (Nat.not_lt_zero _)) (Nat.lt_succ_self _) _ _ (hP.sub [0, 3, 4, 1, 2, 5, 6, 7, 8, 9, 10, 11, 12] rfl) (hD.sub [0, 3, 4, 1, 2, 5, 6, 7, 8, 9, 10, 11, 12] (by decide) rfl) hS _ (lv_sub hl [2, 3, 4, 5, 1, 0] rfl)
end
section
/-! HALVES: codes of cosets of the squares. -/
/-- a group within, that has all squares -/
def sqG (ks K : List Int) : Prop := isG K ∧ (∀ x ∈ K, x ∈ ks) ∧ ∀ x ∈ ks, timesK x x ∈ K
theorem sqG.comm {ks K : List Int} (hG : isG ks) (h : sqG ks K) {x y : Int} (hx : x ∈ ks) (hy : y ∈ ks) : ∃ c ∈ K, timesK x y = timesK c (timesK y x) := by
  obtain ⟨xi, hxi, ex1, ex2⟩ := hG.inv hx
  obtain ⟨yi, hyi, ey1, ey2⟩ := hG.inv hy
  have m := hG.2.2.2
  have hxy := m _ hx _ hy
  have hyx := m _ hy _ hx
  -- c = x x (xi y) (xi y) (yi yi)
  have hw := m _ hxi _ hy
  have h1 := h.2.2 x hx
  have h2 := h.2.2 _ hw
  have h3 := h.2.2 yi hyi
  refine ⟨timesK (timesK (timesK x x) (timesK (timesK xi y) (timesK xi y))) (timesK yi yi), h.1.2.2.2 _ (h.1.2.2.2 _ h1 _ h2) _ h3, ?_⟩
  have a1 : timesK (timesK x x) (timesK (timesK xi y) (timesK xi y)) = timesK (timesK x y) (timesK xi y) := by
    rw [hG.assoc hx hx (m _ hw _ hw), ← hG.assoc hx hw hw, ← hG.assoc hx hxi hy, ex1, hG.ul hy, ← hG.assoc hx hy hw]
  rw [a1, hG.assoc (m _ hxy _ hw) (m _ hyi _ hyi) hyx, hG.assoc hyi hyi hyx, ← hG.assoc hyi hy hx, ey2, hG.ul hx, hG.assoc hxy hw (m _ hyi _ hx), hG.assoc hxi hy (m _ hyi _ hx), ← hG.assoc hy hyi hx, ey1, hG.ul hx, ex2, hG.ur hxy]
def HIv (ks K : List Int) (co : Nat → Int) (b : Nat) : Prop :=
  (∀ x, x < ks.length → co x = -1 ∨ (0 ≤ co x ∧ (co x).toNat < 2 ^ b)) ∧
  (∀ x, x < ks.length → (co x = 0 ↔ ks.getD x (-1) ∈ K)) ∧
  (∀ x y z, x < ks.length → y < ks.length → z < ks.length → co x ≠ -1 → co y ≠ -1 → timesK (ks.getD x (-1)) (ks.getD y (-1)) = ks.getD z (-1) → co z = (((co x).toNat ^^^ (co y).toNat : Nat) : Int)) ∧
  (∀ v : Nat, v < 2 ^ b → ∃ x, x < ks.length ∧ co x = (v : Int)) ∧
  ∀ t, t < b → ∃ e, e < ks.length ∧ co e = ((2 ^ t : Nat) : Int) ∧ ∀ j, j < e → co j ≠ -1 ∧ (co j).toNat < 2 ^ t
theorem HIv.inv {ks K : List Int} (hG : isG ks) (hq : sqG ks K) {co : Nat → Int} {b : Nat} (h : HIv ks K co b) {x xi : Nat} (hx : x < ks.length) (hxi : xi < ks.length) (hc : co x ≠ -1) (e : timesK (ks.getD x (-1)) (ks.getD xi (-1)) = u0) : co xi = co x := by
  have mx := getD_mem hx
  have mi := getD_mem hxi
  obtain ⟨s, hs, es⟩ := mem_getD (hq.2.1 _ (hq.2.2 _ mi))
  have hs0 : co s = 0 := (h.2.1 s hs).mpr (by rw [es]; exact hq.2.2 _ mi)
  have hp : timesK (ks.getD x (-1)) (ks.getD s (-1)) = ks.getD xi (-1) := by rw [es, ← hG.assoc mx mi mi, e, hG.ul mi]
  have := h.2.2.1 x s xi hx hs hxi hc (by rw [hs0]; decide) hp
  rw [hs0] at this
  have hxx := h.1 x hx
  rw [this]
  simp
  omega
theorem HIv.out {ks K : List Int} (hG : isG ks) (hq : sqG ks K) {co : Nat → Int} {b : Nat} (h : HIv ks K co b) {x i z : Nat} (hx : x < ks.length) (hi : i < ks.length) (hz : z < ks.length) (hc : co x ≠ -1) (hci : co i = -1) (e : timesK (ks.getD x (-1)) (ks.getD i (-1)) = ks.getD z (-1)) : co z = -1 := by
  apply Classical.byContradiction
  intro hcz
  have mx := getD_mem hx
  have mi := getD_mem hi
  obtain ⟨d, hd, e1, e2⟩ := hG.inv mx
  obtain ⟨xi, hxi, exi⟩ := mem_getD hd
  have hcx := h.inv hG hq hx hxi hc (by rw [exi]; exact e1)
  have hp : timesK (ks.getD xi (-1)) (ks.getD z (-1)) = ks.getD i (-1) := by rw [exi, ← e, ← hG.assoc hd mx mi, e2, hG.ul mi]
  have := h.2.2.1 xi z i hxi hz hi (by rw [hcx]; exact hc) hcz hp
  omega
/-- one more bit -/
def HAdd (ks : List Int) (co co' : Nat → Int) (b i : Nat) : Prop :=
  (∀ x, x < ks.length → co x ≠ -1 → co' x = co x) ∧
  (∀ x z, x < ks.length → z < ks.length → co x ≠ -1 → timesK (ks.getD x (-1)) (ks.getD i (-1)) = ks.getD z (-1) → co' z = co x + ((2 ^ b : Nat) : Int)) ∧
  ∀ z, z < ks.length → co' z ≠ -1 → co z ≠ -1 ∨ ∃ x, x < ks.length ∧ co x ≠ -1 ∧ timesK (ks.getD x (-1)) (ks.getD i (-1)) = ks.getD z (-1)
theorem add_xor {c b : Nat} (hc : c < 2 ^ b) : c + 2 ^ b = c ^^^ 2 ^ b := by
  rw [← Nat.or_two_pow_eq_add_of_lt hc]
  refine Nat.eq_of_testBit_eq fun i => ?_
  rw [Nat.testBit_or, Nat.testBit_xor, Nat.testBit_two_pow]
  by_cases h : b = i
  · subst h
    rw [Nat.testBit_lt_two_pow hc]
    simp
  · simp [h]
theorem xor_add1 {a c b : Nat} (ha : a < 2 ^ b) (hc : c < 2 ^ b) : a ^^^ (c + 2 ^ b) = (a ^^^ c) + 2 ^ b := by
  rw [add_xor hc, add_xor (Nat.xor_lt_two_pow ha hc), Nat.xor_assoc]
theorem xor_add2 {a c b : Nat} (ha : a < 2 ^ b) (hc : c < 2 ^ b) : (a + 2 ^ b) ^^^ (c + 2 ^ b) = a ^^^ c := by
  rw [add_xor hc, add_xor ha, Nat.xor_assoc, Nat.xor_comm (2 ^ b), Nat.xor_assoc, Nat.xor_self, Nat.xor_zero]
theorem xor_add3 {a c b : Nat} (ha : a < 2 ^ b) (hc : c < 2 ^ b) : (a + 2 ^ b) ^^^ c = (a ^^^ c) + 2 ^ b := by
  rw [Nat.xor_comm, xor_add1 hc ha, Nat.xor_comm]
/-- within the coded ones: products with one of the squares' group keep the code -/
theorem HIv.kmul {ks K : List Int} {co : Nat → Int} {b : Nat} (h : HIv ks K co b) {c y z : Nat} (hc : c < ks.length) (hy : y < ks.length) (hz : z < ks.length) (hcK : ks.getD c (-1) ∈ K) (hcy : co y ≠ -1) (e : timesK (ks.getD c (-1)) (ks.getD y (-1)) = ks.getD z (-1)) : co z = co y := by
  have h0 := (h.2.1 c hc).mpr hcK
  have := h.2.2.1 c y z hc hy hz (by rw [h0]; decide) hcy e
  rw [h0] at this
  have hyy := h.1 y hy
  rw [this]
  simp
  omega
theorem HIv.add {ks K : List Int} (hG : isG ks) (hnd : ks.Nodup) (hq : sqG ks K) {co co' : Nat → Int} {b i : Nat} (h : HIv ks K co b) (hi : i < ks.length) (hci : co i = -1) (hbe : ∀ j, j < i → co j ≠ -1) (ha : HAdd ks co co' b i) : HIv ks K co' (b + 1) ∧ co' i = ((2 ^ b : Nat) : Int) := by
  obtain ⟨a1, a2, a3⟩ := ha
  have m := hG.2.2.2
  have hp2 : 2 ^ (b + 1) = 2 ^ b + 2 ^ b := by rw [Nat.pow_succ]; omega
  have hpos : 0 < 2 ^ b := Nat.two_pow_pos b
  have mi := getD_mem hi
  -- every coded one is of the first or the second kind
  have kind : ∀ z, z < ks.length → co' z ≠ -1 → (co z ≠ -1 ∧ co' z = co z) ∨ (co z = -1 ∧ ∃ x, x < ks.length ∧ co x ≠ -1 ∧ timesK (ks.getD x (-1)) (ks.getD i (-1)) = ks.getD z (-1) ∧ co' z = co x + ((2 ^ b : Nat) : Int)) := by
    intro z hz hc
    by_cases q : co z = -1
    · refine Or.inr ⟨q, ?_⟩
      rcases a3 z hz hc with q2 | ⟨x, hx, hcx, e⟩
      · exact absurd q q2
      · exact ⟨x, hx, hcx, e, a2 x z hx hz hcx e⟩
    · exact Or.inl ⟨q, a1 z hz q⟩
  have rng : ∀ x, x < ks.length → co x ≠ -1 → 0 ≤ co x ∧ (co x).toNat < 2 ^ b := fun x hx hc => (h.1 x hx).resolve_left hc
  have hidx : ∀ x y, x < ks.length → y < ks.length → ∃ z, z < ks.length ∧ ks.getD z (-1) = timesK (ks.getD x (-1)) (ks.getD y (-1)) := fun x y hx hy => mem_getD (m _ (getD_mem hx) _ (getD_mem hy))
  -- i y = y' i with the code of y
  have swap : ∀ y, y < ks.length → co y ≠ -1 → ∃ y', y' < ks.length ∧ co y' = co y ∧ timesK (ks.getD i (-1)) (ks.getD y (-1)) = timesK (ks.getD y' (-1)) (ks.getD i (-1)) := by
    intro y hy hcy
    obtain ⟨c, hc, e⟩ := hq.comm hG mi (getD_mem hy)
    obtain ⟨c1, hc1, ec⟩ := mem_getD (hq.2.1 c hc)
    obtain ⟨y', hy', ey⟩ := mem_getD (m _ (hq.2.1 c hc) _ (getD_mem hy))
    refine ⟨y', hy', h.kmul hc1 hy hy' (by rw [ec]; exact hc) hcy (by rw [ec, ey]), ?_⟩
    rw [e, ey, hG.assoc (hq.2.1 c hc) (getD_mem hy) mi]
  have ui : co' i = ((2 ^ b : Nat) : Int) := by
    obtain ⟨u, hu, eu⟩ := mem_getD hG.2.1
    have hu0 : co u = 0 := (h.2.1 u hu).mpr (by rw [eu]; exact hq.1.2.1)
    have := a2 u i hu hi (by rw [hu0]; decide) (by rw [eu]; exact hG.ul mi)
    rw [this, hu0]; omega
  refine ⟨⟨?_, ?_, ?_, ?_, ?_⟩, ui⟩
  · intro x hx
    by_cases q : co' x = -1
    · exact Or.inl q
    · refine Or.inr ?_
      rcases kind x hx q with ⟨c, e⟩ | ⟨_, y, hy, c, _, e⟩
      · have := rng x hx c
        rw [e, hp2]; omega
      · have := rng y hy c
        rw [e, hp2]; omega
  · intro x hx
    constructor
    · intro q
      rcases kind x hx (by rw [q]; decide) with ⟨c, e⟩ | ⟨_, y, hy, c, _, e⟩
      · exact (h.2.1 x hx).mp (by rw [← e]; exact q)
      · have := rng y hy c
        omega
    · intro q
      have := (h.2.1 x hx).mpr q
      rw [a1 x hx (by rw [this]; decide), this]
  · intro x y z hx hy hz hcx hcy e
    have mx := getD_mem hx
    have my := getD_mem hy
    rcases kind x hx hcx with ⟨cx, ex⟩ | ⟨_, x0, hx0, cx, px, ex⟩
    · rcases kind y hy hcy with ⟨cy, ey⟩ | ⟨_, y0, hy0, cy, py, ey⟩
      · have hz2 := h.2.2.1 x y z hx hy hz cx cy e
        rw [a1 z hz (by rw [hz2]; omega), hz2, ex, ey]
      · obtain ⟨w, hw, ew⟩ := hidx x y0 hx hy0
        have hw2 := h.2.2.1 x y0 w hx hy0 hw cx cy ew.symm
        have r1 := rng x hx cx
        have r2 := rng y0 hy0 cy
        have := a2 w z hw hz (by rw [hw2]; omega) (by rw [ew, hG.assoc mx (getD_mem hy0) mi, py, e])
        rw [this, hw2, ex, ey, show (co y0 + ((2 ^ b : Nat) : Int)).toNat = (co y0).toNat + 2 ^ b by omega, xor_add1 r1.2 r2.2]
        omega
    · have r1 := rng x0 hx0 cx
      have mx0 := getD_mem hx0
      rcases kind y hy hcy with ⟨cy, ey⟩ | ⟨_, y0, hy0, cy, py, ey⟩
      · have r2 := rng y hy cy
        obtain ⟨y', hy', cy', esw⟩ := swap y hy cy
        obtain ⟨w, hw, ew⟩ := hidx x0 y' hx0 hy'
        have hw2 := h.2.2.1 x0 y' w hx0 hy' hw cx (by rw [cy']; exact cy) ew.symm
        have := a2 w z hw hz (by rw [hw2]; omega) (by rw [ew, hG.assoc mx0 (getD_mem hy') mi, ← esw, ← hG.assoc mx0 mi my, px, e])
        rw [this, hw2, ex, ey, cy', show (co x0 + ((2 ^ b : Nat) : Int)).toNat = (co x0).toNat + 2 ^ b by omega, xor_add3 r1.2 r2.2]
        omega
      · have r2 := rng y0 hy0 cy
        obtain ⟨y', hy', cy', esw⟩ := swap y0 hy0 cy
        obtain ⟨w, hw, ew⟩ := hidx x0 y' hx0 hy'
        have hw2 := h.2.2.1 x0 y' w hx0 hy' hw cx (by rw [cy']; exact cy) ew.symm
        obtain ⟨s, hs, es⟩ := mem_getD (hq.2.1 _ (hq.2.2 _ mi))
        have hs0 : co s = 0 := (h.2.1 s hs).mpr (by rw [es]; exact hq.2.2 _ mi)
        have ez : timesK (ks.getD w (-1)) (ks.getD s (-1)) = ks.getD z (-1) := by
          have my0 := getD_mem hy0
          rw [ew, es, hG.assoc mx0 (getD_mem hy') (m _ mi _ mi), ← hG.assoc (getD_mem hy') mi mi, ← esw, hG.assoc mi my0 mi, py, ← hG.assoc mx0 mi my, px, e]
        have hz2 := h.2.2.1 w s z hw hs hz (by rw [hw2]; omega) (by rw [hs0]; decide) ez
        rw [a1 z hz (by rw [hz2]; omega), hz2, hs0, hw2, ex, ey, cy', show (co x0 + ((2 ^ b : Nat) : Int)).toNat = (co x0).toNat + 2 ^ b by omega, show (co y0 + ((2 ^ b : Nat) : Int)).toNat = (co y0).toNat + 2 ^ b by omega, xor_add2 r1.2 r2.2]
        simp
  · intro v hv
    rcases Nat.lt_or_ge v (2 ^ b) with q | q
    · obtain ⟨x, hx, e⟩ := h.2.2.2.1 v q
      exact ⟨x, hx, by rw [a1 x hx (by rw [e]; omega), e]⟩
    · obtain ⟨x, hx, e⟩ := h.2.2.2.1 (v - 2 ^ b) (by omega)
      obtain ⟨z, hz, ez⟩ := hidx x i hx hi
      exact ⟨z, hz, by rw [a2 x z hx hz (by rw [e]; omega) ez.symm, e]; omega⟩
  · intro t ht
    rcases Nat.lt_or_ge t b with q | q
    · obtain ⟨e, he, ee, eb⟩ := h.2.2.2.2 t q
      have hpt := Nat.two_pow_pos t
      refine ⟨e, he, by rw [a1 e he (by rw [ee]; omega), ee], fun j hj => ?_⟩
      have := eb j hj
      rw [a1 j (by omega) this.1]
      exact this
    · obtain rfl : t = b := by omega
      refine ⟨i, hi, ui, fun j hj => ?_⟩
      have hj2 := hbe j hj
      rw [a1 j (by omega) hj2]
      exact ⟨hj2, (rng j (by omega) hj2).2⟩
/-- at the start: the squares' group alone -/
theorem HIv.start {ks K : List Int} (hG : isG ks) (hq : sqG ks K) {co : Nat → Int} (h : ∀ x, x < ks.length → (ks.getD x (-1) ∈ K ∧ co x = 0) ∨ (ks.getD x (-1) ∉ K ∧ co x = -1)) : HIv ks K co 0 := by
  refine ⟨fun x hx => ?_, fun x hx => ?_, fun x y z hx hy hz hcx hcy e => ?_, fun v hv => ?_, fun t ht => absurd ht (Nat.not_lt_zero _)⟩
  · rcases h x hx with ⟨_, q⟩ | ⟨_, q⟩
    · exact Or.inr (by rw [q]; decide)
    · exact Or.inl q
  · rcases h x hx with ⟨q1, q⟩ | ⟨q1, q⟩
    · exact ⟨fun _ => q1, fun _ => q⟩
    · exact ⟨fun g => by omega, fun g => absurd g q1⟩
  · have fx := (h x hx).resolve_right (fun q => hcx q.2)
    have fy := (h y hy).resolve_right (fun q => hcy q.2)
    have fz : ks.getD z (-1) ∈ K := by rw [← e]; exact hq.1.2.2.2 _ fx.1 _ fy.1
    have fz2 := (h z hz).resolve_right (fun q => q.1 fz)
    rw [fz2.2, fx.2, fy.2]; rfl
  · obtain rfl : v = 0 := by simpa using hv
    obtain ⟨u, hu, eu⟩ := mem_getD hG.2.1
    have := (h u hu).resolve_right (fun q => q.1 (by rw [eu]; exact hq.1.2.1))
    exact ⟨u, hu, by rw [this.2]; rfl⟩
theorem HIv.bits {ks K : List Int} {co : Nat → Int} {b : Nat} (h : HIv ks K co b) (hl : ks.length ≤ 192) : b < 8 := by
  refine pow_small (k := ks.length) ?_ hl
  have hc : ∀ v : Nat, ∃ x : Nat, v < 2 ^ b → x < ks.length ∧ co x = (v : Int) := fun v => by
    by_cases q : v < 2 ^ b
    · obtain ⟨x, hx⟩ := h.2.2.2.1 v q
      exact ⟨x, fun _ => hx⟩
    · exact ⟨0, fun q2 => absurd q2 q⟩
  have := len_sub ((List.range (2 ^ b)).map fun (v : Nat) => ((Classical.choose (hc v) : Nat) : Int)) ((List.range ks.length).map fun (v : Nat) => (v : Int)) ?_ ?_
  · simpa using this
  · rw [List.nodup_iff_pairwise_ne, List.pairwise_map]
    have hn : (List.range (2 ^ b)).Pairwise (fun a b => a < b) := List.pairwise_lt_range
    refine (List.Pairwise.and_mem.mp hn).imp fun {a c} hac e => ?_
    have e1 := Classical.choose_spec (hc a) (List.mem_range.mp hac.1)
    have e2 := Classical.choose_spec (hc c) (List.mem_range.mp hac.2.1)
    have : Classical.choose (hc a) = Classical.choose (hc c) := by omega
    rw [this] at e1
    have := hac.2.2
    omega
  · intro x hx
    obtain ⟨v, hv, rfl⟩ := List.mem_map.mp hx
    have e1 := Classical.choose_spec (hc v) (List.mem_range.mp hv)
    exact List.mem_map.mpr ⟨_, List.mem_range.mpr e1.1, rfl⟩
end
section
/-! bits: written by wip/whole/genbits.py -/
theorem dJI_bitCount_0 : decode cJI_bitCount 0 = .ok (.iload_n 0, 1) := by decide +kernel
theorem dJI_bitCount_1 : decode cJI_bitCount 1 = .ok (.iload_n 0, 1) := by decide +kernel
theorem dJI_bitCount_2 : decode cJI_bitCount 2 = .ok (.iconst 1, 1) := by decide +kernel
theorem dJI_bitCount_3 : decode cJI_bitCount 3 = .ok (.iushr, 1) := by decide +kernel
theorem dJI_bitCount_4 : decode cJI_bitCount 4 = .ok (.ldc_w 265, 3) := by decide +kernel
theorem dJI_bitCount_7 : decode cJI_bitCount 7 = .ok (.iand, 1) := by decide +kernel
theorem dJI_bitCount_8 : decode cJI_bitCount 8 = .ok (.isub, 1) := by decide +kernel
theorem dJI_bitCount_9 : decode cJI_bitCount 9 = .ok (.istore_n 0, 1) := by decide +kernel
theorem dJI_bitCount_10 : decode cJI_bitCount 10 = .ok (.iload_n 0, 1) := by decide +kernel
theorem dJI_bitCount_11 : decode cJI_bitCount 11 = .ok (.ldc_w 266, 3) := by decide +kernel
theorem dJI_bitCount_14 : decode cJI_bitCount 14 = .ok (.iand, 1) := by decide +kernel
theorem dJI_bitCount_15 : decode cJI_bitCount 15 = .ok (.iload_n 0, 1) := by decide +kernel
theorem dJI_bitCount_16 : decode cJI_bitCount 16 = .ok (.iconst 2, 1) := by decide +kernel
theorem dJI_bitCount_17 : decode cJI_bitCount 17 = .ok (.iushr, 1) := by decide +kernel
theorem dJI_bitCount_18 : decode cJI_bitCount 18 = .ok (.ldc_w 266, 3) := by decide +kernel
theorem dJI_bitCount_21 : decode cJI_bitCount 21 = .ok (.iand, 1) := by decide +kernel
theorem dJI_bitCount_22 : decode cJI_bitCount 22 = .ok (.iadd, 1) := by decide +kernel
theorem dJI_bitCount_23 : decode cJI_bitCount 23 = .ok (.istore_n 0, 1) := by decide +kernel
theorem dJI_bitCount_24 : decode cJI_bitCount 24 = .ok (.iload_n 0, 1) := by decide +kernel
theorem dJI_bitCount_25 : decode cJI_bitCount 25 = .ok (.iload_n 0, 1) := by decide +kernel
theorem dJI_bitCount_26 : decode cJI_bitCount 26 = .ok (.iconst 4, 1) := by decide +kernel
theorem dJI_bitCount_27 : decode cJI_bitCount 27 = .ok (.iushr, 1) := by decide +kernel
theorem dJI_bitCount_28 : decode cJI_bitCount 28 = .ok (.iadd, 1) := by decide +kernel
theorem dJI_bitCount_29 : decode cJI_bitCount 29 = .ok (.ldc_w 267, 3) := by decide +kernel
theorem dJI_bitCount_32 : decode cJI_bitCount 32 = .ok (.iand, 1) := by decide +kernel
theorem dJI_bitCount_33 : decode cJI_bitCount 33 = .ok (.istore_n 0, 1) := by decide +kernel
theorem dJI_bitCount_34 : decode cJI_bitCount 34 = .ok (.iload_n 0, 1) := by decide +kernel
theorem dJI_bitCount_35 : decode cJI_bitCount 35 = .ok (.iload_n 0, 1) := by decide +kernel
theorem dJI_bitCount_36 : decode cJI_bitCount 36 = .ok (.bipush 8, 2) := by decide +kernel
theorem dJI_bitCount_38 : decode cJI_bitCount 38 = .ok (.iushr, 1) := by decide +kernel
theorem dJI_bitCount_39 : decode cJI_bitCount 39 = .ok (.iadd, 1) := by decide +kernel
theorem dJI_bitCount_40 : decode cJI_bitCount 40 = .ok (.istore_n 0, 1) := by decide +kernel
theorem dJI_bitCount_41 : decode cJI_bitCount 41 = .ok (.iload_n 0, 1) := by decide +kernel
theorem dJI_bitCount_42 : decode cJI_bitCount 42 = .ok (.iload_n 0, 1) := by decide +kernel
theorem dJI_bitCount_43 : decode cJI_bitCount 43 = .ok (.bipush 16, 2) := by decide +kernel
theorem dJI_bitCount_45 : decode cJI_bitCount 45 = .ok (.iushr, 1) := by decide +kernel
theorem dJI_bitCount_46 : decode cJI_bitCount 46 = .ok (.iadd, 1) := by decide +kernel
theorem dJI_bitCount_47 : decode cJI_bitCount 47 = .ok (.istore_n 0, 1) := by decide +kernel
theorem dJI_bitCount_48 : decode cJI_bitCount 48 = .ok (.iload_n 0, 1) := by decide +kernel
theorem dJI_bitCount_49 : decode cJI_bitCount 49 = .ok (.bipush 63, 2) := by decide +kernel
theorem dJI_bitCount_51 : decode cJI_bitCount 51 = .ok (.iand, 1) := by decide +kernel
theorem dJI_bitCount_52 : decode cJI_bitCount 52 = .ok (.ireturn, 1) := by decide +kernel
theorem kcJI_ok : True := trivial
def pcN (n : Nat) : Nat := n % 2 + n / 2 % 2 + n / 4 % 2 + n / 8 % 2 + n / 16 % 2 + n / 32 % 2 + n / 64 % 2
def bcS (x y : Int32) : Int32 := (x.toUInt32 >>> (y.toUInt32 &&& Int32.toUInt32 31)).toInt32
def bc1 (x : Int32) : Int32 := x - (bcS x (iI 1) &&& 1431655765)
def bc2 (x : Int32) : Int32 := (x &&& 858993459) + (bcS x (iI 2) &&& 858993459)
def bc3 (x : Int32) : Int32 := (x + bcS x (iI 4)) &&& 252645135
def bc4 (x : Int32) : Int32 := x + bcS x (iI 8)
def bc5 (x : Int32) : Int32 := x + bcS x (iI 16)
def bc6 (x : Int32) : Int32 := x &&& iI 63
theorem bc_ok : ∀ n : Nat, n < 128 → bc6 (bc5 (bc4 (bc3 (bc2 (bc1 (iI (n : Int))))))) = iI ((pcN n : Nat) : Int) := by decide +kernel
theorem and_ok : ∀ a : Nat, a < 128 → ∀ c : Nat, c < 128 → iI (a : Int) &&& iI (c : Int) = iI ((a &&& c : Nat) : Int) := by decide +kernel
theorem shl_ok : ∀ t : Nat, t < 8 → iI 1 <<< (iI (t : Int) &&& 31) = iI ((2 ^ t : Nat) : Int) := by decide +kernel
theorem or_ok : ∀ t : Nat, t < 8 → ∀ a : Nat, a < 128 → a < 2 ^ t → iI (a : Int) ||| iI ((2 ^ t : Nat) : Int) = iI ((a + 2 ^ t : Nat) : Int) := by decide +kernel
theorem shl1_ok : ∀ a : Nat, a < 256 → iI (a : Int) <<< (iI 1 &&& 31) = iI ((2 * a : Nat) : Int) := by decide +kernel
theorem ushr_ok : ∀ t : Nat, t < 8 → ∀ a : Nat, a < 256 → ((iI (a : Int)).toUInt32 >>> ((iI (t : Int)).toUInt32 &&& Int32.toUInt32 31)).toInt32 = iI ((a / 2 ^ t : Nat) : Int) := by decide +kernel
theorem and1_ok : ∀ a : Nat, a < 256 → iI (a : Int) &&& iI 1 = iI ((a % 2 : Nat) : Int) := by decide +kernel
theorem or1_ok : ∀ a : Nat, a < 256 → ∀ c : Nat, c < 2 → iI ((2 * a : Nat) : Int) ||| iI (c : Int) = iI ((2 * a + c : Nat) : Int) := by decide +kernel
theorem pcN_le : ∀ n : Nat, n < 128 → pcN n ≤ 7 := by decide +kernel
def rmJI_bitCount : Room := { frames := 0, cells := 0, slots := 0, locals := 0 }
set_option maxHeartbeats 4000000 in
set_option maxRecDepth 100000 in
theorem mJI_bitCount (l : Launch) (D : va_G) (cI cG : ClassId) (n : Nat) (hn : n < 128) : zRI l yJI_bitCount wJI_bitCount rmJI_bitCount D vwCl (zT cI cG) [.int (iI (n : Int))] [] (fun z => z = ((pcN n : Nat) : Int)) := by
  refine zRI.of (cc := cJI_bitCount) (maxL := 1) (rt := .int) (by decide) rfl (Nat.le_of_ble_eq_true rfl) (fun _ _ => rfl) ?_
  intro p e s m args below meth c ls Q hx hb hml hown hts hK hP hX hl hret
  have hl : lv_has ls 1 [(0, .int (iI (n : Int)))] := hl
  obtain ⟨v0, e0⟩ : ∃ v, v = iI (n : Int) := ⟨_, rfl⟩
  rw [← e0] at hl
  refine lv_iload_n hx hb dJI_bitCount_0 rfl (lv_at hl 0 rfl) ?_
  refine lv_iload_n hx hb dJI_bitCount_1 rfl (lv_at hl 0 rfl) ?_
  refine lv_iconst (v := iI 1) hx hb dJI_bitCount_2 rfl ?_
  refine lv_iushr hx hb dJI_bitCount_3 rfl ?_
  refine lv_ldcw hx hb hown (hts _ (List.mem_cons_of_mem _ lkJI_265)) dJI_bitCount_4 ?_
  refine lv_iand hx hb dJI_bitCount_7 ?_
  refine lv_isub hx hb dJI_bitCount_8 ?_
  refine lv_topi (x := bc1 v0) (fun v1 e1 => ?_)
  refine lv_istore_n (lv' := [(0, .int v1)]) hx hb dJI_bitCount_9 rfl hl (by decide) rfl (fun ls hl => ?_)
  refine lv_iload_n hx hb dJI_bitCount_10 rfl (lv_at hl 0 rfl) ?_
  refine lv_ldcw hx hb hown (hts _ (List.mem_cons_of_mem _ lkJI_266)) dJI_bitCount_11 ?_
  refine lv_iand hx hb dJI_bitCount_14 ?_
  refine lv_iload_n hx hb dJI_bitCount_15 rfl (lv_at hl 0 rfl) ?_
  refine lv_iconst (v := iI 2) hx hb dJI_bitCount_16 rfl ?_
  refine lv_iushr hx hb dJI_bitCount_17 rfl ?_
  refine lv_ldcw hx hb hown (hts _ (List.mem_cons_of_mem _ lkJI_266)) dJI_bitCount_18 ?_
  refine lv_iand hx hb dJI_bitCount_21 ?_
  refine lv_iadd hx hb dJI_bitCount_22 ?_
  refine lv_topi (x := bc2 v1) (fun v2 e2 => ?_)
  refine lv_istore_n (lv' := [(0, .int v2)]) hx hb dJI_bitCount_23 rfl hl (by decide) rfl (fun ls hl => ?_)
  refine lv_iload_n hx hb dJI_bitCount_24 rfl (lv_at hl 0 rfl) ?_
  refine lv_iload_n hx hb dJI_bitCount_25 rfl (lv_at hl 0 rfl) ?_
  refine lv_iconst (v := iI 4) hx hb dJI_bitCount_26 rfl ?_
  refine lv_iushr hx hb dJI_bitCount_27 rfl ?_
  refine lv_iadd hx hb dJI_bitCount_28 ?_
  refine lv_ldcw hx hb hown (hts _ (List.mem_cons_of_mem _ lkJI_267)) dJI_bitCount_29 ?_
  refine lv_iand hx hb dJI_bitCount_32 ?_
  refine lv_topi (x := bc3 v2) (fun v3 e3 => ?_)
  refine lv_istore_n (lv' := [(0, .int v3)]) hx hb dJI_bitCount_33 rfl hl (by decide) rfl (fun ls hl => ?_)
  refine lv_iload_n hx hb dJI_bitCount_34 rfl (lv_at hl 0 rfl) ?_
  refine lv_iload_n hx hb dJI_bitCount_35 rfl (lv_at hl 0 rfl) ?_
  refine lv_bipush (v := iI 8) hx hb dJI_bitCount_36 (by decide) ?_
  refine lv_iushr hx hb dJI_bitCount_38 rfl ?_
  refine lv_iadd hx hb dJI_bitCount_39 ?_
  refine lv_topi (x := bc4 v3) (fun v4 e4 => ?_)
  refine lv_istore_n (lv' := [(0, .int v4)]) hx hb dJI_bitCount_40 rfl hl (by decide) rfl (fun ls hl => ?_)
  refine lv_iload_n hx hb dJI_bitCount_41 rfl (lv_at hl 0 rfl) ?_
  refine lv_iload_n hx hb dJI_bitCount_42 rfl (lv_at hl 0 rfl) ?_
  refine lv_bipush (v := iI 16) hx hb dJI_bitCount_43 (by decide) ?_
  refine lv_iushr hx hb dJI_bitCount_45 rfl ?_
  refine lv_iadd hx hb dJI_bitCount_46 ?_
  refine lv_topi (x := bc5 v4) (fun v5 e5 => ?_)
  refine lv_istore_n (lv' := [(0, .int v5)]) hx hb dJI_bitCount_47 rfl hl (by decide) rfl (fun ls hl => ?_)
  refine lv_iload_n hx hb dJI_bitCount_48 rfl (lv_at hl 0 rfl) ?_
  refine lv_bipush (v := iI 63) hx hb dJI_bitCount_49 (by decide) ?_
  refine lv_iand hx hb dJI_bitCount_51 ?_
  refine lv_topi (x := bc6 v5) (fun v6 e6 => ?_)
  have hf : v6 = iI ((pcN n : Nat) : Int) := by rw [e6, e5, e4, e3, e2, e1, e0]; exact bc_ok n hn
  rw [hf]
  exact hret 52 ls _ rfl dJI_bitCount_52
end
section
/-! Choosing some of a row, in order. -/
noncomputable def selT (ks : List Int) (p : Nat → Prop) : Nat → List Int
  | 0 => []
  | i + 1 => @ite (List Int) (p i) (Classical.propDecidable _) (selT ks p i ++ [ks.getD i (-1)]) (selT ks p i)
theorem selT_t {ks : List Int} {p : Nat → Prop} {i : Nat} (h : p i) : selT ks p (i + 1) = selT ks p i ++ [ks.getD i (-1)] := by
  show @ite (List Int) (p i) (Classical.propDecidable _) _ _ = _
  rw [if_pos h]
theorem selT_f {ks : List Int} {p : Nat → Prop} {i : Nat} (h : ¬ p i) : selT ks p (i + 1) = selT ks p i := by
  show @ite (List Int) (p i) (Classical.propDecidable _) _ _ = _
  rw [if_neg h]
theorem mem_selT {ks : List Int} {p : Nat → Prop} {x : Int} : ∀ {i : Nat}, x ∈ selT ks p i ↔ ∃ j, j < i ∧ p j ∧ ks.getD j (-1) = x
  | 0 => ⟨fun h => absurd h List.not_mem_nil, fun ⟨j, h, _⟩ => absurd h (Nat.not_lt_zero _)⟩
  | i + 1 => by
    have ih := mem_selT (ks := ks) (p := p) (x := x) (i := i)
    by_cases hp : p i
    · rw [selT_t hp, List.mem_append, ih]
      constructor
      · rintro (⟨j, a, b, e⟩ | q)
        · exact ⟨j, by omega, b, e⟩
        · exact ⟨i, by omega, hp, (List.mem_singleton.mp q).symm⟩
      · rintro ⟨j, a, b, e⟩
        rcases Nat.lt_or_ge j i with q | q
        · exact Or.inl ⟨j, q, b, e⟩
        · obtain rfl : j = i := by omega
          exact Or.inr (by rw [e]; exact List.mem_cons_self)
    · rw [selT_f hp, ih]
      constructor
      · rintro ⟨j, a, b, e⟩
        exact ⟨j, by omega, b, e⟩
      · rintro ⟨j, a, b, e⟩
        rcases Nat.lt_or_ge j i with q | q
        · exact ⟨j, q, b, e⟩
        · obtain rfl : j = i := by omega
          exact absurd b hp
theorem selT_sub {ks : List Int} {p : Nat → Prop} {i : Nat} (hi : i ≤ ks.length) {x : Int} (h : x ∈ selT ks p i) : x ∈ ks := by
  obtain ⟨j, a, _, e⟩ := mem_selT.mp h
  rw [← e]
  exact getD_mem (by omega)
theorem selT_sorted {ks : List Int} (hs : ks.Pairwise (· < ·)) {p : Nat → Prop} : ∀ {i : Nat}, i ≤ ks.length → (selT ks p i).Pairwise (· < ·)
  | 0, _ => List.Pairwise.nil
  | i + 1, hi => by
    have ih := selT_sorted hs (p := p) (i := i) (by omega)
    by_cases hp : p i
    · rw [selT_t hp, List.pairwise_append]
      refine ⟨ih, List.pairwise_singleton _ _, fun a ha b hb => ?_⟩
      obtain ⟨j, hj, _, e⟩ := mem_selT.mp ha
      rw [List.mem_singleton.mp hb, ← e]
      exact getD_mono hs hj (by omega)
    · rw [selT_f hp]; exact ih
theorem selT_len {ks : List Int} {p : Nat → Prop} : ∀ {i : Nat}, (selT ks p i).length = cnt p i
  | 0 => rfl
  | i + 1 => by
    have ih := selT_len (ks := ks) (p := p) (i := i)
    by_cases hp : p i
    · rw [selT_t hp, cnt_t hp, List.length_append, ih]; rfl
    · rw [selT_f hp, cnt_f hp, ih]
theorem selT_not {ks : List Int} (hs : ks.Pairwise (· < ·)) {p : Nat → Prop} {i : Nat} (hi : i < ks.length) : ks.getD i (-1) ∉ selT ks p i := by
  intro h
  obtain ⟨j, a, _, e⟩ := mem_selT.mp h
  have := getD_mono hs a hi
  omega
theorem selT_ins {ks ks2 : List Int} (hs : ks.Pairwise (· < ·)) {p : Nat → Prop} {i : Nat} (hi : i < ks.length) (hp : p i) (h2 : ks2.Pairwise (· < ·)) (hr : rowIns (selT ks p i) ks2 (ks.getD i (-1))) : ks2 = selT ks p (i + 1) := by
  refine lt_ext h2 (selT_sorted hs (by omega)) fun x => ?_
  rw [hr.1 x, selT_t hp, List.mem_append, List.mem_singleton]
end
section
/-! what a HALF refuses -/
def revB (m : Nat) : Nat → Nat
  | 0 => 0
  | t + 1 => 2 * revB m t + m / 2 ^ t % 2
theorem revB_lt (m : Nat) : ∀ t, revB m t < 2 ^ t
  | 0 => by simp [revB]
  | t + 1 => by
    have := revB_lt m t
    have h2 : m / 2 ^ t % 2 < 2 := Nat.mod_lt _ (by decide)
    rw [Nat.pow_succ]
    show 2 * revB m t + m / 2 ^ t % 2 < _
    omega
theorem pow_le128 {t : Nat} (h : t < 8) : 2 ^ t ≤ 128 := by
  have : 2 ^ t ≤ 2 ^ 7 := Nat.pow_le_pow_right (by decide) (by omega)
  exact this
/-- the adding of a bit, as far as it has come -/
def HAddT (ks : List Int) (co co1 : Nat → Int) (b i : Nat) (n : Nat) : Prop :=
  (∀ x, x < ks.length → co x ≠ -1 → co1 x = co x) ∧
  (∀ x z, x < n → x < ks.length → z < ks.length → co x ≠ -1 → timesK (ks.getD x (-1)) (ks.getD i (-1)) = ks.getD z (-1) → co1 z = co x + ((2 ^ b : Nat) : Int)) ∧
  ∀ z, z < ks.length → co1 z ≠ -1 → co z ≠ -1 ∨ ∃ x, x < n ∧ x < ks.length ∧ co x ≠ -1 ∧ timesK (ks.getD x (-1)) (ks.getD i (-1)) = ks.getD z (-1) ∧ co1 z = co x + ((2 ^ b : Nat) : Int)
theorem HAddT.start (ks : List Int) (co : Nat → Int) (b i : Nat) : HAddT ks co co b i 0 := ⟨fun _ _ _ => rfl, fun x _ h => absurd h (Nat.not_lt_zero _), fun _ _ h => Or.inl h⟩
theorem HAddT.skip {ks : List Int} {co co1 : Nat → Int} {b i n : Nat} (h : HAddT ks co co1 b i n) (hc : co n = -1) : HAddT ks co co1 b i (n + 1) := by
  refine ⟨h.1, fun x z hx hx2 hz hcx e => ?_, fun z hz hcz => ?_⟩
  · rcases Nat.lt_or_ge x n with q | q
    · exact h.2.1 x z q hx2 hz hcx e
    · obtain rfl : x = n := by omega
      exact absurd hc hcx
  · rcases h.2.2 z hz hcz with q | ⟨x, a, b, c⟩
    · exact Or.inl q
    · exact Or.inr ⟨x, by omega, b, c⟩
theorem HAddT.step {ks K : List Int} (hG : isG ks) (hnd : ks.Nodup) (hq : sqG ks K) {co co1 : Nat → Int} {b i n k : Nat} (hH : HIv ks K co b) (h : HAddT ks co co1 b i n) (hi : i < ks.length) (hci : co i = -1) (hn : n < ks.length) (hk : k < ks.length) (hc : co n ≠ -1) (e : timesK (ks.getD n (-1)) (ks.getD i (-1)) = ks.getD k (-1)) : HAddT ks co (zu co1 k (co n + ((2 ^ b : Nat) : Int))) b i (n + 1) := by
  have hck := hH.out hG hq hn hi hk hc hci e
  refine ⟨fun x hx hcx => ?_, fun x z hx hx2 hz hcx e2 => ?_, fun z hz hcz => ?_⟩
  · rw [zu_n _ _ (fun q => hcx (by rw [q]; exact hck))]; exact h.1 x hx hcx
  · by_cases q : z = k
    · subst q
      have : x = n := getD_nd hnd hx2 hn (hG.rc (getD_mem hi) (getD_mem hx2) (getD_mem hn) (e2.trans e.symm))
      rw [zu_s, this]
    · rw [zu_n _ _ q]
      rcases Nat.lt_or_ge x n with q2 | q2
      · exact h.2.1 x z q2 hx2 hz hcx e2
      · obtain rfl : x = n := by omega
        exact absurd (getD_nd hnd hz hk (e2.symm.trans e)) q
  · by_cases q : z = k
    · subst q
      exact Or.inr ⟨n, by omega, hn, hc, e, by rw [zu_s]⟩
    · rw [zu_n _ _ q] at hcz ⊢
      rcases h.2.2 z hz hcz with q2 | ⟨x, a, b, c⟩
      · exact Or.inl q2
      · exact Or.inr ⟨x, by omega, b, c⟩
theorem HAddT.done {ks : List Int} {co co1 : Nat → Int} {b i n : Nat} (h : HAddT ks co co1 b i n) (hn : ks.length ≤ n) : HAdd ks co co1 b i := by
  refine ⟨h.1, fun x z hx hz hcx e => h.2.1 x z (by omega) hx hz hcx e, fun z hz hcz => ?_⟩
  rcases h.2.2 z hz hcz with q | ⟨x, a, b, c, d, _⟩
  · exact Or.inl q
  · exact Or.inr ⟨x, b, c, d⟩
theorem HAddT.rng {ks K : List Int} {co co1 : Nat → Int} {b i n : Nat} (hH : HIv ks K co b) (h : HAddT ks co co1 b i n) (hb : b < 8) {x : Nat} (hx : x < ks.length) : -1 ≤ co1 x ∧ co1 x < 256 := by
  have hp := pow_le128 hb
  by_cases q : co1 x = -1
  · omega
  · rcases h.2.2 x hx q with q2 | ⟨y, _, hy, cy, _, e⟩
    · have := (hH.1 x hx).resolve_left q2
      rw [h.1 x hx q2]; omega
    · have := (hH.1 y hy).resolve_left cy
      rw [e]; omega
/-- a HALF of the group, by what it refuses -/
def hpar (co : Nat → Int) (m : Nat) (i : Nat) : Prop := pcN ((co i).toNat &&& m) % 2 = 0
end
section
/-! decode rows: written by wip/whole/names.py -/
theorem dHA_init_0 : decode cHA_init 0 = .ok (.aload_n 0, 1) := by decide +kernel
theorem dHA_init_1 : decode cHA_init 1 = .ok (.invokespecial 3, 3) := by decide +kernel
theorem dHA_init_4 : decode cHA_init 4 = .ok (.aload_n 0, 1) := by decide +kernel
theorem dHA_init_5 : decode cHA_init 5 = .ok (.iconst 0, 1) := by decide +kernel
theorem dHA_init_6 : decode cHA_init 6 = .ok (.putfield 9, 3) := by decide +kernel
theorem dHA_init_9 : decode cHA_init 9 = .ok (.aload_n 0, 1) := by decide +kernel
theorem dHA_init_10 : decode cHA_init 10 = .ok (.aload_n 1, 1) := by decide +kernel
theorem dHA_init_11 : decode cHA_init 11 = .ok (.invokevirtual 15, 3) := by decide +kernel
theorem dHA_init_14 : decode cHA_init 14 = .ok (.newarray .int, 2) := by decide +kernel
theorem dHA_init_16 : decode cHA_init 16 = .ok (.putfield 21, 3) := by decide +kernel
theorem dHA_init_19 : decode cHA_init 19 = .ok (.aload_n 3, 1) := by decide +kernel
theorem dHA_init_20 : decode cHA_init 20 = .ok (.invokevirtual 25, 3) := by decide +kernel
theorem dHA_init_23 : decode cHA_init 23 = .ok (.iconst 0, 1) := by decide +kernel
theorem dHA_init_24 : decode cHA_init 24 = .ok (.istore 4, 2) := by decide +kernel
theorem dHA_init_26 : decode cHA_init 26 = .ok (.iload 4, 2) := by decide +kernel
theorem dHA_init_28 : decode cHA_init 28 = .ok (.aload_n 0, 1) := by decide +kernel
theorem dHA_init_29 : decode cHA_init 29 = .ok (.getfield 21, 3) := by decide +kernel
theorem dHA_init_32 : decode cHA_init 32 = .ok (.arraylength, 1) := by decide +kernel
theorem dHA_init_33 : decode cHA_init 33 = .ok (.if_icmp .ge 30, 3) := by decide +kernel
theorem dHA_init_36 : decode cHA_init 36 = .ok (.aload_n 3, 1) := by decide +kernel
theorem dHA_init_37 : decode cHA_init 37 = .ok (.aload_n 2, 1) := by decide +kernel
theorem dHA_init_38 : decode cHA_init 38 = .ok (.aload_n 1, 1) := by decide +kernel
theorem dHA_init_39 : decode cHA_init 39 = .ok (.iload 4, 2) := by decide +kernel
theorem dHA_init_41 : decode cHA_init 41 = .ok (.invokevirtual 30, 3) := by decide +kernel
theorem dHA_init_44 : decode cHA_init 44 = .ok (.aload_n 1, 1) := by decide +kernel
theorem dHA_init_45 : decode cHA_init 45 = .ok (.iload 4, 2) := by decide +kernel
theorem dHA_init_47 : decode cHA_init 47 = .ok (.invokevirtual 30, 3) := by decide +kernel
theorem dHA_init_50 : decode cHA_init 50 = .ok (.invokevirtual 34, 3) := by decide +kernel
theorem dHA_init_53 : decode cHA_init 53 = .ok (.invokevirtual 40, 3) := by decide +kernel
theorem dHA_init_56 : decode cHA_init 56 = .ok (.pop, 1) := by decide +kernel
theorem dHA_init_57 : decode cHA_init 57 = .ok (.iinc 4 1, 3) := by decide +kernel
theorem dHA_init_60 : decode cHA_init 60 = .ok (.goto (-34), 3) := by decide +kernel
theorem dHA_init_63 : decode cHA_init 63 = .ok (.iconst 0, 1) := by decide +kernel
theorem dHA_init_64 : decode cHA_init 64 = .ok (.istore 4, 2) := by decide +kernel
theorem dHA_init_66 : decode cHA_init 66 = .ok (.iload 4, 2) := by decide +kernel
theorem dHA_init_68 : decode cHA_init 68 = .ok (.aload_n 0, 1) := by decide +kernel
theorem dHA_init_69 : decode cHA_init 69 = .ok (.getfield 21, 3) := by decide +kernel
theorem dHA_init_72 : decode cHA_init 72 = .ok (.arraylength, 1) := by decide +kernel
theorem dHA_init_73 : decode cHA_init 73 = .ok (.if_icmp .ge 37, 3) := by decide +kernel
theorem dHA_init_76 : decode cHA_init 76 = .ok (.aload_n 0, 1) := by decide +kernel
theorem dHA_init_77 : decode cHA_init 77 = .ok (.getfield 21, 3) := by decide +kernel
theorem dHA_init_80 : decode cHA_init 80 = .ok (.iload 4, 2) := by decide +kernel
theorem dHA_init_82 : decode cHA_init 82 = .ok (.aload_n 3, 1) := by decide +kernel
theorem dHA_init_83 : decode cHA_init 83 = .ok (.invokevirtual 44, 3) := by decide +kernel
theorem dHA_init_86 : decode cHA_init 86 = .ok (.aload_n 1, 1) := by decide +kernel
theorem dHA_init_87 : decode cHA_init 87 = .ok (.iload 4, 2) := by decide +kernel
theorem dHA_init_89 : decode cHA_init 89 = .ok (.invokevirtual 30, 3) := by decide +kernel
theorem dHA_init_92 : decode cHA_init 92 = .ok (.invokevirtual 48, 3) := by decide +kernel
theorem dHA_init_95 : decode cHA_init 95 = .ok (.ifCond .eq 7, 3) := by decide +kernel
theorem dHA_init_98 : decode cHA_init 98 = .ok (.iconst 0, 1) := by decide +kernel
theorem dHA_init_99 : decode cHA_init 99 = .ok (.goto 4, 3) := by decide +kernel
theorem dHA_init_102 : decode cHA_init 102 = .ok (.iconst (-1), 1) := by decide +kernel
theorem dHA_init_103 : decode cHA_init 103 = .ok (.iastore, 1) := by decide +kernel
theorem dHA_init_104 : decode cHA_init 104 = .ok (.iinc 4 1, 3) := by decide +kernel
theorem dHA_init_107 : decode cHA_init 107 = .ok (.goto (-41), 3) := by decide +kernel
theorem dHA_init_110 : decode cHA_init 110 = .ok (.iconst 0, 1) := by decide +kernel
theorem dHA_init_111 : decode cHA_init 111 = .ok (.istore 4, 2) := by decide +kernel
theorem dHA_init_113 : decode cHA_init 113 = .ok (.iload 4, 2) := by decide +kernel
theorem dHA_init_115 : decode cHA_init 115 = .ok (.aload_n 0, 1) := by decide +kernel
theorem dHA_init_116 : decode cHA_init 116 = .ok (.getfield 21, 3) := by decide +kernel
theorem dHA_init_119 : decode cHA_init 119 = .ok (.arraylength, 1) := by decide +kernel
theorem dHA_init_120 : decode cHA_init 120 = .ok (.if_icmp .ge 28, 3) := by decide +kernel
theorem dHA_init_123 : decode cHA_init 123 = .ok (.aload_n 0, 1) := by decide +kernel
theorem dHA_init_124 : decode cHA_init 124 = .ok (.getfield 21, 3) := by decide +kernel
theorem dHA_init_127 : decode cHA_init 127 = .ok (.iload 4, 2) := by decide +kernel
theorem dHA_init_129 : decode cHA_init 129 = .ok (.iaload, 1) := by decide +kernel
theorem dHA_init_130 : decode cHA_init 130 = .ok (.iconst (-1), 1) := by decide +kernel
theorem dHA_init_131 : decode cHA_init 131 = .ok (.if_icmp .ne 11, 3) := by decide +kernel
theorem dHA_init_134 : decode cHA_init 134 = .ok (.aload_n 0, 1) := by decide +kernel
theorem dHA_init_135 : decode cHA_init 135 = .ok (.iload 4, 2) := by decide +kernel
theorem dHA_init_137 : decode cHA_init 137 = .ok (.aload_n 1, 1) := by decide +kernel
theorem dHA_init_138 : decode cHA_init 138 = .ok (.aload_n 2, 1) := by decide +kernel
theorem dHA_init_139 : decode cHA_init 139 = .ok (.invokevirtual 51, 3) := by decide +kernel
theorem dHA_init_142 : decode cHA_init 142 = .ok (.iinc 4 1, 3) := by decide +kernel
theorem dHA_init_145 : decode cHA_init 145 = .ok (.goto (-32), 3) := by decide +kernel
theorem dHA_init_148 : decode cHA_init 148 = .ok (.return_, 1) := by decide +kernel
theorem dHA_addBit_0 : decode cHA_addBit 0 = .ok (.iconst 1, 1) := by decide +kernel
theorem dHA_addBit_1 : decode cHA_addBit 1 = .ok (.aload_n 0, 1) := by decide +kernel
theorem dHA_addBit_2 : decode cHA_addBit 2 = .ok (.getfield 9, 3) := by decide +kernel
theorem dHA_addBit_5 : decode cHA_addBit 5 = .ok (.ishl, 1) := by decide +kernel
theorem dHA_addBit_6 : decode cHA_addBit 6 = .ok (.istore 4, 2) := by decide +kernel
theorem dHA_addBit_8 : decode cHA_addBit 8 = .ok (.aload_n 0, 1) := by decide +kernel
theorem dHA_addBit_9 : decode cHA_addBit 9 = .ok (.dup, 1) := by decide +kernel
theorem dHA_addBit_10 : decode cHA_addBit 10 = .ok (.getfield 9, 3) := by decide +kernel
theorem dHA_addBit_13 : decode cHA_addBit 13 = .ok (.iconst 1, 1) := by decide +kernel
theorem dHA_addBit_14 : decode cHA_addBit 14 = .ok (.iadd, 1) := by decide +kernel
theorem dHA_addBit_15 : decode cHA_addBit 15 = .ok (.putfield 9, 3) := by decide +kernel
theorem dHA_addBit_18 : decode cHA_addBit 18 = .ok (.iconst 0, 1) := by decide +kernel
theorem dHA_addBit_19 : decode cHA_addBit 19 = .ok (.istore 5, 2) := by decide +kernel
theorem dHA_addBit_21 : decode cHA_addBit 21 = .ok (.iload 5, 2) := by decide +kernel
theorem dHA_addBit_23 : decode cHA_addBit 23 = .ok (.aload_n 0, 1) := by decide +kernel
theorem dHA_addBit_24 : decode cHA_addBit 24 = .ok (.getfield 21, 3) := by decide +kernel
theorem dHA_addBit_27 : decode cHA_addBit 27 = .ok (.arraylength, 1) := by decide +kernel
theorem dHA_addBit_28 : decode cHA_addBit 28 = .ok (.if_icmp .ge 85, 3) := by decide +kernel
theorem dHA_addBit_31 : decode cHA_addBit 31 = .ok (.aload_n 0, 1) := by decide +kernel
theorem dHA_addBit_32 : decode cHA_addBit 32 = .ok (.getfield 21, 3) := by decide +kernel
theorem dHA_addBit_35 : decode cHA_addBit 35 = .ok (.iload 5, 2) := by decide +kernel
theorem dHA_addBit_37 : decode cHA_addBit 37 = .ok (.iaload, 1) := by decide +kernel
theorem dHA_addBit_38 : decode cHA_addBit 38 = .ok (.iconst (-1), 1) := by decide +kernel
theorem dHA_addBit_39 : decode cHA_addBit 39 = .ok (.if_icmp .eq 68, 3) := by decide +kernel
theorem dHA_addBit_42 : decode cHA_addBit 42 = .ok (.aload_n 0, 1) := by decide +kernel
theorem dHA_addBit_43 : decode cHA_addBit 43 = .ok (.getfield 21, 3) := by decide +kernel
theorem dHA_addBit_46 : decode cHA_addBit 46 = .ok (.iload 5, 2) := by decide +kernel
theorem dHA_addBit_48 : decode cHA_addBit 48 = .ok (.iaload, 1) := by decide +kernel
theorem dHA_addBit_49 : decode cHA_addBit 49 = .ok (.iload 4, 2) := by decide +kernel
theorem dHA_addBit_51 : decode cHA_addBit 51 = .ok (.if_icmp .ge 56, 3) := by decide +kernel
theorem dHA_addBit_54 : decode cHA_addBit 54 = .ok (.aload_n 2, 1) := by decide +kernel
theorem dHA_addBit_55 : decode cHA_addBit 55 = .ok (.aload_n 3, 1) := by decide +kernel
theorem dHA_addBit_56 : decode cHA_addBit 56 = .ok (.aload_n 2, 1) := by decide +kernel
theorem dHA_addBit_57 : decode cHA_addBit 57 = .ok (.iload 5, 2) := by decide +kernel
theorem dHA_addBit_59 : decode cHA_addBit 59 = .ok (.invokevirtual 30, 3) := by decide +kernel
theorem dHA_addBit_62 : decode cHA_addBit 62 = .ok (.aload_n 2, 1) := by decide +kernel
theorem dHA_addBit_63 : decode cHA_addBit 63 = .ok (.iload_n 1, 1) := by decide +kernel
theorem dHA_addBit_64 : decode cHA_addBit 64 = .ok (.invokevirtual 30, 3) := by decide +kernel
theorem dHA_addBit_67 : decode cHA_addBit 67 = .ok (.invokevirtual 34, 3) := by decide +kernel
theorem dHA_addBit_70 : decode cHA_addBit 70 = .ok (.invokevirtual 69, 3) := by decide +kernel
theorem dHA_addBit_73 : decode cHA_addBit 73 = .ok (.istore 6, 2) := by decide +kernel
theorem dHA_addBit_75 : decode cHA_addBit 75 = .ok (.iload 6, 2) := by decide +kernel
theorem dHA_addBit_77 : decode cHA_addBit 77 = .ok (.ifCond .lt 30, 3) := by decide +kernel
theorem dHA_addBit_80 : decode cHA_addBit 80 = .ok (.iload 6, 2) := by decide +kernel
theorem dHA_addBit_82 : decode cHA_addBit 82 = .ok (.aload_n 0, 1) := by decide +kernel
theorem dHA_addBit_83 : decode cHA_addBit 83 = .ok (.getfield 21, 3) := by decide +kernel
theorem dHA_addBit_86 : decode cHA_addBit 86 = .ok (.arraylength, 1) := by decide +kernel
theorem dHA_addBit_87 : decode cHA_addBit 87 = .ok (.if_icmp .ge 20, 3) := by decide +kernel
theorem dHA_addBit_90 : decode cHA_addBit 90 = .ok (.aload_n 0, 1) := by decide +kernel
theorem dHA_addBit_91 : decode cHA_addBit 91 = .ok (.getfield 21, 3) := by decide +kernel
theorem dHA_addBit_94 : decode cHA_addBit 94 = .ok (.iload 6, 2) := by decide +kernel
theorem dHA_addBit_96 : decode cHA_addBit 96 = .ok (.aload_n 0, 1) := by decide +kernel
theorem dHA_addBit_97 : decode cHA_addBit 97 = .ok (.getfield 21, 3) := by decide +kernel
theorem dHA_addBit_100 : decode cHA_addBit 100 = .ok (.iload 5, 2) := by decide +kernel
theorem dHA_addBit_102 : decode cHA_addBit 102 = .ok (.iaload, 1) := by decide +kernel
theorem dHA_addBit_103 : decode cHA_addBit 103 = .ok (.iload 4, 2) := by decide +kernel
theorem dHA_addBit_105 : decode cHA_addBit 105 = .ok (.ior, 1) := by decide +kernel
theorem dHA_addBit_106 : decode cHA_addBit 106 = .ok (.iastore, 1) := by decide +kernel
theorem dHA_addBit_107 : decode cHA_addBit 107 = .ok (.iinc 5 1, 3) := by decide +kernel
theorem dHA_addBit_110 : decode cHA_addBit 110 = .ok (.goto (-89), 3) := by decide +kernel
theorem dHA_addBit_113 : decode cHA_addBit 113 = .ok (.return_, 1) := by decide +kernel
theorem dHA_count_0 : decode cHA_count 0 = .ok (.iconst 1, 1) := by decide +kernel
theorem dHA_count_1 : decode cHA_count 1 = .ok (.aload_n 0, 1) := by decide +kernel
theorem dHA_count_2 : decode cHA_count 2 = .ok (.getfield 9, 3) := by decide +kernel
theorem dHA_count_5 : decode cHA_count 5 = .ok (.ishl, 1) := by decide +kernel
theorem dHA_count_6 : decode cHA_count 6 = .ok (.iconst 1, 1) := by decide +kernel
theorem dHA_count_7 : decode cHA_count 7 = .ok (.isub, 1) := by decide +kernel
theorem dHA_count_8 : decode cHA_count 8 = .ok (.ireturn, 1) := by decide +kernel
theorem dHA_gather_0 : decode cHA_gather 0 = .ok (.aload_n 0, 1) := by decide +kernel
theorem dHA_gather_1 : decode cHA_gather 1 = .ok (.iload_n 1, 1) := by decide +kernel
theorem dHA_gather_2 : decode cHA_gather 2 = .ok (.invokevirtual 55, 3) := by decide +kernel
theorem dHA_gather_5 : decode cHA_gather 5 = .ok (.istore 4, 2) := by decide +kernel
theorem dHA_gather_7 : decode cHA_gather 7 = .ok (.aload_n 3, 1) := by decide +kernel
theorem dHA_gather_8 : decode cHA_gather 8 = .ok (.invokevirtual 58, 3) := by decide +kernel
theorem dHA_gather_11 : decode cHA_gather 11 = .ok (.iconst 0, 1) := by decide +kernel
theorem dHA_gather_12 : decode cHA_gather 12 = .ok (.istore 5, 2) := by decide +kernel
theorem dHA_gather_14 : decode cHA_gather 14 = .ok (.iload 5, 2) := by decide +kernel
theorem dHA_gather_16 : decode cHA_gather 16 = .ok (.aload_n 0, 1) := by decide +kernel
theorem dHA_gather_17 : decode cHA_gather 17 = .ok (.getfield 21, 3) := by decide +kernel
theorem dHA_gather_20 : decode cHA_gather 20 = .ok (.arraylength, 1) := by decide +kernel
theorem dHA_gather_21 : decode cHA_gather 21 = .ok (.if_icmp .ge 38, 3) := by decide +kernel
theorem dHA_gather_24 : decode cHA_gather 24 = .ok (.aload_n 0, 1) := by decide +kernel
theorem dHA_gather_25 : decode cHA_gather 25 = .ok (.getfield 21, 3) := by decide +kernel
theorem dHA_gather_28 : decode cHA_gather 28 = .ok (.iload 5, 2) := by decide +kernel
theorem dHA_gather_30 : decode cHA_gather 30 = .ok (.iaload, 1) := by decide +kernel
theorem dHA_gather_31 : decode cHA_gather 31 = .ok (.iload 4, 2) := by decide +kernel
theorem dHA_gather_33 : decode cHA_gather 33 = .ok (.iand, 1) := by decide +kernel
theorem dHA_gather_34 : decode cHA_gather 34 = .ok (.invokestatic 61, 3) := by decide +kernel
theorem dHA_gather_37 : decode cHA_gather 37 = .ok (.iconst 2, 1) := by decide +kernel
theorem dHA_gather_38 : decode cHA_gather 38 = .ok (.irem, 1) := by decide +kernel
theorem dHA_gather_39 : decode cHA_gather 39 = .ok (.ifCond .ne 14, 3) := by decide +kernel
theorem dHA_gather_42 : decode cHA_gather 42 = .ok (.aload_n 3, 1) := by decide +kernel
theorem dHA_gather_43 : decode cHA_gather 43 = .ok (.aload_n 2, 1) := by decide +kernel
theorem dHA_gather_44 : decode cHA_gather 44 = .ok (.iload 5, 2) := by decide +kernel
theorem dHA_gather_46 : decode cHA_gather 46 = .ok (.invokevirtual 30, 3) := by decide +kernel
theorem dHA_gather_49 : decode cHA_gather 49 = .ok (.invokevirtual 66, 3) := by decide +kernel
theorem dHA_gather_52 : decode cHA_gather 52 = .ok (.pop, 1) := by decide +kernel
theorem dHA_gather_53 : decode cHA_gather 53 = .ok (.iinc 5 1, 3) := by decide +kernel
theorem dHA_gather_56 : decode cHA_gather 56 = .ok (.goto (-42), 3) := by decide +kernel
theorem dHA_gather_59 : decode cHA_gather 59 = .ok (.return_, 1) := by decide +kernel
theorem dHA_refusedBits_0 : decode cHA_refusedBits 0 = .ok (.iconst 0, 1) := by decide +kernel
theorem dHA_refusedBits_1 : decode cHA_refusedBits 1 = .ok (.istore_n 2, 1) := by decide +kernel
theorem dHA_refusedBits_2 : decode cHA_refusedBits 2 = .ok (.iconst 0, 1) := by decide +kernel
theorem dHA_refusedBits_3 : decode cHA_refusedBits 3 = .ok (.istore_n 3, 1) := by decide +kernel
theorem dHA_refusedBits_4 : decode cHA_refusedBits 4 = .ok (.iload_n 3, 1) := by decide +kernel
theorem dHA_refusedBits_5 : decode cHA_refusedBits 5 = .ok (.aload_n 0, 1) := by decide +kernel
theorem dHA_refusedBits_6 : decode cHA_refusedBits 6 = .ok (.getfield 9, 3) := by decide +kernel
theorem dHA_refusedBits_9 : decode cHA_refusedBits 9 = .ok (.if_icmp .ge 21, 3) := by decide +kernel
theorem dHA_refusedBits_12 : decode cHA_refusedBits 12 = .ok (.iload_n 2, 1) := by decide +kernel
theorem dHA_refusedBits_13 : decode cHA_refusedBits 13 = .ok (.iconst 1, 1) := by decide +kernel
theorem dHA_refusedBits_14 : decode cHA_refusedBits 14 = .ok (.ishl, 1) := by decide +kernel
theorem dHA_refusedBits_15 : decode cHA_refusedBits 15 = .ok (.iload_n 1, 1) := by decide +kernel
theorem dHA_refusedBits_16 : decode cHA_refusedBits 16 = .ok (.iconst 1, 1) := by decide +kernel
theorem dHA_refusedBits_17 : decode cHA_refusedBits 17 = .ok (.iadd, 1) := by decide +kernel
theorem dHA_refusedBits_18 : decode cHA_refusedBits 18 = .ok (.iload_n 3, 1) := by decide +kernel
theorem dHA_refusedBits_19 : decode cHA_refusedBits 19 = .ok (.iushr, 1) := by decide +kernel
theorem dHA_refusedBits_20 : decode cHA_refusedBits 20 = .ok (.iconst 1, 1) := by decide +kernel
theorem dHA_refusedBits_21 : decode cHA_refusedBits 21 = .ok (.iand, 1) := by decide +kernel
theorem dHA_refusedBits_22 : decode cHA_refusedBits 22 = .ok (.ior, 1) := by decide +kernel
theorem dHA_refusedBits_23 : decode cHA_refusedBits 23 = .ok (.istore_n 2, 1) := by decide +kernel
theorem dHA_refusedBits_24 : decode cHA_refusedBits 24 = .ok (.iinc 3 1, 3) := by decide +kernel
theorem dHA_refusedBits_27 : decode cHA_refusedBits 27 = .ok (.goto (-23), 3) := by decide +kernel
theorem dHA_refusedBits_30 : decode cHA_refusedBits 30 = .ok (.iload_n 2, 1) := by decide +kernel
theorem dHA_refusedBits_31 : decode cHA_refusedBits 31 = .ok (.ireturn, 1) := by decide +kernel
end
section
/-! Halves: written by wip/whole/genha.py -/
def rmHA_count : Room := { frames := 0, cells := 0, slots := 0, locals := 0 }
set_option maxHeartbeats 4000000 in
set_option maxRecDepth 100000 in
theorem mHA_count (l : Launch) (D : va_G) (cI cG : ClassId) (t ca9 bb : Nat) (hbb : bb < 8) : zRI l yHA_count wHA_count rmHA_count D vwCl (zT cI cG) [.ref t] [(t, .inr (4, [.ref ca9, .int (iI (bb : Int))]))] (fun z => z = ((2 ^ bb : Nat) : Int) - 1) := by
  refine zRI.of (cc := cHA_count) (maxL := 1) (rt := .int) (by decide) rfl (Nat.le_of_ble_eq_true rfl) (fun _ _ => rfl) ?_
  intro p e s m args below meth c ls Q hx hb hml hown hts hK hP hX hl hret
  have hS0 : va_S (fun _ => False) s.heap s.heap [] := va_S.rf
  have hl : lv_has ls 1 [(0, .ref t)] := hl
  refine lv_iconst (v := iI (1)) hx hb dHA_count_0 rfl ?_
  refine lv_aload_n hx hb dHA_count_1 rfl (lv_at hl 0 rfl) ?_
  refine va_get (D := D) (ci := 4) (v := .int (iI (bb : Int))) (C := nHA) (T := fHA) (N := 2) hx hb hts iwHA hown hK hP 0 rfl rfl 1 (by decide) (hts _ (List.mem_cons_of_mem _ lkHA_9)) (fun _ h9 => h9) rfl dHA_count_2 ?_
  refine lz_ishl (z := ((2 ^ bb : Nat) : Int)) hx hb dHA_count_5 (shl_ok bb hbb) ?_
  refine lv_iconst (v := iI (1)) hx hb dHA_count_6 rfl ?_
  refine lz_isub hx hb dHA_count_7 ?_
  exact hret 8 ls (((2 ^ bb : Nat) : Int) - 1) rfl dHA_count_8

def rmHA_refusedBits : Room := { frames := 0, cells := 0, slots := 0, locals := 0 }
set_option maxHeartbeats 4000000 in
set_option maxRecDepth 100000 in
theorem mHA_refusedBits (l : Launch) (D : va_G) (cI cG : ClassId) (t ca9 bb k : Nat) (hbb : bb < 8) (hk : k + 1 < 256) : zRI l yHA_refusedBits wHA_refusedBits rmHA_refusedBits D vwCl (zT cI cG) [.ref t, .int (iI (k : Int))] [(t, .inr (4, [.ref ca9, .int (iI (bb : Int))]))] (fun z => z = ((revB (k + 1) bb : Nat) : Int)) := by
  refine zRI.of (cc := cHA_refusedBits) (maxL := 4) (rt := .int) (by decide) rfl (Nat.le_of_ble_eq_true rfl) (fun _ _ => rfl) ?_
  intro p e s m args below meth c ls Q hx hb hml hown hts hK hP hX hl hret
  have hS0 : va_S (fun _ => False) s.heap s.heap [] := va_S.rf
  have hl : lv_has ls 4 [(0, .ref t), (1, .int (iI (k : Int)))] := hl
  refine lv_iconst (v := iI (0)) hx hb dHA_refusedBits_0 rfl ?_
  refine lv_istore_n (lv' := [(2, .int (iI 0)), (0, .ref t), (1, .int (iI (k : Int)))]) hx hb dHA_refusedBits_1 rfl hl (by decide) rfl (fun ls hl => ?_)
  refine lv_iconst (v := iI (0)) hx hb dHA_refusedBits_2 rfl ?_
  refine lv_istore_n (lv' := [(3, .int (iI 0)), (2, .int (iI 0)), (0, .ref t), (1, .int (iI (k : Int)))]) hx hb dHA_refusedBits_3 rfl hl (by decide) rfl (fun ls hl => ?_)
  have lp4 : ∀ (n9 : Nat) (t9 : Nat), (t9 ≤ bb) → (bb - t9) < n9 → ∀ (ls : Array Slot), lv_has ls 4 [(0, .ref t), (1, .int (iI (k : Int))), (2, .int (iI ((revB (k + 1) t9 : Nat) : Int))), (3, .int (iI (t9 : Int)))] → W p l e (headSpec wHA_refusedBits rmHA_refusedBits).room s m args below meth c s.heap [] 0 0 Q (F0 m 4 ls []) := by
    intro n9
    induction n9 with
    | zero => intro t9 ht hm; exact absurd hm (Nat.not_lt_zero _)
    | succ n9 ih4 =>
      intro t9 ht hm4 ls hl
      have hrv := revB_lt (k + 1) t9
      have hp9 := pow_le128 (t := t9) (by omega)
      refine lv_iload_n hx hb dHA_refusedBits_4 rfl (lv_at hl 3 rfl) ?_
      refine lv_aload_n hx hb dHA_refusedBits_5 rfl (lv_at hl 0 rfl) ?_
      refine va_get (D := D) (ci := 4) (v := .int (iI (bb : Int))) (C := nHA) (T := fHA) (N := 2) hx hb hts iwHA hown hK hP 0 rfl rfl 1 (by decide) (hts _ (List.mem_cons_of_mem _ lkHA_9)) (fun _ h9 => h9) rfl dHA_refusedBits_6 ?_
      refine lz_icmp_ge (tgt := 30) hx hb dHA_refusedBits_9 (by decide) (by omega) (by omega) (fun c_9 => ?_) (fun c_9 => ?_)
      · have htb : t9 = bb := by omega
        refine lv_iload_n hx hb dHA_refusedBits_30 rfl (lv_at hl 2 rfl) ?_
        exact hret 31 ls ((revB (k + 1) t9 : Nat) : Int) (by rw [htb]) dHA_refusedBits_31
      · refine lv_iload_n hx hb dHA_refusedBits_12 rfl (lv_at hl 2 rfl) ?_
        refine lv_iconst (v := iI (1)) hx hb dHA_refusedBits_13 rfl ?_
        refine lz_ishl (z := ((2 * revB (k + 1) t9 : Nat) : Int)) hx hb dHA_refusedBits_14 (shl1_ok _ (by omega)) ?_
        refine lv_iload_n hx hb dHA_refusedBits_15 rfl (lv_at hl 1 rfl) ?_
        refine lv_iconst (v := iI (1)) hx hb dHA_refusedBits_16 rfl ?_
        refine lz_iadd hx hb dHA_refusedBits_17 ?_
        refine lv_iload_n hx hb dHA_refusedBits_18 rfl (lv_at hl 3 rfl) ?_
        refine lv_iushr (v := iI ((((k + 1) / 2 ^ t9 : Nat) : Int))) hx hb dHA_refusedBits_19 (ushr_ok t9 (by omega) (k + 1) hk) ?_
        refine lv_iconst (v := iI (1)) hx hb dHA_refusedBits_20 rfl ?_
        refine lz_iand (z := (((k + 1) / 2 ^ t9 % 2 : Nat) : Int)) hx hb dHA_refusedBits_21 (and1_ok _ (Nat.lt_of_le_of_lt (Nat.div_le_self _ _) hk)) ?_
        refine lz_ior (z := ((revB (k + 1) (t9 + 1) : Nat) : Int)) hx hb dHA_refusedBits_22 (or1_ok _ (by omega) _ (Nat.mod_lt _ (by decide))) ?_
        refine lv_istore_n (lv' := [(2, .int (iI ((revB (k + 1) (t9 + 1) : Nat) : Int))), (0, .ref t), (1, .int (iI (k : Int))), (3, .int (iI (t9 : Int)))]) hx hb dHA_refusedBits_23 rfl hl (by decide) rfl (fun ls hl => ?_)
        refine lz_iinc (lv' := [(3, .int (iI ((t9 : Int) + 1))), (2, .int (iI ((revB (k + 1) (t9 + 1) : Nat) : Int))), (0, .ref t), (1, .int (iI (k : Int)))]) hx hb dHA_refusedBits_24 hl (k := 3) rfl (by decide) rfl (fun ls hl => ?_)
        refine lv_goto (tgt := 4) hx hb dHA_refusedBits_27 (by decide) ?_
        exact ih4 (t9 + 1) (by omega) (by omega) _ (lv_sub hl [2, 3, 1, 0] rfl)
  exact lp4 _ 0 (Nat.zero_le _) (Nat.lt_succ_self _) _ (lv_sub hl [2, 3, 1, 0] rfl)

def rmHA_addBit : Room := { frames := 2, cells := 0, slots := 0, locals := 54 }
set_option maxHeartbeats 4000000 in
set_option maxRecDepth 100000 in
theorem mHA_addBit (l : Launch) (D : va_G) (cI cG : ClassId) (t ca9 : Nat) (co : Nat → Int) (bb : Nat) (r a n : Nat) (f : Nat → Int) (ks : List Int) (b lf rt : Nat) (gl gr : Nat → Int) (K : List Int) (i : Nat) (h : rowOK n f ks) (hn : ks.length ≤ 192) (hG : isG ks) (hq : sqG ks K) (hH : HIv ks K co bb) (hbb : bb < 8) (hi : i < ks.length) (hci : co i = -1) : zV l yHA_addBit wHA_addBit rmHA_addBit D vwCl (zT cI cG) [.ref t, .int (iI (i : Int)), .ref r, .ref b] [(t, .inr (4, [.ref ca9, .int (iI (bb : Int))])), (ca9, .inl (cI, ks.length, .inl (zf co))), (r, .inr (5, [.ref a, .int (iI (ks.length : Int))])), (a, .inl (cI, n, .inl (zf f))), (b, .inr (1, [.ref lf, .ref rt])), (lf, .inl (cI, 9, .inl (zf gl))), (rt, .inl (cI, 9, .inl (zf gr)))] (S := ((Nat → Int) × (Nat → Int) × (Nat → Int))) (fun u => HAdd ks co u.1 bb i) (fun u => [(t, .inr (4, [.ref ca9, .int (iI ((bb : Int) + 1))])), (ca9, .inl (cI, ks.length, .inl (zf u.1))), (r, .inr (5, [.ref a, .int (iI (ks.length : Int))])), (a, .inl (cI, n, .inl (zf f))), (b, .inr (1, [.ref lf, .ref rt])), (lf, .inl (cI, 9, .inl (zf u.2.1))), (rt, .inl (cI, 9, .inl (zf u.2.2)))]) := by
  refine zV.of (cc := cHA_addBit) (maxL := 7) (by decide) rfl (Nat.le_of_ble_eq_true rfl) ?_
  intro p e s m args below meth c A ls Q hx hb hml hown hts hnm hK hD hA hAe hX hl hret H locs hP hS
  have hl : lv_has ls 7 [(0, .ref t), (1, .int (iI (i : Int))), (2, .ref r), (3, .ref b)] := hl
  have hb1 := h.1
  have hb2 := h.2.1
  have hnd := nodup_lt h.2.2.2.1
  have hkk : ∀ j, j < ks.length → kOK (ks.getD j (-1)) := fun j hj => (hG.2.2.1 _ (getD_mem hj)).1
  have hp9 := pow_le128 hbb
  have hp0 := Nat.two_pow_pos bb
  refine lv_iconst (v := iI (1)) hx hb dHA_addBit_0 rfl ?_
  refine lv_aload_n hx hb dHA_addBit_1 rfl (lv_at hl 0 rfl) ?_
  refine va_get (D := D) (ci := 4) (v := .int (iI (bb : Int))) (C := nHA) (T := fHA) (N := 2) hx hb hts iwHA hown hK hP 0 rfl rfl 1 (by decide) (hts _ (List.mem_cons_of_mem _ lkHA_9)) (fun _ h9 => h9) rfl dHA_addBit_2 ?_
  refine lz_ishl (z := ((2 ^ bb : Nat) : Int)) hx hb dHA_addBit_5 (shl_ok bb hbb) ?_
  refine lv_istore (lv' := [(4, .int (iI ((2 ^ bb : Nat) : Int))), (0, .ref t), (1, .int (iI (i : Int))), (2, .ref r), (3, .ref b)]) hx hb dHA_addBit_6 hl (by decide) rfl (fun ls hl => ?_)
  refine lv_aload_n hx hb dHA_addBit_8 rfl (lv_at hl 1 rfl) ?_
  refine lv_dup hx hb dHA_addBit_9 rfl ?_
  refine va_get (D := D) (ci := 4) (v := .int (iI (bb : Int))) (C := nHA) (T := fHA) (N := 2) hx hb hts iwHA hown hK hP 0 rfl rfl 1 (by decide) (hts _ (List.mem_cons_of_mem _ lkHA_9)) (fun _ h9 => h9) rfl dHA_addBit_10 ?_
  refine lv_iconst (v := iI (1)) hx hb dHA_addBit_13 rfl ?_
  refine lz_iadd hx hb dHA_addBit_14 ?_
  refine va_put (D := D) (ci := 4) (v := .int (iI ((bb : Int) + 1))) (ty := .int) (C := nHA) (T := fHA) (N := 2) hx hb hts iwHA tHA tkHA nmHA hown hK hP hD hS 0 rfl rfl 1 (by decide) (hts _ (List.mem_cons_of_mem _ lkHA_9)) (fun _ h9 => h9) rfl (by decide +kernel) rfl rfl (Nat.le_of_ble_eq_true rfl) dHA_addBit_15 (fun H locs hP hD hS => ?_)
  have hP : va_P D vwCl [(t, .inr (4, [.ref ca9, .int (iI ((bb : Int) + 1))])), (ca9, .inl (cI, ks.length, .inl (zf co))), (r, .inr (5, [.ref a, .int (iI (ks.length : Int))])), (a, .inl (cI, n, .inl (zf f))), (b, .inr (1, [.ref lf, .ref rt])), (lf, .inl (cI, 9, .inl (zf gl))), (rt, .inl (cI, 9, .inl (zf gr)))] H := hP
  have hD : va_D A [(t, .inr (4, [.ref ca9, .int (iI ((bb : Int) + 1))])), (ca9, .inl (cI, ks.length, .inl (zf co))), (r, .inr (5, [.ref a, .int (iI (ks.length : Int))])), (a, .inl (cI, n, .inl (zf f))), (b, .inr (1, [.ref lf, .ref rt])), (lf, .inl (cI, 9, .inl (zf gl))), (rt, .inl (cI, 9, .inl (zf gr)))] := hD
  refine lv_iconst (v := iI (0)) hx hb dHA_addBit_18 rfl ?_
  refine lv_istore (lv' := [(5, .int (iI 0)), (4, .int (iI ((2 ^ bb : Nat) : Int))), (0, .ref t), (1, .int (iI (i : Int))), (2, .ref r), (3, .ref b)]) hx hb dHA_addBit_19 hl (by decide) rfl (fun ls hl => ?_)
  have lp21 : ∀ (n9 : Nat) (x : Nat) (co1 gl1 gr1 : Nat → Int), (x ≤ ks.length) → (HAddT ks co co1 bb i x) → (ks.length - x) < n9 → ∀ (H : Heap) (locs : List Loc), va_P D vwCl [(t, .inr (4, [.ref ca9, .int (iI ((bb : Int) + 1))])), (ca9, .inl (cI, ks.length, .inl (zf co1))), (r, .inr (5, [.ref a, .int (iI (ks.length : Int))])), (a, .inl (cI, n, .inl (zf f))), (b, .inr (1, [.ref lf, .ref rt])), (lf, .inl (cI, 9, .inl (zf gl1))), (rt, .inl (cI, 9, .inl (zf gr1)))] H → va_D A [(t, .inr (4, [.ref ca9, .int (iI ((bb : Int) + 1))])), (ca9, .inl (cI, ks.length, .inl (zf co1))), (r, .inr (5, [.ref a, .int (iI (ks.length : Int))])), (a, .inl (cI, n, .inl (zf f))), (b, .inr (1, [.ref lf, .ref rt])), (lf, .inl (cI, 9, .inl (zf gl1))), (rt, .inl (cI, 9, .inl (zf gr1)))] → va_S A s.heap H locs → ∀ (ls : Array Slot), lv_has ls 7 [(0, .ref t), (1, .int (iI (i : Int))), (2, .ref r), (3, .ref b), (4, .int (iI ((2 ^ bb : Nat) : Int))), (5, .int (iI (x : Int)))] → W p l e (headSpec wHA_addBit rmHA_addBit).room s m args below meth c H locs 0 0 Q (F0 m 21 ls []) := by
    intro n9
    induction n9 with
    | zero => intro x co1 gl1 gr1 hx9 hT hm; exact absurd hm (Nat.not_lt_zero _)
    | succ n9 ih21 =>
      intro x co1 gl1 gr1 hx9 hT hm21 H locs hP hD hS ls hl
      refine lv_iload hx hb dHA_addBit_21 (lv_at hl 5 rfl) ?_
      refine lv_aload_n hx hb dHA_addBit_23 rfl (lv_at hl 0 rfl) ?_
      refine va_get (D := D) (ci := 4) (v := .ref ca9) (C := nHA) (T := fHA) (N := 2) hx hb hts iwHA hown hK hP 0 rfl rfl 0 (by decide) (hts _ (List.mem_cons_of_mem _ lkHA_21)) (fun _ h9 => h9) rfl dHA_addBit_24 ?_
      refine lz_alen hx hb hK hP 1 0 rfl rfl dHA_addBit_27 ?_
      refine lz_icmp_ge (tgt := 113) hx hb dHA_addBit_28 (by decide) (by omega) (by omega) (fun c_28 => ?_) (fun c_28 => ?_)
      · exact hret H locs 0 0 113 ls (co1, gl1, gr1) (hT.done (by omega)) (hP.sub [0, 1, 2, 3, 4, 5, 6] rfl) (hD.sub [0, 1, 2, 3, 4, 5, 6] (by decide) rfl) hS (Nat.zero_le _) (Nat.zero_le _) dHA_addBit_113
      · have hrx := hT.rng hH hbb (x := x) (by omega)
        refine lv_aload_n hx hb dHA_addBit_31 rfl (lv_at hl 0 rfl) ?_
        refine va_get (D := D) (ci := 4) (v := .ref ca9) (C := nHA) (T := fHA) (N := 2) hx hb hts iwHA hown hK hP 0 rfl rfl 0 (by decide) (hts _ (List.mem_cons_of_mem _ lkHA_21)) (fun _ h9 => h9) rfl dHA_addBit_32 ?_
        refine lv_iload hx hb dHA_addBit_35 (lv_at hl 5 rfl) ?_
        refine lz_ialk hx hb hK hP 1 0 rfl rfl (z := (x : Int)) x rfl (by omega) dHA_addBit_37 ?_
        refine lv_iconst (v := iI (-1)) hx hb dHA_addBit_38 rfl ?_
        refine lz_icmp_eq (tgt := 107) hx hb dHA_addBit_39 (by decide) (by omega) (by omega) (fun c_39 => ?_) (fun c_39 => ?_)
        · have hcx : co x = -1 := Classical.byContradiction fun q => q ((hT.1 x (by omega) q).symm.trans c_39)
          refine lz_iinc (lv' := [(5, .int (iI ((x : Int) + 1))), (0, .ref t), (1, .int (iI (i : Int))), (2, .ref r), (3, .ref b), (4, .int (iI ((2 ^ bb : Nat) : Int)))]) hx hb dHA_addBit_107 hl (k := 5) rfl (by decide) rfl (fun ls hl => ?_)
          refine lv_goto (tgt := 21) hx hb dHA_addBit_110 (by decide) ?_
          exact ih21 (x + 1) co1 gl1 gr1 (by omega) (hT.skip hcx) (by omega) _ _ (hP.sub [0, 1, 2, 3, 4, 5, 6] rfl) (hD.sub [0, 1, 2, 3, 4, 5, 6] (by decide) rfl) hS _ (lv_sub hl [1, 2, 3, 4, 5, 0] rfl)
        · refine lv_aload_n hx hb dHA_addBit_42 rfl (lv_at hl 0 rfl) ?_
          refine va_get (D := D) (ci := 4) (v := .ref ca9) (C := nHA) (T := fHA) (N := 2) hx hb hts iwHA hown hK hP 0 rfl rfl 0 (by decide) (hts _ (List.mem_cons_of_mem _ lkHA_21)) (fun _ h9 => h9) rfl dHA_addBit_43 ?_
          refine lv_iload hx hb dHA_addBit_46 (lv_at hl 5 rfl) ?_
          refine lz_ialk hx hb hK hP 1 0 rfl rfl (z := (x : Int)) x rfl (by omega) dHA_addBit_48 ?_
          refine lv_iload hx hb dHA_addBit_49 (lv_at hl 4 rfl) ?_
          refine lz_icmp_ge (tgt := 107) hx hb dHA_addBit_51 (by decide) (by omega) (by omega) (fun c_51 => ?_) (fun c_51 => ?_)
          · have hcx : co x = -1 := Classical.byContradiction fun q => by
              have h1 := hT.1 x (by omega) q
              have h2 := (hH.1 x (by omega)).resolve_left q
              omega
            refine lz_iinc (lv' := [(5, .int (iI ((x : Int) + 1))), (0, .ref t), (1, .int (iI (i : Int))), (2, .ref r), (3, .ref b), (4, .int (iI ((2 ^ bb : Nat) : Int)))]) hx hb dHA_addBit_107 hl (k := 5) rfl (by decide) rfl (fun ls hl => ?_)
            refine lv_goto (tgt := 21) hx hb dHA_addBit_110 (by decide) ?_
            exact ih21 (x + 1) co1 gl1 gr1 (by omega) (hT.skip hcx) (by omega) _ _ (hP.sub [0, 1, 2, 3, 4, 5, 6] rfl) (hD.sub [0, 1, 2, 3, 4, 5, 6] (by decide) rfl) hS _ (lv_sub hl [1, 2, 3, 4, 5, 0] rfl)
          · have hcn : co x ≠ -1 := fun q => by
              rcases hT.2.2 x (by omega) c_39 with q2 | ⟨y, _, hy, cy, _, e⟩
              · exact q2 q
              · have := (hH.1 y hy).resolve_left cy
                omega
            have hcx := (hH.1 x (by omega)).resolve_left hcn
            have hce := hT.1 x (by omega) hcn
            refine lv_aload_n hx hb dHA_addBit_54 rfl (lv_at hl 2 rfl) ?_
            refine lv_aload_n hx hb dHA_addBit_55 rfl (lv_at hl 3 rfl) ?_
            refine lv_aload_n hx hb dHA_addBit_56 rfl (lv_at hl 2 rfl) ?_
            refine lv_iload hx hb dHA_addBit_57 (lv_at hl 5 rfl) ?_
            refine zRI.back ((va_runV (As := [.int (iI (x : Int))]) (rest := [.ref b, .ref r]) ⟨hx, hb, hml, hown, hts⟩ (mRO_at l D cI cG r a n f ks (x : Int) h (by omega)) (cwV 1 hts (gT1 lkHA_30 (gT1 imRO_at (gT1 seRO_at (gT1 iniRO (gTW kcRO_at))))) rfl rfl rfl (by decide +kernel) ⟨Nat.le_of_ble_eq_true rfl, Nat.le_of_ble_eq_true rfl⟩) ⟨zRd_blind, va_recv hK hP (ci := 5) (q0 := 2) rfl rfl, zRd.at (wc := [(r, .inr (5, [.ref a, .int (iI (ks.length : Int))])), (a, .inl (cI, n, .inl (zf f)))]) hK (hP.sub (ws' := [(r, .inr (5, [.ref a, .int (iI (ks.length : Int))])), (a, .inl (cI, n, .inl (zf f)))]) [2, 3] rfl) (stF.now hX hS)⟩ rfl rfl hl.1 rfl (lv_room (Nat.le_of_ble_eq_true rfl)) dHA_addBit_59 ⟨Nat.le_of_ble_eq_true rfl, Nat.le_of_ble_eq_true rfl⟩).run) (fun z_59 q_59 => ?_)
            obtain rfl : z_59 = ks.getD x (-1) := by have q9 : z_59 = lat ks (x : Int) := q_59; rw [q9]; exact (lat_in (by omega) (by omega)).1
            refine lv_aload_n hx hb dHA_addBit_62 rfl (lv_at hl 2 rfl) ?_
            refine lv_iload_n hx hb dHA_addBit_63 rfl (lv_at hl 1 rfl) ?_
            refine zRI.back ((va_runV (As := [.int (iI (i : Int))]) (rest := [.int (iI (ks.getD x (-1))), .ref b, .ref r]) ⟨hx, hb, hml, hown, hts⟩ (mRO_at l D cI cG r a n f ks (i : Int) h (by omega)) (cwV 1 hts (gT1 lkHA_30 (gT1 imRO_at (gT1 seRO_at (gT1 iniRO (gTW kcRO_at))))) rfl rfl rfl (by decide +kernel) ⟨Nat.le_of_ble_eq_true rfl, Nat.le_of_ble_eq_true rfl⟩) ⟨zRd_blind, va_recv hK hP (ci := 5) (q0 := 2) rfl rfl, zRd.at (wc := [(r, .inr (5, [.ref a, .int (iI (ks.length : Int))])), (a, .inl (cI, n, .inl (zf f)))]) hK (hP.sub (ws' := [(r, .inr (5, [.ref a, .int (iI (ks.length : Int))])), (a, .inl (cI, n, .inl (zf f)))]) [2, 3] rfl) (stF.now hX hS)⟩ rfl rfl hl.1 rfl (lv_room (Nat.le_of_ble_eq_true rfl)) dHA_addBit_64 ⟨Nat.le_of_ble_eq_true rfl, Nat.le_of_ble_eq_true rfl⟩).run) (fun z_64 q_64 => ?_)
            obtain rfl : z_64 = ks.getD i (-1) := by have q9 : z_64 = lat ks (i : Int) := q_64; rw [q9]; exact (lat_in (by omega) (by omega)).1
            refine zI.back (va_runV (As := [.int (iI (ks.getD x (-1))), .int (iI (ks.getD i (-1)))]) (rest := [.ref r]) ⟨hx, hb, hml, hown, hts⟩ ((mBE_times l D cI cG b lf rt gl1 gr1 (ks.getD x (-1)) (ks.getD i (-1)) (hkk x (by omega)) (hkk i hi)) H.size) (cwV 2 hts (gT1 lkHA_34 (gT1 imBE_times (gT1 seBE_times (gT1 iniBE (gTW kcBE_times))))) rfl rfl rfl (by decide +kernel) ⟨Nat.le_of_ble_eq_true rfl, Nat.le_of_ble_eq_true rfl⟩) ⟨zPre_blind, va_recv hK hP (ci := 1) (q0 := 4) rfl rfl, zPre.at (wc := [(b, .inr (1, [.ref lf, .ref rt])), (lf, .inl (cI, 9, .inl (zf gl1))), (rt, .inl (cI, 9, .inl (zf gr1)))]) hK hP hD hS hA hX [4, 5, 6] (by decide) rfl⟩ rfl rfl hl.1 rfl (lv_room (Nat.le_of_ble_eq_true rfl)) dHA_addBit_67 ⟨Nat.le_of_ble_eq_true rfl, Nat.le_of_ble_eq_true rfl⟩) (wr := [(t, .inr (4, [.ref ca9, .int (iI ((bb : Int) + 1))])), (ca9, .inl (cI, ks.length, .inl (zf co1))), (r, .inr (5, [.ref a, .int (iI (ks.length : Int))])), (a, .inl (cI, n, .inl (zf f)))]) hP hD hS hA [4, 5, 6] [0, 1, 2, 3] rfl rfl (by decide) (by decide) (fun z_67 u_67 H locs q_67 hP hD hS hz_67 hk_67 => ?_)
            obtain rfl : z_67 = timesK (ks.getD x (-1)) (ks.getD i (-1)) := q_67
            have hP : va_P D vwCl [(t, .inr (4, [.ref ca9, .int (iI ((bb : Int) + 1))])), (ca9, .inl (cI, ks.length, .inl (zf co1))), (r, .inr (5, [.ref a, .int (iI (ks.length : Int))])), (a, .inl (cI, n, .inl (zf f))), (b, .inr (1, [.ref lf, .ref rt])), (lf, .inl (cI, 9, .inl (zf (rd (ks.getD x (-1)) gl1)))), (rt, .inl (cI, 9, .inl (zf (rd (ks.getD i (-1)) gr1))))] H := hP
            have hD : va_D A [(t, .inr (4, [.ref ca9, .int (iI ((bb : Int) + 1))])), (ca9, .inl (cI, ks.length, .inl (zf co1))), (r, .inr (5, [.ref a, .int (iI (ks.length : Int))])), (a, .inl (cI, n, .inl (zf f))), (b, .inr (1, [.ref lf, .ref rt])), (lf, .inl (cI, 9, .inl (zf (rd (ks.getD x (-1)) gl1)))), (rt, .inl (cI, 9, .inl (zf (rd (ks.getD i (-1)) gr1))))] := hD
            refine zRI.back ((va_runV (As := [.int (iI (timesK (ks.getD x (-1)) (ks.getD i (-1))))]) (rest := []) ⟨hx, hb, hml, hown, hts⟩ (mRO_indexOf l D cI cG r a n f ks (timesK (ks.getD x (-1)) (ks.getD i (-1))) h (by have := times_bd (ks.getD x (-1)) (ks.getD i (-1)); omega)) (cwV 1 hts (gT1 lkHA_69 (gT1 imRO_indexOf (gT1 seRO_indexOf (gT1 iniRO (gTW kcRO_indexOf))))) rfl rfl rfl (by decide +kernel) ⟨Nat.le_of_ble_eq_true rfl, Nat.le_of_ble_eq_true rfl⟩) ⟨zRd_blind, va_recv hK hP (ci := 5) (q0 := 2) rfl rfl, zRd.at (wc := [(r, .inr (5, [.ref a, .int (iI (ks.length : Int))])), (a, .inl (cI, n, .inl (zf f)))]) hK (hP.sub (ws' := [(r, .inr (5, [.ref a, .int (iI (ks.length : Int))])), (a, .inl (cI, n, .inl (zf f)))]) [2, 3] rfl) (stF.now hX hS)⟩ rfl rfl hl.1 rfl (lv_room (Nat.le_of_ble_eq_true rfl)) dHA_addBit_70 ⟨Nat.le_of_ble_eq_true rfl, Nat.le_of_ble_eq_true rfl⟩).run) (fun z_70 q_70 => ?_)
            have q_70 : lix ks (timesK (ks.getD x (-1)) (ks.getD i (-1))) z_70 := q_70
            obtain ⟨k9, hk9, ek9, rfl⟩ : ∃ k9 : Nat, k9 < ks.length ∧ ks.getD k9 (-1) = timesK (ks.getD x (-1)) (ks.getD i (-1)) ∧ z_70 = (k9 : Int) := by
              rcases q_70 with ⟨_, q1, q2, q3⟩ | ⟨q, _⟩
              · exact ⟨z_70.toNat, by omega, q3, by omega⟩
              · exact absurd (hG.2.2.2 _ (getD_mem (by omega)) _ (getD_mem (by omega))) q
            refine lv_istore (lv' := [(6, .int (iI (k9 : Int))), (0, .ref t), (1, .int (iI (i : Int))), (2, .ref r), (3, .ref b), (4, .int (iI ((2 ^ bb : Nat) : Int))), (5, .int (iI (x : Int)))]) hx hb dHA_addBit_73 hl (by decide) rfl (fun ls hl => ?_)
            refine lv_iload hx hb dHA_addBit_75 (lv_at hl 0 rfl) ?_
            refine lz_if_lt (tgt := 107) hx hb dHA_addBit_77 (by decide) (by omega) (fun c_77 => ?_) (fun c_77 => ?_)
            · exact absurd c_77 (by omega)
            · refine lv_iload hx hb dHA_addBit_80 (lv_at hl 0 rfl) ?_
              refine lv_aload_n hx hb dHA_addBit_82 rfl (lv_at hl 1 rfl) ?_
              refine va_get (D := D) (ci := 4) (v := .ref ca9) (C := nHA) (T := fHA) (N := 2) hx hb hts iwHA hown hK hP 0 rfl rfl 0 (by decide) (hts _ (List.mem_cons_of_mem _ lkHA_21)) (fun _ h9 => h9) rfl dHA_addBit_83 ?_
              refine lz_alen hx hb hK hP 1 0 rfl rfl dHA_addBit_86 ?_
              refine lz_icmp_ge (tgt := 107) hx hb dHA_addBit_87 (by decide) (by omega) (by omega) (fun c_87 => ?_) (fun c_87 => ?_)
              · exact absurd c_87 (by omega)
              · refine lv_aload_n hx hb dHA_addBit_90 rfl (lv_at hl 1 rfl) ?_
                refine va_get (D := D) (ci := 4) (v := .ref ca9) (C := nHA) (T := fHA) (N := 2) hx hb hts iwHA hown hK hP 0 rfl rfl 0 (by decide) (hts _ (List.mem_cons_of_mem _ lkHA_21)) (fun _ h9 => h9) rfl dHA_addBit_91 ?_
                refine lv_iload hx hb dHA_addBit_94 (lv_at hl 0 rfl) ?_
                refine lv_aload_n hx hb dHA_addBit_96 rfl (lv_at hl 1 rfl) ?_
                refine va_get (D := D) (ci := 4) (v := .ref ca9) (C := nHA) (T := fHA) (N := 2) hx hb hts iwHA hown hK hP 0 rfl rfl 0 (by decide) (hts _ (List.mem_cons_of_mem _ lkHA_21)) (fun _ h9 => h9) rfl dHA_addBit_97 ?_
                refine lv_iload hx hb dHA_addBit_100 (lv_at hl 6 rfl) ?_
                refine lz_ialk hx hb hK hP 1 0 rfl rfl (z := (x : Int)) x rfl (by omega) dHA_addBit_102 ?_
                refine lz_as (x := co1 x) (y := co x) (hce) ?_
                refine lv_iload hx hb dHA_addBit_103 (lv_at hl 5 rfl) ?_
                refine lz_ior (z := co x + ((2 ^ bb : Nat) : Int)) hx hb dHA_addBit_105 ((by rw [show co x = (((co x).toNat : Nat) : Int) by omega, or_ok bb hbb _ (by omega) hcx.2]; congr 1)) ?_
                refine lz_iask hx hb hK hP hD hS 1 0 rfl rfl (z := (k9 : Int)) (v := co x + ((2 ^ bb : Nat) : Int)) k9 rfl (by omega) dHA_addBit_106 (fun H locs hP hD hS => ?_)
                have hP : va_P D vwCl [(t, .inr (4, [.ref ca9, .int (iI ((bb : Int) + 1))])), (ca9, .inl (cI, ks.length, .inl (zf (zu co1 k9 (co x + ((2 ^ bb : Nat) : Int)))))), (r, .inr (5, [.ref a, .int (iI (ks.length : Int))])), (a, .inl (cI, n, .inl (zf f))), (b, .inr (1, [.ref lf, .ref rt])), (lf, .inl (cI, 9, .inl (zf (rd (ks.getD x (-1)) gl1)))), (rt, .inl (cI, 9, .inl (zf (rd (ks.getD i (-1)) gr1))))] H := hP
                have hD : va_D A [(t, .inr (4, [.ref ca9, .int (iI ((bb : Int) + 1))])), (ca9, .inl (cI, ks.length, .inl (zf (zu co1 k9 (co x + ((2 ^ bb : Nat) : Int)))))), (r, .inr (5, [.ref a, .int (iI (ks.length : Int))])), (a, .inl (cI, n, .inl (zf f))), (b, .inr (1, [.ref lf, .ref rt])), (lf, .inl (cI, 9, .inl (zf (rd (ks.getD x (-1)) gl1)))), (rt, .inl (cI, 9, .inl (zf (rd (ks.getD i (-1)) gr1))))] := hD
                refine lz_iinc (lv' := [(5, .int (iI ((x : Int) + 1))), (6, .int (iI (k9 : Int))), (0, .ref t), (1, .int (iI (i : Int))), (2, .ref r), (3, .ref b), (4, .int (iI ((2 ^ bb : Nat) : Int)))]) hx hb dHA_addBit_107 hl (k := 6) rfl (by decide) rfl (fun ls hl => ?_)
                refine lv_goto (tgt := 21) hx hb dHA_addBit_110 (by decide) ?_
                exact ih21 (x + 1) (zu co1 k9 (co x + ((2 ^ bb : Nat) : Int))) (rd (ks.getD x (-1)) gl1) (rd (ks.getD i (-1)) gr1) (by omega) (hT.step hG hnd hq hH hi hci (by omega) hk9 hcn ek9.symm) (by omega) _ _ (hP.sub [0, 1, 2, 3, 4, 5, 6] rfl) (hD.sub [0, 1, 2, 3, 4, 5, 6] (by decide) rfl) hS _ (lv_sub hl [2, 3, 4, 5, 6, 0] rfl)
  exact lp21 _ 0 co gl gr (Nat.zero_le _) (HAddT.start ks co bb i) (Nat.lt_succ_self _) _ _ (hP.sub [0, 1, 2, 3, 4, 5, 6] rfl) (hD.sub [0, 1, 2, 3, 4, 5, 6] (by decide) rfl) hS _ (lv_sub hl [2, 3, 4, 5, 1, 0] rfl)

def rmHA_init : Room := { frames := 4, cells := 1, slots := 192, locals := 131 }
set_option maxHeartbeats 4000000 in
set_option maxRecDepth 100000 in
theorem mHA_init (l : Launch) (D : va_G) (cI cG : ClassId) (t : Nat) (r a n : Nat) (f : Nat → Int) (ks : List Int) (cl b lf rt fr fa ca ge : Nat) (fs : Int) (ff fc : Nat → Int) (cc : Int) (fg : Nat → Int) (gc : Int) (gl gr : Nat → Int) (K0 : List Int) (h : rowOK n f ks) (hn : ks.length ≤ 192) (hG : isG ks) (hr0 : rowOK 192 ff K0) (hfs0 : fs = (K0.length : Int)) : zV l yHA_init wHA_init rmHA_init D vwCl (zT cI cG) [.ref t, .ref r, .ref b, .ref cl] [(t, .inr (4, [.null, .int (iI 0)])), (r, .inr (5, [.ref a, .int (iI (ks.length : Int))])), (a, .inl (cI, n, .inl (zf f))), (cl, .inr (2, [.ref b, .ref fr, .ref ca, .int (iI cc), .ref ge, .int (iI gc)])), (b, .inr (1, [.ref lf, .ref rt])), (lf, .inl (cI, 9, .inl (zf gl))), (rt, .inl (cI, 9, .inl (zf gr))), (fr, .inr (5, [.ref fa, .int (iI fs)])), (fa, .inl (cI, 192, .inl (zf ff))), (ca, .inl (cI, 192, .inl (zf fc))), (ge, .inl (cI, 10, .inl (zf fg)))] (S := (Nat × (Nat → Int) × Int × CS)) (fun u => (∃ K bb, sqG ks K ∧ HIv ks K u.2.1 bb ∧ (∀ x, x < ks.length → u.2.1 x ≠ -1) ∧ u.2.2.1 = (bb : Int) ∧ bb < 8) ∧ ∃ K, rowOK 192 u.2.2.2.2.1 K ∧ u.2.2.2.1 = (K.length : Int)) (fun u => [(t, .inr (4, [.ref u.1, .int (iI u.2.2.1)])), (u.1, .inl (cI, ks.length, .inl (zf u.2.1))), (r, .inr (5, [.ref a, .int (iI (ks.length : Int))])), (a, .inl (cI, n, .inl (zf f))), (cl, .inr (2, [.ref b, .ref fr, .ref ca, .int (iI u.2.2.2.2.2.2.1), .ref ge, .int (iI u.2.2.2.2.2.2.2.2.1)])), (b, .inr (1, [.ref lf, .ref rt])), (lf, .inl (cI, 9, .inl (zf u.2.2.2.2.2.2.2.2.2.1))), (rt, .inl (cI, 9, .inl (zf u.2.2.2.2.2.2.2.2.2.2))), (fr, .inr (5, [.ref fa, .int (iI u.2.2.2.1)])), (fa, .inl (cI, 192, .inl (zf u.2.2.2.2.1))), (ca, .inl (cI, 192, .inl (zf u.2.2.2.2.2.1))), (ge, .inl (cI, 10, .inl (zf u.2.2.2.2.2.2.2.1)))]) := by
  refine zV.of (cc := cHA_init) (maxL := 5) (by decide) rfl (Nat.le_of_ble_eq_true rfl) ?_
  intro p e s m args below meth c A ls Q hx hb hml hown hts hnm hK hD hA hAe hX hl hret H locs hP hS
  have hl : lv_has ls 5 [(0, .ref t), (1, .ref r), (2, .ref b), (3, .ref cl)] := hl
  have hb1 := h.1
  have hb2 := h.2.1
  have hnd := nodup_lt h.2.2.2.1
  have hgen := hG.gen h.2.2.2.1 hn
  have hkk : ∀ j, j < ks.length → kOK (ks.getD j (-1)) := fun j hj => (hG.2.2.1 _ (getD_mem hj)).1
  refine lv_aload_n hx hb dHA_init_0 rfl (lv_at hl 0 rfl) ?_
  refine W.objInit hx hb hown (hts _ (List.mem_cons_of_mem _ lkHA_3)) (hts _ (List.mem_cons_of_mem _ imJO_init)) (hts _ (List.mem_cons_of_mem _ kcJO_init)) rfl (by rw [hml]; exact hl.1) rfl dHA_init_1 (Nat.le_of_ble_eq_true rfl) (Nat.le_of_ble_eq_true rfl) ?_
  refine W.eq (g2 := F0 m 4 ls []) rfl ?_
  refine lv_aload_n hx hb dHA_init_4 rfl (lv_at hl 0 rfl) ?_
  refine lv_iconst (v := iI (0)) hx hb dHA_init_5 rfl ?_
  refine va_put (D := D) (ci := 4) (v := .int (iI 0)) (ty := .int) (C := nHA) (T := fHA) (N := 2) hx hb hts iwHA tHA tkHA nmHA hown hK hP hD hS 0 rfl rfl 1 (by decide) (hts _ (List.mem_cons_of_mem _ lkHA_9)) (fun _ h9 => h9) rfl (by decide +kernel) rfl rfl (Nat.le_of_ble_eq_true rfl) dHA_init_6 (fun H locs hP hD hS => ?_)
  have hP : va_P D vwCl [(t, .inr (4, [.null, .int (iI 0)])), (r, .inr (5, [.ref a, .int (iI (ks.length : Int))])), (a, .inl (cI, n, .inl (zf f))), (cl, .inr (2, [.ref b, .ref fr, .ref ca, .int (iI cc), .ref ge, .int (iI gc)])), (b, .inr (1, [.ref lf, .ref rt])), (lf, .inl (cI, 9, .inl (zf gl))), (rt, .inl (cI, 9, .inl (zf gr))), (fr, .inr (5, [.ref fa, .int (iI fs)])), (fa, .inl (cI, 192, .inl (zf ff))), (ca, .inl (cI, 192, .inl (zf fc))), (ge, .inl (cI, 10, .inl (zf fg)))] H := hP
  have hD : va_D A [(t, .inr (4, [.null, .int (iI 0)])), (r, .inr (5, [.ref a, .int (iI (ks.length : Int))])), (a, .inl (cI, n, .inl (zf f))), (cl, .inr (2, [.ref b, .ref fr, .ref ca, .int (iI cc), .ref ge, .int (iI gc)])), (b, .inr (1, [.ref lf, .ref rt])), (lf, .inl (cI, 9, .inl (zf gl))), (rt, .inl (cI, 9, .inl (zf gr))), (fr, .inr (5, [.ref fa, .int (iI fs)])), (fa, .inl (cI, 192, .inl (zf ff))), (ca, .inl (cI, 192, .inl (zf fc))), (ge, .inl (cI, 10, .inl (zf fg)))] := hD
  refine lv_aload_n hx hb dHA_init_9 rfl (lv_at hl 0 rfl) ?_
  refine lv_aload_n hx hb dHA_init_10 rfl (lv_at hl 1 rfl) ?_
  refine zRI.back ((va_runV (As := []) (rest := [.ref t]) ⟨hx, hb, hml, hown, hts⟩ (mRO_size l D cI cG r a (ks.length : Int)) (cwV 0 hts (gT1 lkHA_15 (gT1 imRO_size (gT1 seRO_size (gT1 iniRO (gTW kcRO_size))))) rfl rfl rfl (by decide +kernel) ⟨Nat.le_of_ble_eq_true rfl, Nat.le_of_ble_eq_true rfl⟩) ⟨zRd_blind, va_recv hK hP (ci := 5) (q0 := 1) rfl rfl, zRd.at (wc := [(r, .inr (5, [.ref a, .int (iI (ks.length : Int))]))]) hK (hP.sub (ws' := [(r, .inr (5, [.ref a, .int (iI (ks.length : Int))]))]) [1] rfl) (stF.now hX hS)⟩ rfl rfl hl.1 rfl (lv_room (Nat.le_of_ble_eq_true rfl)) dHA_init_11 ⟨Nat.le_of_ble_eq_true rfl, Nat.le_of_ble_eq_true rfl⟩).run) (fun z_11 q_11 => ?_)
  obtain rfl : z_11 = (ks.length : Int) := q_11
  refine lz_newa hx hb (hts _ (List.mem_cons_of_mem _ ac_int)) hK hP hD hS hA 0 rfl (N := ks.length) rfl (by omega) (Nat.le_of_ble_eq_true rfl) (by show 0 + ks.length ≤ 192; omega) dHA_init_14 (fun ca9 H hP hD hS => ?_)
  refine W.widen (k := 1) (n := 192) (by omega) (by omega) ?_
  have hP : va_P D vwCl [(t, .inr (4, [.null, .int (iI 0)])), (r, .inr (5, [.ref a, .int (iI (ks.length : Int))])), (a, .inl (cI, n, .inl (zf f))), (cl, .inr (2, [.ref b, .ref fr, .ref ca, .int (iI cc), .ref ge, .int (iI gc)])), (b, .inr (1, [.ref lf, .ref rt])), (lf, .inl (cI, 9, .inl (zf gl))), (rt, .inl (cI, 9, .inl (zf gr))), (fr, .inr (5, [.ref fa, .int (iI fs)])), (fa, .inl (cI, 192, .inl (zf ff))), (ca, .inl (cI, 192, .inl (zf fc))), (ge, .inl (cI, 10, .inl (zf fg))), (ca9, .inl (cI, ks.length, .inl (zf (fun _ => 0))))] H := hP
  have hD : va_D A [(t, .inr (4, [.null, .int (iI 0)])), (r, .inr (5, [.ref a, .int (iI (ks.length : Int))])), (a, .inl (cI, n, .inl (zf f))), (cl, .inr (2, [.ref b, .ref fr, .ref ca, .int (iI cc), .ref ge, .int (iI gc)])), (b, .inr (1, [.ref lf, .ref rt])), (lf, .inl (cI, 9, .inl (zf gl))), (rt, .inl (cI, 9, .inl (zf gr))), (fr, .inr (5, [.ref fa, .int (iI fs)])), (fa, .inl (cI, 192, .inl (zf ff))), (ca, .inl (cI, 192, .inl (zf fc))), (ge, .inl (cI, 10, .inl (zf fg))), (ca9, .inl (cI, ks.length, .inl (zf (fun _ => 0))))] := hD
  refine va_putF (D := D) (ci := 4) (v := .ref ca9) (ty := .array .int) (C := nHA) (T := fHA) (N := 2) hx hb hts iwHA tHA tkHA nmHA hown hK hP hD hS 0 rfl rfl 0 (by decide) (hts _ (List.mem_cons_of_mem _ lkHA_21)) (fun _ h9 => h9) rfl hnm rfl (by decide +kernel) rfl rfl (Nat.le_of_ble_eq_true rfl) dHA_init_16 (fun H locs hP hD hS => ?_)
  have hP : va_P D vwCl [(t, .inr (4, [.ref ca9, .int (iI 0)])), (r, .inr (5, [.ref a, .int (iI (ks.length : Int))])), (a, .inl (cI, n, .inl (zf f))), (cl, .inr (2, [.ref b, .ref fr, .ref ca, .int (iI cc), .ref ge, .int (iI gc)])), (b, .inr (1, [.ref lf, .ref rt])), (lf, .inl (cI, 9, .inl (zf gl))), (rt, .inl (cI, 9, .inl (zf gr))), (fr, .inr (5, [.ref fa, .int (iI fs)])), (fa, .inl (cI, 192, .inl (zf ff))), (ca, .inl (cI, 192, .inl (zf fc))), (ge, .inl (cI, 10, .inl (zf fg))), (ca9, .inl (cI, ks.length, .inl (zf (fun _ => 0))))] H := hP
  have hD : va_D A [(t, .inr (4, [.ref ca9, .int (iI 0)])), (r, .inr (5, [.ref a, .int (iI (ks.length : Int))])), (a, .inl (cI, n, .inl (zf f))), (cl, .inr (2, [.ref b, .ref fr, .ref ca, .int (iI cc), .ref ge, .int (iI gc)])), (b, .inr (1, [.ref lf, .ref rt])), (lf, .inl (cI, 9, .inl (zf gl))), (rt, .inl (cI, 9, .inl (zf gr))), (fr, .inr (5, [.ref fa, .int (iI fs)])), (fa, .inl (cI, 192, .inl (zf ff))), (ca, .inl (cI, 192, .inl (zf fc))), (ge, .inl (cI, 10, .inl (zf fg))), (ca9, .inl (cI, ks.length, .inl (zf (fun _ => 0))))] := hD
  refine lv_aload_n hx hb dHA_init_19 rfl (lv_at hl 3 rfl) ?_
  refine zV.back (va_runV (As := []) (rest := []) ⟨hx, hb, hml, hown, hts⟩ ((mCL_start l D cI cG cl b lf rt fr fa ca ge fs ff fc cc fg gc gl gr K0 hr0 hfs0) H.size) (cwV 0 hts (gT1 lkHA_25 (gT1 imCL_start (gT1 seCL_start (gT1 iniCL (gTW kcCL_start))))) rfl rfl rfl (by decide +kernel) ⟨Nat.le_of_ble_eq_true rfl, Nat.le_of_ble_eq_true rfl⟩) ⟨zPre_blind, va_recv hK hP (ci := 2) (q0 := 3) rfl rfl, zPre.at (wc := [(cl, .inr (2, [.ref b, .ref fr, .ref ca, .int (iI cc), .ref ge, .int (iI gc)])), (b, .inr (1, [.ref lf, .ref rt])), (lf, .inl (cI, 9, .inl (zf gl))), (rt, .inl (cI, 9, .inl (zf gr))), (fr, .inr (5, [.ref fa, .int (iI fs)])), (fa, .inl (cI, 192, .inl (zf ff))), (ca, .inl (cI, 192, .inl (zf fc))), (ge, .inl (cI, 10, .inl (zf fg)))]) hK hP hD hS hA hX [3, 4, 5, 6, 7, 8, 9, 10] (by decide) rfl⟩ rfl rfl hl.1 rfl (lv_room (Nat.le_of_ble_eq_true rfl)) dHA_init_20 ⟨Nat.le_of_ble_eq_true rfl, Nat.le_of_ble_eq_true rfl⟩) (wr := [(t, .inr (4, [.ref ca9, .int (iI 0)])), (r, .inr (5, [.ref a, .int (iI (ks.length : Int))])), (a, .inl (cI, n, .inl (zf f))), (ca9, .inl (cI, ks.length, .inl (zf (fun _ => 0))))]) hP hD hS hA [3, 4, 5, 6, 7, 8, 9, 10] [0, 1, 2, 11] rfl rfl (by decide) (by decide) (fun u_20 H locs q_20 hP hD hS hz_20 hk_20 => ?_)
  obtain ⟨fs1, ff1, fc1, cc1, fg1, gc1, gl1, gr1⟩ := u_20
  have q_20 : CSt fs1 ff1 fc1 cc1 fg1 gc1 [u0] [u0] [] := q_20
  have hP : va_P D vwCl [(t, .inr (4, [.ref ca9, .int (iI 0)])), (r, .inr (5, [.ref a, .int (iI (ks.length : Int))])), (a, .inl (cI, n, .inl (zf f))), (ca9, .inl (cI, ks.length, .inl (zf (fun _ => 0)))), (cl, .inr (2, [.ref b, .ref fr, .ref ca, .int (iI cc1), .ref ge, .int (iI gc1)])), (b, .inr (1, [.ref lf, .ref rt])), (lf, .inl (cI, 9, .inl (zf gl1))), (rt, .inl (cI, 9, .inl (zf gr1))), (fr, .inr (5, [.ref fa, .int (iI fs1)])), (fa, .inl (cI, 192, .inl (zf ff1))), (ca, .inl (cI, 192, .inl (zf fc1))), (ge, .inl (cI, 10, .inl (zf fg1)))] H := hP
  have hD : va_D A [(t, .inr (4, [.ref ca9, .int (iI 0)])), (r, .inr (5, [.ref a, .int (iI (ks.length : Int))])), (a, .inl (cI, n, .inl (zf f))), (ca9, .inl (cI, ks.length, .inl (zf (fun _ => 0)))), (cl, .inr (2, [.ref b, .ref fr, .ref ca, .int (iI cc1), .ref ge, .int (iI gc1)])), (b, .inr (1, [.ref lf, .ref rt])), (lf, .inl (cI, 9, .inl (zf gl1))), (rt, .inl (cI, 9, .inl (zf gr1))), (fr, .inr (5, [.ref fa, .int (iI fs1)])), (fa, .inl (cI, 192, .inl (zf ff1))), (ca, .inl (cI, 192, .inl (zf fc1))), (ge, .inl (cI, 10, .inl (zf fg1)))] := hD
  refine lv_iconst (v := iI (0)) hx hb dHA_init_23 rfl ?_
  refine lv_istore (lv' := [(4, .int (iI 0)), (0, .ref t), (1, .ref r), (2, .ref b), (3, .ref cl)]) hx hb dHA_init_24 hl (by decide) rfl (fun ls hl => ?_)
  have lp26 : ∀ (n9 : Nat) (i : Nat) (fs2 : Int) (ff2 fc2 : Nat → Int) (cc2 : Int) (fg2 : Nat → Int) (gc2 : Int) (gl2 gr2 : Nat → Int) (K cm gs : List Int), (i ≤ ks.length) → (CSt fs2 ff2 fc2 cc2 fg2 gc2 K cm gs) → (CIv K cm gs) → (∀ a ∈ gs, a ∈ ks) → (∀ j, j < i → timesK (ks.getD j (-1)) (ks.getD j (-1)) ∈ K) → (ks.length - i) < n9 → ∀ (H : Heap) (locs : List Loc), va_P D vwCl [(t, .inr (4, [.ref ca9, .int (iI 0)])), (ca9, .inl (cI, ks.length, .inl (zf (fun _ => 0)))), (r, .inr (5, [.ref a, .int (iI (ks.length : Int))])), (a, .inl (cI, n, .inl (zf f))), (cl, .inr (2, [.ref b, .ref fr, .ref ca, .int (iI cc2), .ref ge, .int (iI gc2)])), (b, .inr (1, [.ref lf, .ref rt])), (lf, .inl (cI, 9, .inl (zf gl2))), (rt, .inl (cI, 9, .inl (zf gr2))), (fr, .inr (5, [.ref fa, .int (iI fs2)])), (fa, .inl (cI, 192, .inl (zf ff2))), (ca, .inl (cI, 192, .inl (zf fc2))), (ge, .inl (cI, 10, .inl (zf fg2)))] H → va_D A [(t, .inr (4, [.ref ca9, .int (iI 0)])), (ca9, .inl (cI, ks.length, .inl (zf (fun _ => 0)))), (r, .inr (5, [.ref a, .int (iI (ks.length : Int))])), (a, .inl (cI, n, .inl (zf f))), (cl, .inr (2, [.ref b, .ref fr, .ref ca, .int (iI cc2), .ref ge, .int (iI gc2)])), (b, .inr (1, [.ref lf, .ref rt])), (lf, .inl (cI, 9, .inl (zf gl2))), (rt, .inl (cI, 9, .inl (zf gr2))), (fr, .inr (5, [.ref fa, .int (iI fs2)])), (fa, .inl (cI, 192, .inl (zf ff2))), (ca, .inl (cI, 192, .inl (zf fc2))), (ge, .inl (cI, 10, .inl (zf fg2)))] → va_S A s.heap H locs → ∀ (ls : Array Slot), lv_has ls 5 [(0, .ref t), (1, .ref r), (2, .ref b), (3, .ref cl), (4, .int (iI (i : Int)))] → W p l e (headSpec wHA_init rmHA_init).room s m args below meth c H locs 1 192 Q (F0 m 26 ls []) := by
    intro n9
    induction n9 with
    | zero => intro i fs2 ff2 fc2 cc2 fg2 gc2 gl2 gr2 K cm gs hi hC hV hgs hKi hm; exact absurd hm (Nat.not_lt_zero _)
    | succ n9 ih26 =>
      intro i fs2 ff2 fc2 cc2 fg2 gc2 gl2 gr2 K cm gs hi hC hV hgs hKi hm26 H locs hP hD hS ls hl
      refine lv_iload hx hb dHA_init_26 (lv_at hl 4 rfl) ?_
      refine lv_aload_n hx hb dHA_init_28 rfl (lv_at hl 0 rfl) ?_
      refine va_get (D := D) (ci := 4) (v := .ref ca9) (C := nHA) (T := fHA) (N := 2) hx hb hts iwHA hown hK hP 0 rfl rfl 0 (by decide) (hts _ (List.mem_cons_of_mem _ lkHA_21)) (fun _ h9 => h9) rfl dHA_init_29 ?_
      refine lz_alen hx hb hK hP 1 0 rfl rfl dHA_init_32 ?_
      refine lz_icmp_ge (tgt := 63) hx hb dHA_init_33 (by decide) (by omega) (by omega) (fun c_33 => ?_) (fun c_33 => ?_)
      · have hsq : sqG ks K := ⟨hV.2.2.1.isG hV.2.2.2.2.2.1, fun x hx9 => (hV.2.2.1.2.2.1 x).mp hx9 (fun x => x ∈ ks) hG.2.1 (fun y a hy ha _ => hG.2.2.2 y hy a (hgs a ha)), fun x hx9 => by
          obtain ⟨j, hj, rfl⟩ := mem_getD hx9
          exact hKi j (by omega)⟩
        obtain rfl : fs2 = (K.length : Int) := hC.2.1
        refine lv_iconst (v := iI (0)) hx hb dHA_init_63 rfl ?_
        refine lv_istore (lv' := [(4, .int (iI 0)), (0, .ref t), (1, .ref r), (2, .ref b), (3, .ref cl)]) hx hb dHA_init_64 hl (by decide) rfl (fun ls hl => ?_)
        have lp66 : ∀ (n9 : Nat) (j : Nat) (co3 : Nat → Int), (j ≤ ks.length) → (∀ x, x < j → (ks.getD x (-1) ∈ K ∧ co3 x = 0) ∨ (ks.getD x (-1) ∉ K ∧ co3 x = -1)) → (ks.length - j) < n9 → ∀ (H : Heap) (locs : List Loc), va_P D vwCl [(t, .inr (4, [.ref ca9, .int (iI 0)])), (ca9, .inl (cI, ks.length, .inl (zf co3))), (r, .inr (5, [.ref a, .int (iI (ks.length : Int))])), (a, .inl (cI, n, .inl (zf f))), (cl, .inr (2, [.ref b, .ref fr, .ref ca, .int (iI cc2), .ref ge, .int (iI gc2)])), (b, .inr (1, [.ref lf, .ref rt])), (lf, .inl (cI, 9, .inl (zf gl2))), (rt, .inl (cI, 9, .inl (zf gr2))), (fr, .inr (5, [.ref fa, .int (iI (K.length : Int))])), (fa, .inl (cI, 192, .inl (zf ff2))), (ca, .inl (cI, 192, .inl (zf fc2))), (ge, .inl (cI, 10, .inl (zf fg2)))] H → va_D A [(t, .inr (4, [.ref ca9, .int (iI 0)])), (ca9, .inl (cI, ks.length, .inl (zf co3))), (r, .inr (5, [.ref a, .int (iI (ks.length : Int))])), (a, .inl (cI, n, .inl (zf f))), (cl, .inr (2, [.ref b, .ref fr, .ref ca, .int (iI cc2), .ref ge, .int (iI gc2)])), (b, .inr (1, [.ref lf, .ref rt])), (lf, .inl (cI, 9, .inl (zf gl2))), (rt, .inl (cI, 9, .inl (zf gr2))), (fr, .inr (5, [.ref fa, .int (iI (K.length : Int))])), (fa, .inl (cI, 192, .inl (zf ff2))), (ca, .inl (cI, 192, .inl (zf fc2))), (ge, .inl (cI, 10, .inl (zf fg2)))] → va_S A s.heap H locs → ∀ (ls : Array Slot), lv_has ls 5 [(0, .ref t), (1, .ref r), (2, .ref b), (3, .ref cl), (4, .int (iI (j : Int)))] → W p l e (headSpec wHA_init rmHA_init).room s m args below meth c H locs 1 192 Q (F0 m 66 ls []) := by
          intro n9
          induction n9 with
          | zero => intro j co3 hj hco hm; exact absurd hm (Nat.not_lt_zero _)
          | succ n9 ih66 =>
            intro j co3 hj hco hm66 H locs hP hD hS ls hl
            refine lv_iload hx hb dHA_init_66 (lv_at hl 4 rfl) ?_
            refine lv_aload_n hx hb dHA_init_68 rfl (lv_at hl 0 rfl) ?_
            refine va_get (D := D) (ci := 4) (v := .ref ca9) (C := nHA) (T := fHA) (N := 2) hx hb hts iwHA hown hK hP 0 rfl rfl 0 (by decide) (hts _ (List.mem_cons_of_mem _ lkHA_21)) (fun _ h9 => h9) rfl dHA_init_69 ?_
            refine lz_alen hx hb hK hP 1 0 rfl rfl dHA_init_72 ?_
            refine lz_icmp_ge (tgt := 110) hx hb dHA_init_73 (by decide) (by omega) (by omega) (fun c_73 => ?_) (fun c_73 => ?_)
            · have hH0 : HIv ks K co3 0 := HIv.start hG hsq (fun x hx9 => hco x (by omega))
              refine lv_iconst (v := iI (0)) hx hb dHA_init_110 rfl ?_
              refine lv_istore (lv' := [(4, .int (iI 0)), (0, .ref t), (1, .ref r), (2, .ref b), (3, .ref cl)]) hx hb dHA_init_111 hl (by decide) rfl (fun ls hl => ?_)
              have lp113 : ∀ (n9 : Nat) (j9 : Nat) (co4 : Nat → Int) (bb : Nat) (gl4 gr4 : Nat → Int), (j9 ≤ ks.length) → (HIv ks K co4 bb) → (bb < 8) → (∀ x, x < j9 → co4 x ≠ -1) → (ks.length - j9) < n9 → ∀ (H : Heap) (locs : List Loc), va_P D vwCl [(t, .inr (4, [.ref ca9, .int (iI (bb : Int))])), (ca9, .inl (cI, ks.length, .inl (zf co4))), (r, .inr (5, [.ref a, .int (iI (ks.length : Int))])), (a, .inl (cI, n, .inl (zf f))), (cl, .inr (2, [.ref b, .ref fr, .ref ca, .int (iI cc2), .ref ge, .int (iI gc2)])), (b, .inr (1, [.ref lf, .ref rt])), (lf, .inl (cI, 9, .inl (zf gl4))), (rt, .inl (cI, 9, .inl (zf gr4))), (fr, .inr (5, [.ref fa, .int (iI (K.length : Int))])), (fa, .inl (cI, 192, .inl (zf ff2))), (ca, .inl (cI, 192, .inl (zf fc2))), (ge, .inl (cI, 10, .inl (zf fg2)))] H → va_D A [(t, .inr (4, [.ref ca9, .int (iI (bb : Int))])), (ca9, .inl (cI, ks.length, .inl (zf co4))), (r, .inr (5, [.ref a, .int (iI (ks.length : Int))])), (a, .inl (cI, n, .inl (zf f))), (cl, .inr (2, [.ref b, .ref fr, .ref ca, .int (iI cc2), .ref ge, .int (iI gc2)])), (b, .inr (1, [.ref lf, .ref rt])), (lf, .inl (cI, 9, .inl (zf gl4))), (rt, .inl (cI, 9, .inl (zf gr4))), (fr, .inr (5, [.ref fa, .int (iI (K.length : Int))])), (fa, .inl (cI, 192, .inl (zf ff2))), (ca, .inl (cI, 192, .inl (zf fc2))), (ge, .inl (cI, 10, .inl (zf fg2)))] → va_S A s.heap H locs → ∀ (ls : Array Slot), lv_has ls 5 [(0, .ref t), (1, .ref r), (2, .ref b), (3, .ref cl), (4, .int (iI (j9 : Int)))] → W p l e (headSpec wHA_init rmHA_init).room s m args below meth c H locs 1 192 Q (F0 m 113 ls []) := by
                intro n9
                induction n9 with
                | zero => intro j9 co4 bb gl4 gr4 hj9 hH hbb hall hm; exact absurd hm (Nat.not_lt_zero _)
                | succ n9 ih113 =>
                  intro j9 co4 bb gl4 gr4 hj9 hH hbb hall hm113 H locs hP hD hS ls hl
                  refine lv_iload hx hb dHA_init_113 (lv_at hl 4 rfl) ?_
                  refine lv_aload_n hx hb dHA_init_115 rfl (lv_at hl 0 rfl) ?_
                  refine va_get (D := D) (ci := 4) (v := .ref ca9) (C := nHA) (T := fHA) (N := 2) hx hb hts iwHA hown hK hP 0 rfl rfl 0 (by decide) (hts _ (List.mem_cons_of_mem _ lkHA_21)) (fun _ h9 => h9) rfl dHA_init_116 ?_
                  refine lz_alen hx hb hK hP 1 0 rfl rfl dHA_init_119 ?_
                  refine lz_icmp_ge (tgt := 148) hx hb dHA_init_120 (by decide) (by omega) (by omega) (fun c_120 => ?_) (fun c_120 => ?_)
                  · exact hret H locs 1 192 148 ls (ca9, co4, (bb : Int), (K.length : Int), ff2, fc2, cc2, fg2, gc2, gl4, gr4) ⟨⟨K, bb, hsq, hH, fun x hx9 => hall x (by omega), rfl, hbb⟩, K, hC.1, rfl⟩ (hP.sub [0, 1, 2, 3, 4, 5, 6, 7, 8, 9, 10, 11] rfl) (hD.sub [0, 1, 2, 3, 4, 5, 6, 7, 8, 9, 10, 11] (by decide) rfl) hS (by decide) (by decide) dHA_init_148
                  · refine lv_aload_n hx hb dHA_init_123 rfl (lv_at hl 0 rfl) ?_
                    refine va_get (D := D) (ci := 4) (v := .ref ca9) (C := nHA) (T := fHA) (N := 2) hx hb hts iwHA hown hK hP 0 rfl rfl 0 (by decide) (hts _ (List.mem_cons_of_mem _ lkHA_21)) (fun _ h9 => h9) rfl dHA_init_124 ?_
                    refine lv_iload hx hb dHA_init_127 (lv_at hl 4 rfl) ?_
                    refine lz_ialk hx hb hK hP 1 0 rfl rfl (z := (j9 : Int)) j9 rfl (by omega) dHA_init_129 ?_
                    refine lv_iconst (v := iI (-1)) hx hb dHA_init_130 rfl ?_
                    refine lz_icmp_ne (tgt := 142) hx hb dHA_init_131 (by decide) (by have := hH.1 j9 (by omega); have := pow_le128 hbb; omega) (by omega) (fun c_131 => ?_) (fun c_131 => ?_)
                    · refine lz_iinc (lv' := [(4, .int (iI ((j9 : Int) + 1))), (0, .ref t), (1, .ref r), (2, .ref b), (3, .ref cl)]) hx hb dHA_init_142 hl (k := 4) rfl (by decide) rfl (fun ls hl => ?_)
                      refine lv_goto (tgt := 113) hx hb dHA_init_145 (by decide) ?_
                      exact ih113 (j9 + 1) co4 bb gl4 gr4 (by omega) hH hbb (fun x hx9 => by
                          rcases Nat.lt_or_ge x j9 with q | q
                          · exact hall x q
                          · obtain rfl : x = j9 := by omega
                            exact c_131) (by omega) _ _ (hP.sub [0, 1, 2, 3, 4, 5, 6, 7, 8, 9, 10, 11] rfl) (hD.sub [0, 1, 2, 3, 4, 5, 6, 7, 8, 9, 10, 11] (by decide) rfl) hS _ (lv_sub hl [1, 2, 3, 4, 0] rfl)
                    · refine lv_aload_n hx hb dHA_init_134 rfl (lv_at hl 0 rfl) ?_
                      refine lv_iload hx hb dHA_init_135 (lv_at hl 4 rfl) ?_
                      refine lv_aload_n hx hb dHA_init_137 rfl (lv_at hl 1 rfl) ?_
                      refine lv_aload_n hx hb dHA_init_138 rfl (lv_at hl 2 rfl) ?_
                      refine zV.back (va_runV (As := [.int (iI (j9 : Int)), .ref r, .ref b]) (rest := []) ⟨hx, hb, hml, hown, hts⟩ ((mHA_addBit l D cI cG t ca9 co4 bb r a n f ks b lf rt gl4 gr4 K j9 h hn hG hsq hH hbb (by omega) c_131) H.size) (cwV 3 hts (gT1 lkHA_51 (gT1 imHA_addBit (gT1 seHA_addBit (gT1 iniHA (gTW kcHA_addBit))))) rfl rfl rfl (by decide +kernel) ⟨Nat.le_of_ble_eq_true rfl, Nat.le_of_ble_eq_true rfl⟩) ⟨zPre_blind, va_recv hK hP (ci := 4) (q0 := 0) rfl rfl, zPre.at (wc := [(t, .inr (4, [.ref ca9, .int (iI (bb : Int))])), (ca9, .inl (cI, ks.length, .inl (zf co4))), (r, .inr (5, [.ref a, .int (iI (ks.length : Int))])), (a, .inl (cI, n, .inl (zf f))), (b, .inr (1, [.ref lf, .ref rt])), (lf, .inl (cI, 9, .inl (zf gl4))), (rt, .inl (cI, 9, .inl (zf gr4)))]) hK hP hD hS hA hX [0, 1, 2, 3, 5, 6, 7] (by decide) rfl⟩ rfl rfl hl.1 rfl (lv_room (Nat.le_of_ble_eq_true rfl)) dHA_init_139 ⟨Nat.le_of_ble_eq_true rfl, Nat.le_of_ble_eq_true rfl⟩) (wr := [(cl, .inr (2, [.ref b, .ref fr, .ref ca, .int (iI cc2), .ref ge, .int (iI gc2)])), (fr, .inr (5, [.ref fa, .int (iI (K.length : Int))])), (fa, .inl (cI, 192, .inl (zf ff2))), (ca, .inl (cI, 192, .inl (zf fc2))), (ge, .inl (cI, 10, .inl (zf fg2)))]) hP hD hS hA [0, 1, 2, 3, 5, 6, 7] [4, 8, 9, 10, 11] rfl rfl (by decide) (by decide) (fun u_139 H locs q_139 hP hD hS hz_139 hk_139 => ?_)
                      obtain ⟨co5, gl5, gr5⟩ := u_139
                      have q_139 : HAdd ks co4 co5 bb j9 := q_139
                      obtain ⟨hH5, hj5⟩ := hH.add hG hnd hsq (by omega) c_131 hall q_139
                      have hP : va_P D vwCl [(cl, .inr (2, [.ref b, .ref fr, .ref ca, .int (iI cc2), .ref ge, .int (iI gc2)])), (fr, .inr (5, [.ref fa, .int (iI (K.length : Int))])), (fa, .inl (cI, 192, .inl (zf ff2))), (ca, .inl (cI, 192, .inl (zf fc2))), (ge, .inl (cI, 10, .inl (zf fg2))), (t, .inr (4, [.ref ca9, .int (iI ((bb : Int) + 1))])), (ca9, .inl (cI, ks.length, .inl (zf co5))), (r, .inr (5, [.ref a, .int (iI (ks.length : Int))])), (a, .inl (cI, n, .inl (zf f))), (b, .inr (1, [.ref lf, .ref rt])), (lf, .inl (cI, 9, .inl (zf gl5))), (rt, .inl (cI, 9, .inl (zf gr5)))] H := hP
                      have hD : va_D A [(cl, .inr (2, [.ref b, .ref fr, .ref ca, .int (iI cc2), .ref ge, .int (iI gc2)])), (fr, .inr (5, [.ref fa, .int (iI (K.length : Int))])), (fa, .inl (cI, 192, .inl (zf ff2))), (ca, .inl (cI, 192, .inl (zf fc2))), (ge, .inl (cI, 10, .inl (zf fg2))), (t, .inr (4, [.ref ca9, .int (iI ((bb : Int) + 1))])), (ca9, .inl (cI, ks.length, .inl (zf co5))), (r, .inr (5, [.ref a, .int (iI (ks.length : Int))])), (a, .inl (cI, n, .inl (zf f))), (b, .inr (1, [.ref lf, .ref rt])), (lf, .inl (cI, 9, .inl (zf gl5))), (rt, .inl (cI, 9, .inl (zf gr5)))] := hD
                      refine lz_iinc (lv' := [(4, .int (iI ((j9 : Int) + 1))), (0, .ref t), (1, .ref r), (2, .ref b), (3, .ref cl)]) hx hb dHA_init_142 hl (k := 4) rfl (by decide) rfl (fun ls hl => ?_)
                      refine lv_goto (tgt := 113) hx hb dHA_init_145 (by decide) ?_
                      exact ih113 (j9 + 1) co5 (bb + 1) gl5 gr5 (by omega) hH5 (hH5.bits hn) (fun x hx9 => by
                          rcases Nat.lt_or_ge x j9 with q | q
                          · rw [q_139.1 x (by omega) (hall x q)]; exact hall x q
                          · obtain rfl : x = j9 := by omega
                            rw [hj5]; have := Nat.two_pow_pos bb; omega) (by omega) _ _ (hP.sub [5, 6, 7, 8, 0, 9, 10, 11, 1, 2, 3, 4] rfl) (hD.sub [5, 6, 7, 8, 0, 9, 10, 11, 1, 2, 3, 4] (by decide) rfl) hS _ (lv_sub hl [1, 2, 3, 4, 0] rfl)
              exact lp113 _ 0 co3 0 gl2 gr2 (Nat.zero_le _) hH0 (by decide) (fun x hx9 => absurd hx9 (Nat.not_lt_zero _)) (Nat.lt_succ_self _) _ _ (hP.sub [0, 1, 2, 3, 4, 5, 6, 7, 8, 9, 10, 11] rfl) (hD.sub [0, 1, 2, 3, 4, 5, 6, 7, 8, 9, 10, 11] (by decide) rfl) hS _ (lv_sub hl [1, 2, 3, 4, 0] rfl)
            · refine lv_aload_n hx hb dHA_init_76 rfl (lv_at hl 0 rfl) ?_
              refine va_get (D := D) (ci := 4) (v := .ref ca9) (C := nHA) (T := fHA) (N := 2) hx hb hts iwHA hown hK hP 0 rfl rfl 0 (by decide) (hts _ (List.mem_cons_of_mem _ lkHA_21)) (fun _ h9 => h9) rfl dHA_init_77 ?_
              refine lv_iload hx hb dHA_init_80 (lv_at hl 4 rfl) ?_
              refine lv_aload_n hx hb dHA_init_82 rfl (lv_at hl 3 rfl) ?_
              refine zRQ.back ((va_runV (As := []) (rest := [.int (iI (j : Int)), .ref ca9]) ⟨hx, hb, hml, hown, hts⟩ (mCL_found l D cI cG cl b lf rt fr fa ca ge cc2 gc2) (cwV 0 hts (gT1 lkHA_44 (gT1 imCL_found (gT1 seCL_found (gT1 iniCL (gTW kcCL_found))))) rfl rfl rfl (by decide +kernel) ⟨Nat.le_of_ble_eq_true rfl, Nat.le_of_ble_eq_true rfl⟩) ⟨zRd_blind, va_recv hK hP (ci := 2) (q0 := 4) rfl rfl, zRd.at (wc := [(cl, .inr (2, [.ref b, .ref fr, .ref ca, .int (iI cc2), .ref ge, .int (iI gc2)]))]) hK (hP.sub (ws' := [(cl, .inr (2, [.ref b, .ref fr, .ref ca, .int (iI cc2), .ref ge, .int (iI gc2)]))]) [4] rfl) (stF.now hX hS)⟩ rfl rfl hl.1 rfl (lv_room (Nat.le_of_ble_eq_true rfl)) dHA_init_83 ⟨Nat.le_of_ble_eq_true rfl, Nat.le_of_ble_eq_true rfl⟩).run) (fun r_83 q_83 => ?_)
              obtain rfl : r_83 = some fr := q_83
              refine lv_aload_n hx hb dHA_init_86 rfl (lv_at hl 1 rfl) ?_
              refine lv_iload hx hb dHA_init_87 (lv_at hl 4 rfl) ?_
              refine zRI.back ((va_runV (As := [.int (iI (j : Int))]) (rest := [.ref fr, .int (iI (j : Int)), .ref ca9]) ⟨hx, hb, hml, hown, hts⟩ (mRO_at l D cI cG r a n f ks (j : Int) h (by omega)) (cwV 1 hts (gT1 lkHA_30 (gT1 imRO_at (gT1 seRO_at (gT1 iniRO (gTW kcRO_at))))) rfl rfl rfl (by decide +kernel) ⟨Nat.le_of_ble_eq_true rfl, Nat.le_of_ble_eq_true rfl⟩) ⟨zRd_blind, va_recv hK hP (ci := 5) (q0 := 2) rfl rfl, zRd.at (wc := [(r, .inr (5, [.ref a, .int (iI (ks.length : Int))])), (a, .inl (cI, n, .inl (zf f)))]) hK (hP.sub (ws' := [(r, .inr (5, [.ref a, .int (iI (ks.length : Int))])), (a, .inl (cI, n, .inl (zf f)))]) [2, 3] rfl) (stF.now hX hS)⟩ rfl rfl hl.1 rfl (lv_room (Nat.le_of_ble_eq_true rfl)) dHA_init_89 ⟨Nat.le_of_ble_eq_true rfl, Nat.le_of_ble_eq_true rfl⟩).run) (fun z_89 q_89 => ?_)
              obtain rfl : z_89 = ks.getD j (-1) := by have q9 : z_89 = lat ks (j : Int) := q_89; rw [q9]; exact (lat_in (by omega) (by omega)).1
              refine zRI.back ((va_runV (As := [.int (iI (ks.getD j (-1)))]) (rest := [.int (iI (j : Int)), .ref ca9]) ⟨hx, hb, hml, hown, hts⟩ (mRO_has l D cI cG fr fa 192 ff2 K (ks.getD j (-1)) hC.1 (by have := hkk j (by omega); unfold kOK at this; omega)) (cwV 1 hts (gT1 lkHA_48 (gT1 imRO_has (gT1 seRO_has (gT1 iniRO (gTW kcRO_has))))) rfl rfl rfl (by decide +kernel) ⟨Nat.le_of_ble_eq_true rfl, Nat.le_of_ble_eq_true rfl⟩) ⟨zRd_blind, va_recv hK hP (ci := 5) (q0 := 8) rfl rfl, zRd.at (wc := [(fr, .inr (5, [.ref fa, .int (iI (K.length : Int))])), (fa, .inl (cI, 192, .inl (zf ff2)))]) hK (hP.sub (ws' := [(fr, .inr (5, [.ref fa, .int (iI (K.length : Int))])), (fa, .inl (cI, 192, .inl (zf ff2)))]) [8, 9] rfl) (stF.now hX hS)⟩ rfl rfl hl.1 rfl (lv_room (Nat.le_of_ble_eq_true rfl)) dHA_init_92 ⟨Nat.le_of_ble_eq_true rfl, Nat.le_of_ble_eq_true rfl⟩).run) (fun z_92 q_92 => ?_)
              have q_92 : (z_92 = 1 ∧ ks.getD j (-1) ∈ K) ∨ (z_92 = 0 ∧ ks.getD j (-1) ∉ K) := q_92
              refine lz_if_eq (tgt := 102) hx hb dHA_init_95 (by decide) (by rcases q_92 with ⟨q, _⟩ | ⟨q, _⟩ <;> omega) (fun c_95 => ?_) (fun c_95 => ?_)
              · refine lv_iconst (v := iI (-1)) hx hb dHA_init_102 rfl ?_
                refine lz_iask hx hb hK hP hD hS 1 0 rfl rfl (z := (j : Int)) (v := (-1)) j rfl (by omega) dHA_init_103 (fun H locs hP hD hS => ?_)
                have hP : va_P D vwCl [(t, .inr (4, [.ref ca9, .int (iI 0)])), (ca9, .inl (cI, ks.length, .inl (zf (zu co3 j (-1))))), (r, .inr (5, [.ref a, .int (iI (ks.length : Int))])), (a, .inl (cI, n, .inl (zf f))), (cl, .inr (2, [.ref b, .ref fr, .ref ca, .int (iI cc2), .ref ge, .int (iI gc2)])), (b, .inr (1, [.ref lf, .ref rt])), (lf, .inl (cI, 9, .inl (zf gl2))), (rt, .inl (cI, 9, .inl (zf gr2))), (fr, .inr (5, [.ref fa, .int (iI (K.length : Int))])), (fa, .inl (cI, 192, .inl (zf ff2))), (ca, .inl (cI, 192, .inl (zf fc2))), (ge, .inl (cI, 10, .inl (zf fg2)))] H := hP
                have hD : va_D A [(t, .inr (4, [.ref ca9, .int (iI 0)])), (ca9, .inl (cI, ks.length, .inl (zf (zu co3 j (-1))))), (r, .inr (5, [.ref a, .int (iI (ks.length : Int))])), (a, .inl (cI, n, .inl (zf f))), (cl, .inr (2, [.ref b, .ref fr, .ref ca, .int (iI cc2), .ref ge, .int (iI gc2)])), (b, .inr (1, [.ref lf, .ref rt])), (lf, .inl (cI, 9, .inl (zf gl2))), (rt, .inl (cI, 9, .inl (zf gr2))), (fr, .inr (5, [.ref fa, .int (iI (K.length : Int))])), (fa, .inl (cI, 192, .inl (zf ff2))), (ca, .inl (cI, 192, .inl (zf fc2))), (ge, .inl (cI, 10, .inl (zf fg2)))] := hD
                refine lz_iinc (lv' := [(4, .int (iI ((j : Int) + 1))), (0, .ref t), (1, .ref r), (2, .ref b), (3, .ref cl)]) hx hb dHA_init_104 hl (k := 4) rfl (by decide) rfl (fun ls hl => ?_)
                refine lv_goto (tgt := 66) hx hb dHA_init_107 (by decide) ?_
                exact ih66 (j + 1) (zu co3 j (-1)) (by omega) (fun x hx9 => by
                    rcases Nat.lt_or_ge x j with q | q
                    · rw [zu_n _ _ (by omega)]; exact hco x q
                    · obtain rfl : x = j := by omega
                      rw [zu_s]
                      exact Or.inr ⟨by rcases q_92 with ⟨q9, _⟩ | ⟨_, q9⟩ <;> first | exact q9 | omega, rfl⟩) (by omega) _ _ (hP.sub [0, 1, 2, 3, 4, 5, 6, 7, 8, 9, 10, 11] rfl) (hD.sub [0, 1, 2, 3, 4, 5, 6, 7, 8, 9, 10, 11] (by decide) rfl) hS _ (lv_sub hl [1, 2, 3, 4, 0] rfl)
              · refine lv_iconst (v := iI (0)) hx hb dHA_init_98 rfl ?_
                refine lv_goto (tgt := 103) hx hb dHA_init_99 (by decide) ?_
                refine lz_iask hx hb hK hP hD hS 1 0 rfl rfl (z := (j : Int)) (v := 0) j rfl (by omega) dHA_init_103 (fun H locs hP hD hS => ?_)
                have hP : va_P D vwCl [(t, .inr (4, [.ref ca9, .int (iI 0)])), (ca9, .inl (cI, ks.length, .inl (zf (zu co3 j 0)))), (r, .inr (5, [.ref a, .int (iI (ks.length : Int))])), (a, .inl (cI, n, .inl (zf f))), (cl, .inr (2, [.ref b, .ref fr, .ref ca, .int (iI cc2), .ref ge, .int (iI gc2)])), (b, .inr (1, [.ref lf, .ref rt])), (lf, .inl (cI, 9, .inl (zf gl2))), (rt, .inl (cI, 9, .inl (zf gr2))), (fr, .inr (5, [.ref fa, .int (iI (K.length : Int))])), (fa, .inl (cI, 192, .inl (zf ff2))), (ca, .inl (cI, 192, .inl (zf fc2))), (ge, .inl (cI, 10, .inl (zf fg2)))] H := hP
                have hD : va_D A [(t, .inr (4, [.ref ca9, .int (iI 0)])), (ca9, .inl (cI, ks.length, .inl (zf (zu co3 j 0)))), (r, .inr (5, [.ref a, .int (iI (ks.length : Int))])), (a, .inl (cI, n, .inl (zf f))), (cl, .inr (2, [.ref b, .ref fr, .ref ca, .int (iI cc2), .ref ge, .int (iI gc2)])), (b, .inr (1, [.ref lf, .ref rt])), (lf, .inl (cI, 9, .inl (zf gl2))), (rt, .inl (cI, 9, .inl (zf gr2))), (fr, .inr (5, [.ref fa, .int (iI (K.length : Int))])), (fa, .inl (cI, 192, .inl (zf ff2))), (ca, .inl (cI, 192, .inl (zf fc2))), (ge, .inl (cI, 10, .inl (zf fg2)))] := hD
                refine lz_iinc (lv' := [(4, .int (iI ((j : Int) + 1))), (0, .ref t), (1, .ref r), (2, .ref b), (3, .ref cl)]) hx hb dHA_init_104 hl (k := 4) rfl (by decide) rfl (fun ls hl => ?_)
                refine lv_goto (tgt := 66) hx hb dHA_init_107 (by decide) ?_
                exact ih66 (j + 1) (zu co3 j 0) (by omega) (fun x hx9 => by
                    rcases Nat.lt_or_ge x j with q | q
                    · rw [zu_n _ _ (by omega)]; exact hco x q
                    · obtain rfl : x = j := by omega
                      rw [zu_s]
                      exact Or.inl ⟨by rcases q_92 with ⟨_, q9⟩ | ⟨q9, _⟩ <;> first | exact q9 | omega, rfl⟩) (by omega) _ _ (hP.sub [0, 1, 2, 3, 4, 5, 6, 7, 8, 9, 10, 11] rfl) (hD.sub [0, 1, 2, 3, 4, 5, 6, 7, 8, 9, 10, 11] (by decide) rfl) hS _ (lv_sub hl [1, 2, 3, 4, 0] rfl)
        exact lp66 _ 0 (fun _ => 0) (Nat.zero_le _) (fun x hx9 => absurd hx9 (Nat.not_lt_zero _)) (Nat.lt_succ_self _) _ _ (hP.sub [0, 1, 2, 3, 4, 5, 6, 7, 8, 9, 10, 11] rfl) (hD.sub [0, 1, 2, 3, 4, 5, 6, 7, 8, 9, 10, 11] (by decide) rfl) hS _ (lv_sub hl [1, 2, 3, 4, 0] rfl)
      · have hsqk : timesK (ks.getD i (-1)) (ks.getD i (-1)) ∈ ks := hG.2.2.2 _ (getD_mem (by omega)) _ (getD_mem (by omega))
        refine lv_aload_n hx hb dHA_init_36 rfl (lv_at hl 3 rfl) ?_
        refine lv_aload_n hx hb dHA_init_37 rfl (lv_at hl 2 rfl) ?_
        refine lv_aload_n hx hb dHA_init_38 rfl (lv_at hl 1 rfl) ?_
        refine lv_iload hx hb dHA_init_39 (lv_at hl 4 rfl) ?_
        refine zRI.back ((va_runV (As := [.int (iI (i : Int))]) (rest := [.ref b, .ref cl]) ⟨hx, hb, hml, hown, hts⟩ (mRO_at l D cI cG r a n f ks (i : Int) h (by omega)) (cwV 1 hts (gT1 lkHA_30 (gT1 imRO_at (gT1 seRO_at (gT1 iniRO (gTW kcRO_at))))) rfl rfl rfl (by decide +kernel) ⟨Nat.le_of_ble_eq_true rfl, Nat.le_of_ble_eq_true rfl⟩) ⟨zRd_blind, va_recv hK hP (ci := 5) (q0 := 2) rfl rfl, zRd.at (wc := [(r, .inr (5, [.ref a, .int (iI (ks.length : Int))])), (a, .inl (cI, n, .inl (zf f)))]) hK (hP.sub (ws' := [(r, .inr (5, [.ref a, .int (iI (ks.length : Int))])), (a, .inl (cI, n, .inl (zf f)))]) [2, 3] rfl) (stF.now hX hS)⟩ rfl rfl hl.1 rfl (lv_room (Nat.le_of_ble_eq_true rfl)) dHA_init_41 ⟨Nat.le_of_ble_eq_true rfl, Nat.le_of_ble_eq_true rfl⟩).run) (fun z_41 q_41 => ?_)
        obtain rfl : z_41 = ks.getD i (-1) := by have q9 : z_41 = lat ks (i : Int) := q_41; rw [q9]; exact (lat_in (by omega) (by omega)).1
        refine lv_aload_n hx hb dHA_init_44 rfl (lv_at hl 1 rfl) ?_
        refine lv_iload hx hb dHA_init_45 (lv_at hl 4 rfl) ?_
        refine zRI.back ((va_runV (As := [.int (iI (i : Int))]) (rest := [.int (iI (ks.getD i (-1))), .ref b, .ref cl]) ⟨hx, hb, hml, hown, hts⟩ (mRO_at l D cI cG r a n f ks (i : Int) h (by omega)) (cwV 1 hts (gT1 lkHA_30 (gT1 imRO_at (gT1 seRO_at (gT1 iniRO (gTW kcRO_at))))) rfl rfl rfl (by decide +kernel) ⟨Nat.le_of_ble_eq_true rfl, Nat.le_of_ble_eq_true rfl⟩) ⟨zRd_blind, va_recv hK hP (ci := 5) (q0 := 2) rfl rfl, zRd.at (wc := [(r, .inr (5, [.ref a, .int (iI (ks.length : Int))])), (a, .inl (cI, n, .inl (zf f)))]) hK (hP.sub (ws' := [(r, .inr (5, [.ref a, .int (iI (ks.length : Int))])), (a, .inl (cI, n, .inl (zf f)))]) [2, 3] rfl) (stF.now hX hS)⟩ rfl rfl hl.1 rfl (lv_room (Nat.le_of_ble_eq_true rfl)) dHA_init_47 ⟨Nat.le_of_ble_eq_true rfl, Nat.le_of_ble_eq_true rfl⟩).run) (fun z_47 q_47 => ?_)
        obtain rfl : z_47 = ks.getD i (-1) := by have q9 : z_47 = lat ks (i : Int) := q_47; rw [q9]; exact (lat_in (by omega) (by omega)).1
        refine zI.back (va_runV (As := [.int (iI (ks.getD i (-1))), .int (iI (ks.getD i (-1)))]) (rest := [.ref cl]) ⟨hx, hb, hml, hown, hts⟩ ((mBE_times l D cI cG b lf rt gl2 gr2 (ks.getD i (-1)) (ks.getD i (-1)) (hkk i (by omega)) (hkk i (by omega))) H.size) (cwV 2 hts (gT1 lkHA_34 (gT1 imBE_times (gT1 seBE_times (gT1 iniBE (gTW kcBE_times))))) rfl rfl rfl (by decide +kernel) ⟨Nat.le_of_ble_eq_true rfl, Nat.le_of_ble_eq_true rfl⟩) ⟨zPre_blind, va_recv hK hP (ci := 1) (q0 := 5) rfl rfl, zPre.at (wc := [(b, .inr (1, [.ref lf, .ref rt])), (lf, .inl (cI, 9, .inl (zf gl2))), (rt, .inl (cI, 9, .inl (zf gr2)))]) hK hP hD hS hA hX [5, 6, 7] (by decide) rfl⟩ rfl rfl hl.1 rfl (lv_room (Nat.le_of_ble_eq_true rfl)) dHA_init_50 ⟨Nat.le_of_ble_eq_true rfl, Nat.le_of_ble_eq_true rfl⟩) (wr := [(t, .inr (4, [.ref ca9, .int (iI 0)])), (ca9, .inl (cI, ks.length, .inl (zf (fun _ => 0)))), (r, .inr (5, [.ref a, .int (iI (ks.length : Int))])), (a, .inl (cI, n, .inl (zf f))), (cl, .inr (2, [.ref b, .ref fr, .ref ca, .int (iI cc2), .ref ge, .int (iI gc2)])), (fr, .inr (5, [.ref fa, .int (iI fs2)])), (fa, .inl (cI, 192, .inl (zf ff2))), (ca, .inl (cI, 192, .inl (zf fc2))), (ge, .inl (cI, 10, .inl (zf fg2)))]) hP hD hS hA [5, 6, 7] [0, 1, 2, 3, 4, 8, 9, 10, 11] rfl rfl (by decide) (by decide) (fun z_50 u_50 H locs q_50 hP hD hS hz_50 hk_50 => ?_)
        obtain rfl : z_50 = timesK (ks.getD i (-1)) (ks.getD i (-1)) := q_50
        have hP : va_P D vwCl [(t, .inr (4, [.ref ca9, .int (iI 0)])), (ca9, .inl (cI, ks.length, .inl (zf (fun _ => 0)))), (r, .inr (5, [.ref a, .int (iI (ks.length : Int))])), (a, .inl (cI, n, .inl (zf f))), (cl, .inr (2, [.ref b, .ref fr, .ref ca, .int (iI cc2), .ref ge, .int (iI gc2)])), (fr, .inr (5, [.ref fa, .int (iI fs2)])), (fa, .inl (cI, 192, .inl (zf ff2))), (ca, .inl (cI, 192, .inl (zf fc2))), (ge, .inl (cI, 10, .inl (zf fg2))), (b, .inr (1, [.ref lf, .ref rt])), (lf, .inl (cI, 9, .inl (zf (rd (ks.getD i (-1)) gl2)))), (rt, .inl (cI, 9, .inl (zf (rd (ks.getD i (-1)) gr2))))] H := hP
        have hD : va_D A [(t, .inr (4, [.ref ca9, .int (iI 0)])), (ca9, .inl (cI, ks.length, .inl (zf (fun _ => 0)))), (r, .inr (5, [.ref a, .int (iI (ks.length : Int))])), (a, .inl (cI, n, .inl (zf f))), (cl, .inr (2, [.ref b, .ref fr, .ref ca, .int (iI cc2), .ref ge, .int (iI gc2)])), (fr, .inr (5, [.ref fa, .int (iI fs2)])), (fa, .inl (cI, 192, .inl (zf ff2))), (ca, .inl (cI, 192, .inl (zf fc2))), (ge, .inl (cI, 10, .inl (zf fg2))), (b, .inr (1, [.ref lf, .ref rt])), (lf, .inl (cI, 9, .inl (zf (rd (ks.getD i (-1)) gl2)))), (rt, .inl (cI, 9, .inl (zf (rd (ks.getD i (-1)) gr2))))] := hD
        refine zI.back (va_runV (As := [.int (iI (timesK (ks.getD i (-1)) (ks.getD i (-1))))]) (rest := []) ⟨hx, hb, hml, hown, hts⟩ ((mCL_take l D cI cG cl b lf rt fr fa ca ge fs2 ff2 fc2 cc2 fg2 gc2 (rd (ks.getD i (-1)) gl2) (rd (ks.getD i (-1)) gr2) K cm gs (timesK (ks.getD i (-1)) (ks.getD i (-1))) hC hV (hG.2.2.1 _ hsqk)) H.size) (cwV 1 hts (gT1 lkHA_40 (gT1 imCL_take (gT1 seCL_take (gT1 iniCL (gTW kcCL_take))))) rfl rfl rfl (by decide +kernel) ⟨Nat.le_of_ble_eq_true rfl, Nat.le_of_ble_eq_true rfl⟩) ⟨zPre_blind, va_recv hK hP (ci := 2) (q0 := 4) rfl rfl, zPre.at (wc := [(cl, .inr (2, [.ref b, .ref fr, .ref ca, .int (iI cc2), .ref ge, .int (iI gc2)])), (b, .inr (1, [.ref lf, .ref rt])), (lf, .inl (cI, 9, .inl (zf (rd (ks.getD i (-1)) gl2)))), (rt, .inl (cI, 9, .inl (zf (rd (ks.getD i (-1)) gr2)))), (fr, .inr (5, [.ref fa, .int (iI fs2)])), (fa, .inl (cI, 192, .inl (zf ff2))), (ca, .inl (cI, 192, .inl (zf fc2))), (ge, .inl (cI, 10, .inl (zf fg2)))]) hK hP hD hS hA hX [4, 9, 10, 11, 5, 6, 7, 8] (by decide) rfl⟩ rfl rfl hl.1 rfl (lv_room (Nat.le_of_ble_eq_true rfl)) dHA_init_53 ⟨Nat.le_of_ble_eq_true rfl, Nat.le_of_ble_eq_true rfl⟩) (wr := [(t, .inr (4, [.ref ca9, .int (iI 0)])), (ca9, .inl (cI, ks.length, .inl (zf (fun _ => 0)))), (r, .inr (5, [.ref a, .int (iI (ks.length : Int))])), (a, .inl (cI, n, .inl (zf f)))]) hP hD hS hA [4, 9, 10, 11, 5, 6, 7, 8] [0, 1, 2, 3] rfl rfl (by decide) (by decide) (fun z_53 u_53 H locs q_53 hP hD hS hz_53 hk_53 => ?_)
        obtain ⟨fs3, ff3, fc3, cc3, fg3, gc3, gl3, gr3⟩ := u_53
        have hgk : ∀ a ∈ gs ++ [timesK (ks.getD i (-1)) (ks.getD i (-1))], a ∈ ks := fun a ha => (List.mem_append.mp ha).elim (fun q => hgs a q) (fun q => by rw [List.mem_singleton.mp q]; exact hsqk)
        obtain ⟨K2, cm2, gs2, hC2, hV2, hin2, hg2⟩ : ∃ K2 cm2 gs2, CSt fs3 ff3 fc3 cc3 fg3 gc3 K2 cm2 gs2 ∧ CIv K2 cm2 gs2 ∧ timesK (ks.getD i (-1)) (ks.getD i (-1)) ∈ K2 ∧ (gs2 = gs ∨ gs2 = gs ++ [timesK (ks.getD i (-1)) (ks.getD i (-1))]) := by
          rcases q_53 with ⟨_, q⟩ | ⟨_, _, q⟩
          · exact q
          · exact absurd (hgen.sub (fun a ha => hG.2.2.1 a ha) hgk) q
        have hgs2 : ∀ a ∈ gs2, a ∈ ks := by
          rcases hg2 with q | q
          · rw [q]; exact hgs
          · rw [q]; exact hgk
        have hsubK : ∀ x ∈ K, x ∈ K2 := fun x hx9 => by
          have h1 := (hV.2.2.1.2.2.1 x).mp hx9
          refine (hV2.2.2.1.2.2.1 x).mpr ?_
          rcases hg2 with q | q
          · rw [q]; exact h1
          · rw [q]; exact Reach.mono (fun b hb9 => List.mem_append_left _ hb9) h1
        clear q_53 hgk
        have hP : va_P D vwCl [(t, .inr (4, [.ref ca9, .int (iI 0)])), (ca9, .inl (cI, ks.length, .inl (zf (fun _ => 0)))), (r, .inr (5, [.ref a, .int (iI (ks.length : Int))])), (a, .inl (cI, n, .inl (zf f))), (cl, .inr (2, [.ref b, .ref fr, .ref ca, .int (iI cc3), .ref ge, .int (iI gc3)])), (b, .inr (1, [.ref lf, .ref rt])), (lf, .inl (cI, 9, .inl (zf gl3))), (rt, .inl (cI, 9, .inl (zf gr3))), (fr, .inr (5, [.ref fa, .int (iI fs3)])), (fa, .inl (cI, 192, .inl (zf ff3))), (ca, .inl (cI, 192, .inl (zf fc3))), (ge, .inl (cI, 10, .inl (zf fg3)))] H := hP
        have hD : va_D A [(t, .inr (4, [.ref ca9, .int (iI 0)])), (ca9, .inl (cI, ks.length, .inl (zf (fun _ => 0)))), (r, .inr (5, [.ref a, .int (iI (ks.length : Int))])), (a, .inl (cI, n, .inl (zf f))), (cl, .inr (2, [.ref b, .ref fr, .ref ca, .int (iI cc3), .ref ge, .int (iI gc3)])), (b, .inr (1, [.ref lf, .ref rt])), (lf, .inl (cI, 9, .inl (zf gl3))), (rt, .inl (cI, 9, .inl (zf gr3))), (fr, .inr (5, [.ref fa, .int (iI fs3)])), (fa, .inl (cI, 192, .inl (zf ff3))), (ca, .inl (cI, 192, .inl (zf fc3))), (ge, .inl (cI, 10, .inl (zf fg3)))] := hD
        refine lv_pop hx hb dHA_init_56 rfl ?_
        refine lz_iinc (lv' := [(4, .int (iI ((i : Int) + 1))), (0, .ref t), (1, .ref r), (2, .ref b), (3, .ref cl)]) hx hb dHA_init_57 hl (k := 4) rfl (by decide) rfl (fun ls hl => ?_)
        refine lv_goto (tgt := 26) hx hb dHA_init_60 (by decide) ?_
        exact ih26 (i + 1) fs3 ff3 fc3 cc3 fg3 gc3 gl3 gr3 K2 cm2 gs2 (by omega) hC2 hV2 hgs2 (fun j hj => by
            rcases Nat.lt_or_ge j i with q | q
            · exact hsubK _ (hKi j q)
            · obtain rfl : j = i := by omega
              exact hin2) (by omega) _ _ (hP.sub [0, 1, 2, 3, 4, 5, 6, 7, 8, 9, 10, 11] rfl) (hD.sub [0, 1, 2, 3, 4, 5, 6, 7, 8, 9, 10, 11] (by decide) rfl) hS _ (lv_sub hl [1, 2, 3, 4, 0] rfl)
  exact lp26 _ 0 fs1 ff1 fc1 cc1 fg1 gc1 gl1 gr1 ([u0]) ([u0]) ([]) (Nat.zero_le _) q_20 CIv.start (fun a ha => absurd ha List.not_mem_nil) (fun j hj => absurd hj (Nat.not_lt_zero _)) (Nat.lt_succ_self _) _ _ (hP.sub [0, 3, 1, 2, 4, 5, 6, 7, 8, 9, 10, 11] rfl) (hD.sub [0, 3, 1, 2, 4, 5, 6, 7, 8, 9, 10, 11] (by decide) rfl) hS _ (lv_sub hl [1, 2, 3, 4, 0] rfl)

def rmHA_gather : Room := { frames := 2, cells := 0, slots := 0, locals := 82 }
set_option maxHeartbeats 4000000 in
set_option maxRecDepth 100000 in
theorem mHA_gather (l : Launch) (D : va_G) (cI cG : ClassId) (t ca9 : Nat) (co : Nat → Int) (bb k : Nat) (r a n : Nat) (f : Nat → Int) (ks : List Int) (r2 a2 : Nat) (f2 : Nat → Int) (K2 : List Int) (h : rowOK n f ks) (hn : ks.length ≤ 192) (hco : ∀ x, x < ks.length → 0 ≤ co x ∧ (co x).toNat < 2 ^ bb) (hbb : bb < 8) (hk : k + 1 < 256) (h2 : rowOK 192 f2 K2) : zV l yHA_gather wHA_gather rmHA_gather D vwCl (zT cI cG) [.ref t, .int (iI (k : Int)), .ref r, .ref r2] [(t, .inr (4, [.ref ca9, .int (iI (bb : Int))])), (ca9, .inl (cI, ks.length, .inl (zf co))), (r, .inr (5, [.ref a, .int (iI (ks.length : Int))])), (a, .inl (cI, n, .inl (zf f))), (r2, .inr (5, [.ref a2, .int (iI (K2.length : Int))])), (a2, .inl (cI, 192, .inl (zf f2)))] (S := (Nat → Int)) (fun u => rowOK 192 u (selT ks (hpar co (revB (k + 1) bb)) ks.length)) (fun u => [(t, .inr (4, [.ref ca9, .int (iI (bb : Int))])), (ca9, .inl (cI, ks.length, .inl (zf co))), (r, .inr (5, [.ref a, .int (iI (ks.length : Int))])), (a, .inl (cI, n, .inl (zf f))), (r2, .inr (5, [.ref a2, .int (iI ((selT ks (hpar co (revB (k + 1) bb)) ks.length).length : Int))])), (a2, .inl (cI, 192, .inl (zf u)))]) := by
  refine zV.of (cc := cHA_gather) (maxL := 6) (by decide) rfl (Nat.le_of_ble_eq_true rfl) ?_
  intro p e s m args below meth c A ls Q hx hb hml hown hts hnm hK hD hA hAe hX hl hret H locs hP hS
  have hl : lv_has ls 6 [(0, .ref t), (1, .int (iI (k : Int))), (2, .ref r), (3, .ref r2)] := hl
  have hb1 := h.1
  have hb2 := h.2.1
  have hp9 := pow_le128 hbb
  have hrv := revB_lt (k + 1) bb
  have hr0 : rowOK 192 f2 [] := ⟨by decide, by decide, fun j hj => absurd hj (Nat.not_lt_zero _), List.Pairwise.nil, fun x hx => absurd hx List.not_mem_nil⟩
  have hrg := @rowOK.rng n f ks h
  refine lv_aload_n hx hb dHA_gather_0 rfl (lv_at hl 0 rfl) ?_
  refine lv_iload_n hx hb dHA_gather_1 rfl (lv_at hl 1 rfl) ?_
  refine zRI.back ((va_runV (As := [.int (iI (k : Int))]) (rest := []) ⟨hx, hb, hml, hown, hts⟩ (mHA_refusedBits l D cI cG t ca9 bb k hbb hk) (cwV 1 hts (gT1 lkHA_55 (gT1 imHA_refusedBits (gT1 seHA_refusedBits (gT1 iniHA (gTW kcHA_refusedBits))))) rfl rfl rfl (by decide +kernel) ⟨Nat.le_of_ble_eq_true rfl, Nat.le_of_ble_eq_true rfl⟩) ⟨zRd_blind, va_recv hK hP (ci := 4) (q0 := 0) rfl rfl, zRd.at (wc := [(t, .inr (4, [.ref ca9, .int (iI (bb : Int))]))]) hK (hP.sub (ws' := [(t, .inr (4, [.ref ca9, .int (iI (bb : Int))]))]) [0] rfl) (stF.now hX hS)⟩ rfl rfl hl.1 rfl (lv_room (Nat.le_of_ble_eq_true rfl)) dHA_gather_2 ⟨Nat.le_of_ble_eq_true rfl, Nat.le_of_ble_eq_true rfl⟩).run) (fun z_2 q_2 => ?_)
  obtain rfl : z_2 = ((revB (k + 1) bb : Nat) : Int) := q_2
  refine lv_istore (lv' := [(4, .int (iI ((revB (k + 1) bb : Nat) : Int))), (0, .ref t), (1, .int (iI (k : Int))), (2, .ref r), (3, .ref r2)]) hx hb dHA_gather_5 hl (by decide) rfl (fun ls hl => ?_)
  refine lv_aload_n hx hb dHA_gather_7 rfl (lv_at hl 4 rfl) ?_
  refine zV.back (va_runV (As := []) (rest := []) ⟨hx, hb, hml, hown, hts⟩ ((mRO_clear l D cI cG r2 a2 (K2.length : Int)) H.size) (cwV 0 hts (gT1 lkHA_58 (gT1 imRO_clear (gT1 seRO_clear (gT1 iniRO (gTW kcRO_clear))))) rfl rfl rfl (by decide +kernel) ⟨Nat.le_of_ble_eq_true rfl, Nat.le_of_ble_eq_true rfl⟩) ⟨zPre_blind, va_recv hK hP (ci := 5) (q0 := 4) rfl rfl, zPre.at (wc := [(r2, .inr (5, [.ref a2, .int (iI (K2.length : Int))]))]) hK hP hD hS hA hX [4] (by decide) rfl⟩ rfl rfl hl.1 rfl (lv_room (Nat.le_of_ble_eq_true rfl)) dHA_gather_8 ⟨Nat.le_of_ble_eq_true rfl, Nat.le_of_ble_eq_true rfl⟩) (wr := [(t, .inr (4, [.ref ca9, .int (iI (bb : Int))])), (ca9, .inl (cI, ks.length, .inl (zf co))), (r, .inr (5, [.ref a, .int (iI (ks.length : Int))])), (a, .inl (cI, n, .inl (zf f))), (a2, .inl (cI, 192, .inl (zf f2)))]) hP hD hS hA [4] [0, 1, 2, 3, 5] rfl rfl (by decide) (by decide) (fun u_8 H locs q_8 hP hD hS hz_8 hk_8 => ?_)
  have hP : va_P D vwCl [(t, .inr (4, [.ref ca9, .int (iI (bb : Int))])), (ca9, .inl (cI, ks.length, .inl (zf co))), (r, .inr (5, [.ref a, .int (iI (ks.length : Int))])), (a, .inl (cI, n, .inl (zf f))), (a2, .inl (cI, 192, .inl (zf f2))), (r2, .inr (5, [.ref a2, .int (iI 0)]))] H := hP
  have hD : va_D A [(t, .inr (4, [.ref ca9, .int (iI (bb : Int))])), (ca9, .inl (cI, ks.length, .inl (zf co))), (r, .inr (5, [.ref a, .int (iI (ks.length : Int))])), (a, .inl (cI, n, .inl (zf f))), (a2, .inl (cI, 192, .inl (zf f2))), (r2, .inr (5, [.ref a2, .int (iI 0)]))] := hD
  refine lv_iconst (v := iI (0)) hx hb dHA_gather_11 rfl ?_
  refine lv_istore (lv' := [(5, .int (iI 0)), (4, .int (iI ((revB (k + 1) bb : Nat) : Int))), (0, .ref t), (1, .int (iI (k : Int))), (2, .ref r), (3, .ref r2)]) hx hb dHA_gather_12 hl (by decide) rfl (fun ls hl => ?_)
  have lp14 : ∀ (n9 : Nat) (i : Nat) (f1 : Nat → Int), (i ≤ ks.length) → (rowOK 192 f1 (selT ks (hpar co (revB (k + 1) bb)) i)) → (ks.length - i) < n9 → ∀ (H : Heap) (locs : List Loc), va_P D vwCl [(t, .inr (4, [.ref ca9, .int (iI (bb : Int))])), (ca9, .inl (cI, ks.length, .inl (zf co))), (r, .inr (5, [.ref a, .int (iI (ks.length : Int))])), (a, .inl (cI, n, .inl (zf f))), (r2, .inr (5, [.ref a2, .int (iI ((selT ks (hpar co (revB (k + 1) bb)) i).length : Int))])), (a2, .inl (cI, 192, .inl (zf f1)))] H → va_D A [(t, .inr (4, [.ref ca9, .int (iI (bb : Int))])), (ca9, .inl (cI, ks.length, .inl (zf co))), (r, .inr (5, [.ref a, .int (iI (ks.length : Int))])), (a, .inl (cI, n, .inl (zf f))), (r2, .inr (5, [.ref a2, .int (iI ((selT ks (hpar co (revB (k + 1) bb)) i).length : Int))])), (a2, .inl (cI, 192, .inl (zf f1)))] → va_S A s.heap H locs → ∀ (ls : Array Slot), lv_has ls 6 [(0, .ref t), (2, .ref r), (3, .ref r2), (4, .int (iI ((revB (k + 1) bb : Nat) : Int))), (5, .int (iI (i : Int)))] → W p l e (headSpec wHA_gather rmHA_gather).room s m args below meth c H locs 0 0 Q (F0 m 14 ls []) := by
    intro n9
    induction n9 with
    | zero => intro i f1 hi hI hm; exact absurd hm (Nat.not_lt_zero _)
    | succ n9 ih14 =>
      intro i f1 hi hI hm14 H locs hP hD hS ls hl
      refine lv_iload hx hb dHA_gather_14 (lv_at hl 4 rfl) ?_
      refine lv_aload_n hx hb dHA_gather_16 rfl (lv_at hl 0 rfl) ?_
      refine va_get (D := D) (ci := 4) (v := .ref ca9) (C := nHA) (T := fHA) (N := 2) hx hb hts iwHA hown hK hP 0 rfl rfl 0 (by decide) (hts _ (List.mem_cons_of_mem _ lkHA_21)) (fun _ h9 => h9) rfl dHA_gather_17 ?_
      refine lz_alen hx hb hK hP 1 0 rfl rfl dHA_gather_20 ?_
      refine lz_icmp_ge (tgt := 59) hx hb dHA_gather_21 (by decide) (by omega) (by omega) (fun c_21 => ?_) (fun c_21 => ?_)
      · have hin : i = ks.length := by omega
        rw [hin] at hI hP hD
        exact hret H locs 0 0 59 ls f1 hI (hP.sub [0, 1, 2, 3, 4, 5] rfl) (hD.sub [0, 1, 2, 3, 4, 5] (by decide) rfl) hS (Nat.zero_le _) (Nat.zero_le _) dHA_gather_59
      · have hci := hco i (by omega)
        have hand : (co i).toNat &&& (revB (k + 1) bb) < 128 := Nat.lt_of_le_of_lt Nat.and_le_left (by omega)
        have hpc := pcN_le _ hand
        refine lv_aload_n hx hb dHA_gather_24 rfl (lv_at hl 0 rfl) ?_
        refine va_get (D := D) (ci := 4) (v := .ref ca9) (C := nHA) (T := fHA) (N := 2) hx hb hts iwHA hown hK hP 0 rfl rfl 0 (by decide) (hts _ (List.mem_cons_of_mem _ lkHA_21)) (fun _ h9 => h9) rfl dHA_gather_25 ?_
        refine lv_iload hx hb dHA_gather_28 (lv_at hl 4 rfl) ?_
        refine lz_ialk hx hb hK hP 1 0 rfl rfl (z := (i : Int)) i rfl (by omega) dHA_gather_30 ?_
        refine lv_iload hx hb dHA_gather_31 (lv_at hl 3 rfl) ?_
        refine lz_iand (z := (((co i).toNat &&& (revB (k + 1) bb) : Nat) : Int)) hx hb dHA_gather_33 (by rw [show co i = (((co i).toNat : Nat) : Int) by have := hco i (by omega); omega]; exact and_ok _ (by omega) _ (by omega)) ?_
        refine zRI.back ((va_runS (As := [.int (iI (((co i).toNat &&& (revB (k + 1) bb) : Nat) : Int))]) (rest := []) ⟨hx, hb, hml, hown, hts⟩ (mJI_bitCount l D cI cG ((co i).toNat &&& (revB (k + 1) bb)) hand) (va_cwS 1 hts (gT1 lkHA_61 (gT1 smJI_bitCount (gT1 iniJI (gTW kcJI_bitCount)))) rfl rfl rfl (by decide +kernel) ⟨Nat.le_of_ble_eq_true rfl, Nat.le_of_ble_eq_true rfl⟩) ⟨zRd_blind, zRd.at (wc := []) hK (hP.sub (ws' := []) [] rfl) (stF.now hX hS)⟩ rfl rfl hl.1 rfl (lv_room (Nat.le_of_ble_eq_true rfl)) dHA_gather_34 ⟨Nat.le_of_ble_eq_true rfl, Nat.le_of_ble_eq_true rfl⟩).run) (fun z_34 q_34 => ?_)
        obtain rfl : z_34 = ((pcN ((co i).toNat &&& (revB (k + 1) bb)) : Nat) : Int) := q_34
        refine lv_iconst (v := iI (2)) hx hb dHA_gather_37 rfl ?_
        refine lz_irem hx hb dHA_gather_38 (by omega) (by omega) ?_
        refine lz_if_ne (tgt := 53) hx hb dHA_gather_39 (by decide) (by omega) (fun c_39 => ?_) (fun c_39 => ?_)
        · have hpi : ¬ hpar co (revB (k + 1) bb) i := by unfold hpar; omega
          refine lz_iinc (lv' := [(5, .int (iI ((i : Int) + 1))), (0, .ref t), (2, .ref r), (3, .ref r2), (4, .int (iI ((revB (k + 1) bb : Nat) : Int)))]) hx hb dHA_gather_53 hl (k := 4) rfl (by decide) rfl (fun ls hl => ?_)
          refine lv_goto (tgt := 14) hx hb dHA_gather_56 (by decide) ?_
          rw [show selT ks (hpar co (revB (k + 1) bb)) i = selT ks (hpar co (revB (k + 1) bb)) (i + 1) from (selT_f hpi).symm] at hP hD hI
          exact ih14 (i + 1) f1 (by omega) hI (by omega) _ _ (hP.sub [0, 1, 2, 3, 4, 5] rfl) (hD.sub [0, 1, 2, 3, 4, 5] (by decide) rfl) hS _ (lv_sub hl [1, 2, 3, 4, 0] rfl)
        · have hpi : hpar co (revB (k + 1) bb) i := by unfold hpar; omega
          refine lv_aload_n hx hb dHA_gather_42 rfl (lv_at hl 2 rfl) ?_
          refine lv_aload_n hx hb dHA_gather_43 rfl (lv_at hl 1 rfl) ?_
          refine lv_iload hx hb dHA_gather_44 (lv_at hl 4 rfl) ?_
          refine zRI.back ((va_runV (As := [.int (iI (i : Int))]) (rest := [.ref r2]) ⟨hx, hb, hml, hown, hts⟩ (mRO_at l D cI cG r a n f ks (i : Int) h (by omega)) (cwV 1 hts (gT1 lkHA_30 (gT1 imRO_at (gT1 seRO_at (gT1 iniRO (gTW kcRO_at))))) rfl rfl rfl (by decide +kernel) ⟨Nat.le_of_ble_eq_true rfl, Nat.le_of_ble_eq_true rfl⟩) ⟨zRd_blind, va_recv hK hP (ci := 5) (q0 := 2) rfl rfl, zRd.at (wc := [(r, .inr (5, [.ref a, .int (iI (ks.length : Int))])), (a, .inl (cI, n, .inl (zf f)))]) hK (hP.sub (ws' := [(r, .inr (5, [.ref a, .int (iI (ks.length : Int))])), (a, .inl (cI, n, .inl (zf f)))]) [2, 3] rfl) (stF.now hX hS)⟩ rfl rfl hl.1 rfl (lv_room (Nat.le_of_ble_eq_true rfl)) dHA_gather_46 ⟨Nat.le_of_ble_eq_true rfl, Nat.le_of_ble_eq_true rfl⟩).run) (fun z_46 q_46 => ?_)
          obtain rfl : z_46 = ks.getD i (-1) := by have q9 : z_46 = lat ks (i : Int) := q_46; rw [q9]; exact (lat_in (by omega) (by omega)).1
          refine zI.back (va_runV (As := [.int (iI (ks.getD i (-1)))]) (rest := []) ⟨hx, hb, hml, hown, hts⟩ ((mRO_add l D cI cG r2 a2 192 f1 (selT ks (hpar co (revB (k + 1) bb)) i) (ks.getD i (-1)) hI (by have := hrg (j := i) (by omega); omega)) H.size) (cwV 1 hts (gT1 lkHA_66 (gT1 imRO_add (gT1 seRO_add (gT1 iniRO (gTW kcRO_add))))) rfl rfl rfl (by decide +kernel) ⟨Nat.le_of_ble_eq_true rfl, Nat.le_of_ble_eq_true rfl⟩) ⟨zPre_blind, va_recv hK hP (ci := 5) (q0 := 4) rfl rfl, zPre.at (wc := [(r2, .inr (5, [.ref a2, .int (iI ((selT ks (hpar co (revB (k + 1) bb)) i).length : Int))])), (a2, .inl (cI, 192, .inl (zf f1)))]) hK hP hD hS hA hX [4, 5] (by decide) rfl⟩ rfl rfl hl.1 rfl (lv_room (Nat.le_of_ble_eq_true rfl)) dHA_gather_49 ⟨Nat.le_of_ble_eq_true rfl, Nat.le_of_ble_eq_true rfl⟩) (wr := [(t, .inr (4, [.ref ca9, .int (iI (bb : Int))])), (ca9, .inl (cI, ks.length, .inl (zf co))), (r, .inr (5, [.ref a, .int (iI (ks.length : Int))])), (a, .inl (cI, n, .inl (zf f)))]) hP hD hS hA [4, 5] [0, 1, 2, 3] rfl rfl (by decide) (by decide) (fun z_49 u_49 H locs q_49 hP hD hS hz_49 hk_49 => ?_)
          obtain ⟨ks2, ho2, hs2, hcs⟩ := q_49
          have hk2 : ks2 = selT ks (hpar co (revB (k + 1) bb)) (i + 1) := by
            rcases hcs with ⟨_, q, _⟩ | ⟨_, _, q, _⟩ | ⟨_, _, _, q⟩
            · exact absurd q (selT_not h.2.2.2.1 (by omega))
            · rw [selT_len] at q; have := cnt_le (p := hpar co (revB (k + 1) bb)) i; omega
            · exact selT_ins h.2.2.2.1 (by omega) hpi ho2.2.2.2.1 q
          subst hk2
          rw [hs2] at hP hD
          clear hcs
          have hP : va_P D vwCl [(t, .inr (4, [.ref ca9, .int (iI (bb : Int))])), (ca9, .inl (cI, ks.length, .inl (zf co))), (r, .inr (5, [.ref a, .int (iI (ks.length : Int))])), (a, .inl (cI, n, .inl (zf f))), (r2, .inr (5, [.ref a2, .int (iI ((selT ks (hpar co (revB (k + 1) bb)) (i + 1)).length : Int))])), (a2, .inl (cI, 192, .inl (zf u_49.2)))] H := hP
          have hD : va_D A [(t, .inr (4, [.ref ca9, .int (iI (bb : Int))])), (ca9, .inl (cI, ks.length, .inl (zf co))), (r, .inr (5, [.ref a, .int (iI (ks.length : Int))])), (a, .inl (cI, n, .inl (zf f))), (r2, .inr (5, [.ref a2, .int (iI ((selT ks (hpar co (revB (k + 1) bb)) (i + 1)).length : Int))])), (a2, .inl (cI, 192, .inl (zf u_49.2)))] := hD
          refine lv_pop hx hb dHA_gather_52 rfl ?_
          refine lz_iinc (lv' := [(5, .int (iI ((i : Int) + 1))), (0, .ref t), (2, .ref r), (3, .ref r2), (4, .int (iI ((revB (k + 1) bb : Nat) : Int)))]) hx hb dHA_gather_53 hl (k := 4) rfl (by decide) rfl (fun ls hl => ?_)
          refine lv_goto (tgt := 14) hx hb dHA_gather_56 (by decide) ?_
          exact ih14 (i + 1) u_49.2 (by omega) ho2 (by omega) _ _ (hP.sub [0, 1, 2, 3, 4, 5] rfl) (hD.sub [0, 1, 2, 3, 4, 5] (by decide) rfl) hS _ (lv_sub hl [1, 2, 3, 4, 0] rfl)
  exact lp14 _ 0 f2 (Nat.zero_le _) hr0 (Nat.lt_succ_self _) _ _ (hP.sub [0, 1, 2, 3, 5, 4] rfl) (hD.sub [0, 1, 2, 3, 5, 4] (by decide) rfl) hS _ (lv_sub hl [2, 4, 5, 1, 0] rfl)
end
section
/-! Worlds with a rest that nobody looks into. -/
theorem mem_sel {X X' : va_W} {is : List Nat} (hs : is.map (fun i => X[i]?) = X'.map some) : ∀ q ∈ X', q ∈ X := by
  intro q hq
  have h1 : some q ∈ X'.map some := List.mem_map.mpr ⟨q, hq, rfl⟩
  rw [← hs] at h1
  obtain ⟨i, _, e⟩ := List.mem_map.mp h1
  exact List.mem_of_getElem? e
theorem zP_subT {D : va_G} {cl : List vw_C} {X X' pl : va_W} {H : Heap} (h : va_P D cl (X ++ pl) H) (is : List Nat) (hs : is.map (fun i => X[i]?) = X'.map some) : va_P D cl (X' ++ pl) H := zP_mem h fun q hq => by
  rcases List.mem_append.mp hq with g | g
  · exact List.mem_append_left _ (mem_sel hs q g)
  · exact List.mem_append_right _ g
theorem zP_cut {D : va_G} {cl : List vw_C} {X X' pl : va_W} {H : Heap} (h : va_P D cl (X ++ pl) H) (is : List Nat) (hs : is.map (fun i => X[i]?) = X'.map some) : va_P D cl X' H := zP_mem h fun q hq => List.mem_append_left _ (mem_sel hs q hq)
theorem zD_subT {A : Nat → Prop} {X X' pl : va_W} (h : va_D A (X ++ pl)) (is : List Nat) (hn : va_nd is = true) (hs : is.map (fun i => X[i]?) = X'.map some) : va_D A (X' ++ pl) := by
  have h1 := zD_iff.mp h
  rw [List.map_append, List.nodup_append] at h1
  have hX : va_D A X := zD_iff.mpr ⟨h1.1.1, fun q hq => h1.2 q (List.mem_append_left _ hq)⟩
  have h2 := zD_iff.mp (hX.sub (ws' := X') is hn hs)
  rw [zD_iff, List.map_append, List.nodup_append]
  refine ⟨⟨h2.1, h1.1.2.1, fun a ha b hb => ?_⟩, fun q hq => ?_⟩
  · obtain ⟨q, hq, rfl⟩ := List.mem_map.mp ha
    exact h1.1.2.2 _ (List.mem_map.mpr ⟨q, mem_sel hs q hq, rfl⟩) b hb
  · rcases List.mem_append.mp hq with g | g
    · exact h2.2 q g
    · exact h1.2 q (List.mem_append_right _ g)
section ZTAIL
variable {p : Program} {l : Launch} {e : Env} {R : Room} {s : State} {m : MethodId} {args : Array Value} {below : List Frame} {meth : Method} {c : Code} {H H0 : Heap} {locs : List Loc} {cells slots : Nat} {Q : State → Prop}
variable {pc : Nat} {ls : Array Slot} {rest st0 : List Value} {A : Nat → Prop} {D : va_G} {cl : List vw_C} {tys : List (ClassId × FieldType)} {X pl wc wr : va_W} {a : Array Value} {mc ms : Nat}
theorem zI.backT {S : Type} {post : Int → S → Prop} {w1 : S → va_W} (hr : va_Run p l e R s m args below meth c H locs cells slots mc ms (F0 m pc ls st0) rest (va_Qi (fun r u => ∃ z : Int, r = iI z ∧ post z u) (zPost D cl tys (va_A wc H.size) w1) (va_A wc H.size) a) (va_A wc H.size))
    (hP : va_P D cl (X ++ pl) H) (hD : va_D A (X ++ pl)) (hS : va_S A H0 H locs) (hA : ∀ q, H0.size ≤ q → A q) (isC isR : List Nat) (hC2 : isC.map (fun i => (X ++ pl)[i]?) = wc.map some) (hC : isC.map (fun i => X[i]?) = wc.map some) (hR : isR.map (fun i => X[i]?) = wr.map some) (hn : va_nd isR = true) (hdis : ∀ i ∈ isR, i ∉ isC)
    (kk : ∀ (z : Int) (u : S) (H1 : Heap) (locs1 : List Loc), post z u → va_P D cl ((wr ++ w1 u) ++ pl) H1 → va_D A ((wr ++ w1 u) ++ pl) → va_S A H0 H1 locs1 → H.size ≤ H1.size → (∀ q : Nat, q < H.size → ¬ va_A wc H.size q → H1[q]? = H[q]?) → W p l e R s m args below meth c H1 locs1 (cells + mc) (slots + ms) Q (F0 m (pc + 3) ls (.int (iI z) :: rest))) : W p l e R s m args below meth c H locs cells slots Q (F0 m pc ls st0) := by
  have hF := va_free hD hS hA isC hC2
  refine va_calli hr hS (fun q _ h => hF q h) hF (fun r u t H1 locs1 ht hvm hw hB hz1 hk1 hS1 => ?_)
  obtain ⟨z, rfl, hp⟩ := hw
  obtain ⟨hP1, hD1⟩ := hB
  rw [ht] at hP1
  obtain ⟨hP2, hD2⟩ := va_joinQ hP hD isC isR hC hR hn hdis hk1 hF hP1 hD1
  exact kk z u H1 locs1 hp hP2 hD2 hS1 hz1 hk1
theorem zV.backT {S : Type} {post : S → Prop} {w1 : S → va_W} (hr : va_Run p l e R s m args below meth c H locs cells slots mc ms (F0 m pc ls st0) rest (va_Qv post (zPost D cl tys (va_A wc H.size) w1) (va_A wc H.size) a) (va_A wc H.size))
    (hP : va_P D cl (X ++ pl) H) (hD : va_D A (X ++ pl)) (hS : va_S A H0 H locs) (hA : ∀ q, H0.size ≤ q → A q) (isC isR : List Nat) (hC2 : isC.map (fun i => (X ++ pl)[i]?) = wc.map some) (hC : isC.map (fun i => X[i]?) = wc.map some) (hR : isR.map (fun i => X[i]?) = wr.map some) (hn : va_nd isR = true) (hdis : ∀ i ∈ isR, i ∉ isC)
    (kk : ∀ (u : S) (H1 : Heap) (locs1 : List Loc), post u → va_P D cl ((wr ++ w1 u) ++ pl) H1 → va_D A ((wr ++ w1 u) ++ pl) → va_S A H0 H1 locs1 → H.size ≤ H1.size → (∀ q : Nat, q < H.size → ¬ va_A wc H.size q → H1[q]? = H[q]?) → W p l e R s m args below meth c H1 locs1 (cells + mc) (slots + ms) Q (F0 m (pc + 3) ls rest)) : W p l e R s m args below meth c H locs cells slots Q (F0 m pc ls st0) := by
  have hF := va_free hD hS hA isC hC2
  refine va_callv hr hS (fun q _ h => hF q h) hF (fun u t H1 locs1 ht hvm hw hB hz1 hk1 hS1 => ?_)
  obtain ⟨hP1, hD1⟩ := hB
  rw [ht] at hP1
  obtain ⟨hP2, hD2⟩ := va_joinQ hP hD isC isR hC hR hn hdis hk1 hF hP1 hD1
  exact kk u H1 locs1 hw hP2 hD2 hS1 hz1 hk1
theorem zQ.backT {S : Type} {post : Option Nat → S → Prop} {w1 : S → va_W} (hr : va_Run p l e R s m args below meth c H locs cells slots mc ms (F0 m pc ls st0) rest (va_Qq post (zPost D cl tys (va_A wc H.size) w1) (va_A wc H.size) a) (va_A wc H.size))
    (hP : va_P D cl (X ++ pl) H) (hD : va_D A (X ++ pl)) (hS : va_S A H0 H locs) (hA : ∀ q, H0.size ≤ q → A q) (isC isR : List Nat) (hC2 : isC.map (fun i => (X ++ pl)[i]?) = wc.map some) (hC : isC.map (fun i => X[i]?) = wc.map some) (hR : isR.map (fun i => X[i]?) = wr.map some) (hn : va_nd isR = true) (hdis : ∀ i ∈ isR, i ∉ isC)
    (kk : ∀ (r : Option Nat) (u : S) (H1 : Heap) (locs1 : List Loc), post r u → va_P D cl ((wr ++ w1 u) ++ pl) H1 → va_D A ((wr ++ w1 u) ++ pl) → va_S A H0 H1 locs1 → H.size ≤ H1.size → (∀ q : Nat, q < H.size → ¬ va_A wc H.size q → H1[q]? = H[q]?) → W p l e R s m args below meth c H1 locs1 (cells + mc) (slots + ms) Q (F0 m (pc + 3) ls (va_rf r :: rest))) : W p l e R s m args below meth c H locs cells slots Q (F0 m pc ls st0) := by
  have hF := va_free hD hS hA isC hC2
  refine va_callq hr hS (fun q _ h => hF q h) hF (fun r u t H1 locs1 ht hvm hw hB hz1 hk1 hS1 => ?_)
  obtain ⟨hP1, hD1⟩ := hB
  rw [ht] at hP1
  obtain ⟨hP2, hD2⟩ := va_joinQ hP hD isC isR hC hR hn hdis hk1 hF hP1 hD1
  exact kk r u H1 locs1 hw hP2 hD2 hS1 hz1 hk1
theorem lz_aald (hexec : p.tables.exec = Jvm.exec) {cc : ByteArray} (hb : c.code = cc) {ws : va_W} {ad : Nat} (hK : va_K D cl tys s) (hP : va_P D cl ws H) (q0 t0 : Nat) {cA : ClassId} {C : String} {n : Nat} {f : Nat → Option Nat} (ha : ws[q0]? = some (ad, .inl (cA, n, .inr (.inr (.inr (.inr f)))))) (ht : tys[t0]? = some (cA, .object C)) {z : Int} (hz : (0 ≤ z ∧ z < (n : Int)) ∧ z < 2147483648) (hdg : decode cc pc = .ok (.aaload, 1))
    (kk : W p l e R s m args below meth c H locs cells slots Q (F0 m (pc + 1) ls (va_rf (f z.toNat) :: rest))) : W p l e R s m args below meth c H locs cells slots Q (F0 m pc ls (.int (iI z) :: .ref ad :: rest)) :=
  va_aldq hexec hb hK hP q0 t0 ha ht (vp_in_iI hz.1 hz.2) hdg (by rw [iI_clamp ⟨hz.1.1, hz.2⟩]; exact kk)
theorem lz_aast (hexec : p.tables.exec = Jvm.exec) {cc : ByteArray} (hb : c.code = cc) {ws : va_W} {ad : Nat} (hK : va_K D cl tys s) (hP : va_P D cl ws H) (hD : va_D A ws) (hS : va_S A H0 H locs) (q0 t0 qk ci : Nat) {cA : ClassId} {r : vw_C} {n v : Nat} {vs : List Value} {f : Nat → Option Nat} (ha : ws[q0]? = some (ad, .inl (cA, n, .inr (.inr (.inr (.inr f)))))) (ht : tys[t0]? = some (cA, .object r.1)) (hv : ws[qk]? = some (v, .inr (ci, vs))) (hc : cl[ci]? = some r) {z : Int} (hz : (0 ≤ z ∧ z < (n : Int)) ∧ z < 2147483648) (hdg : decode cc pc = .ok (.aastore, 1))
    (kk : ∀ (H1 : Heap) (locs1 : List Loc), va_P D cl (ws.set q0 (ad, .inl (cA, n, .inr (.inr (.inr (.inr (va_up f z.toNat (some v)))))))) H1 → va_D A (ws.set q0 (ad, .inl (cA, n, .inr (.inr (.inr (.inr (va_up f z.toNat (some v)))))))) → va_S A H0 H1 locs1 → W p l e R s m args below meth c H1 locs1 cells slots Q (F0 m (pc + 1) ls rest)) : W p l e R s m args below meth c H locs cells slots Q (F0 m pc ls (.ref v :: .int (iI z) :: .ref ad :: rest)) :=
  va_astq hexec hb hK hP hD hS q0 t0 qk ci ha ht hv hc (vp_in_iI hz.1 hz.2) hdg (by rw [iI_clamp ⟨hz.1.1, hz.2⟩]; exact kk)
end ZTAIL
end
section
/-! A GROUP's cells; the whole object's. -/
abbrev ARec : Type := Nat × Nat × Nat × (Nat → Int) × (Nat → Int) × Int
abbrev HRec : Type := Nat × Nat × (Nat → Int) × Nat
abbrev GRec : Type := Nat × Nat × Nat × List Int × (Nat → Int) × Int × Int × Option ARec × Option HRec
def aW (cI : ClassId) (n : Nat) : Option ARec → va_W
  | none => []
  | some (s, sa, za, so, sz, ct) => [(s, .inr (0, [.ref sa, .ref za, .int (iI ct)])), (sa, .inl (cI, n, .inl (zf so))), (za, .inl (cI, n, .inl (zf sz)))]
def hW (cI : ClassId) (n : Nat) : Option HRec → va_W
  | none => []
  | some (h, ca, co, bb) => [(h, .inr (4, [.ref ca, .int (iI (bb : Int))])), (ca, .inl (cI, n, .inl (zf co)))]
def g3W (cI : ClassId) : GRec → va_W
  | (g, k, ka, ks, fk, lt, pcl, al, hv) => [(g, .inr (3, [.ref k, .int (iI (matT ks ks.length)), .int (iI (cenT ks ks.length)), .int (iI lt), .int (iI pcl), va_rf (al.map (fun a => a.1)), va_rf (hv.map (fun a => a.1))])), (k, .inr (5, [.ref ka, .int (iI (ks.length : Int))])), (ka, .inl (cI, ks.length, .inl (zf fk)))]
def gW (cI : ClassId) (q : GRec) : va_W := g3W cI q ++ (aW cI q.2.2.2.1.length q.2.2.2.2.2.2.2.1 ++ hW cI q.2.2.2.1.length q.2.2.2.2.2.2.2.2)
def alOK (ks : List Int) : Option ARec → Prop
  | none => True
  | some (_, _, _, so, sz, ct) => inN ks.length so ∧ ct = (nAlk ks : Int) ∧ ∀ k, k < ks.length → sz (so k).toNat = (mAlk ks k : Int)
def hvOK (ks : List Int) : Option HRec → Prop
  | none => True
  | some (_, _, co, bb) => ∃ K, sqG ks K ∧ HIv ks K co bb ∧ (∀ x, x < ks.length → co x ≠ -1) ∧ bb < 8
/-- a GROUP's keys -/
def gK (q : GRec) : List Int := q.2.2.2.1
def gkOK (ks : List Int) : Prop := isG ks ∧ ks.Pairwise (· < ·) ∧ ks.length ≤ 192 ∧ 0 ≤ rowT ks ks.length ∧ rowT ks ks.length < 2147483648
def gOK : GRec → Prop
  | (_, _, _, ks, fk, lt, pcl, al, hv) => gkOK ks ∧ rowOK ks.length fk ks ∧ (∃ i, lix ks u0 i ∧ lt = letK ks i (cenT ks ks.length)) ∧ clsF (rowT ks ks.length) pcl ∧ alOK ks al ∧ hvOK ks hv
def poolW (cI : ClassId) (gs : List GRec) : va_W := gs.flatMap (gW cI)
theorem pool_at {cI : ClassId} {gs : List GRec} {i : Nat} {q : GRec} (h : gs[i]? = some q) : ∃ rest, (poolW cI gs).Perm (gW cI q ++ rest) ∧ ∀ q' : GRec, (poolW cI (gs.set i q')).Perm (gW cI q' ++ rest) := by
  obtain ⟨hi, e⟩ := List.getElem?_eq_some_iff.mp h
  refine ⟨poolW cI (gs.take i) ++ poolW cI (gs.drop (i + 1)), ?_, fun q' => ?_⟩
  · have h1 : gs = gs.take i ++ q :: gs.drop (i + 1) := by
      rw [← e, List.getElem_cons_drop, List.take_append_drop]
    have h2 : poolW cI gs = poolW cI (gs.take i) ++ (gW cI q ++ poolW cI (gs.drop (i + 1))) := by
      conv => lhs; rw [h1]
      unfold poolW
      rw [List.flatMap_append, List.flatMap_cons]
    rw [h2, ← List.append_assoc, ← List.append_assoc]
    exact List.Perm.append_right _ List.perm_append_comm
  · have h1 : gs.set i q' = gs.take i ++ q' :: gs.drop (i + 1) := List.set_eq_take_append_cons_drop .. |>.trans (by rw [if_pos hi])
    have h2 : poolW cI (gs.set i q') = poolW cI (gs.take i) ++ (gW cI q' ++ poolW cI (gs.drop (i + 1))) := by
      rw [h1]
      unfold poolW
      rw [List.flatMap_append, List.flatMap_cons]
    rw [h2, ← List.append_assoc, ← List.append_assoc]
    exact List.Perm.append_right _ List.perm_append_comm
theorem mem_pool {cI : ClassId} {gs : List GRec} {q : GRec} (h : q ∈ gs) : ∀ c ∈ gW cI q, c ∈ poolW cI gs := fun _ hc => List.mem_flatMap.mpr ⟨q, h, hc⟩
theorem zperm_snoc {X pl : va_W} {c : Nat × va_E} : ((X ++ pl) ++ [c]).Perm ((X ++ [c]) ++ pl) := by
  rw [List.append_assoc, List.append_assoc]
  exact List.Perm.append_left _ List.perm_append_comm
/-- numbering: the number of a GROUP, made if it is new and there is room -/
def numR (kss : List (List Int)) (ks : List Int) (z : Int) (kss' : List (List Int)) : Prop :=
  (∃ i : Nat, i < kss.length ∧ kss[i]? = some ks ∧ (∀ j, j < i → kss[j]? ≠ some ks) ∧ z = (i : Int) ∧ kss' = kss) ∨
  ((∀ j : Nat, kss[j]? ≠ some ks) ∧ 40 ≤ kss.length ∧ z = -1 ∧ kss' = kss) ∨
  ((∀ j : Nat, kss[j]? ≠ some ks) ∧ kss.length < 40 ∧ z = (kss.length : Int) ∧ kss' = kss ++ [ks])
def GInv (gs : List GRec) (hf : Nat → Option Nat) : Prop := gs.length ≤ 40 ∧ (∀ i q, gs[i]? = some q → hf i = some q.1) ∧ ∀ q ∈ gs, gOK q
theorem GInv.push {gs : List GRec} {hf : Nat → Option Nat} (h : GInv gs hf) {q : GRec} (hl : gs.length < 40) (hq : gOK q) : GInv (gs ++ [q]) (va_up hf gs.length (some q.1)) := by
  refine ⟨by rw [List.length_append]; show _ + 1 ≤ 40; omega, fun i q' hi => ?_, fun q' hq' => ?_⟩
  · unfold va_up
    rcases Nat.lt_or_ge i gs.length with a | a
    · rw [if_neg (by omega)]
      rw [List.getElem?_append_left a] at hi
      exact h.2.1 i q' hi
    · rw [List.getElem?_append_right a] at hi
      obtain ⟨hlt, _⟩ := List.getElem?_eq_some_iff.mp hi
      have : i = gs.length := by
        rw [List.length_singleton] at hlt; omega
      subst this
      rw [Nat.sub_self] at hi
      rw [if_pos rfl]
      have e : q = q' := Option.some.inj hi
      rw [e]
  · rcases List.mem_append.mp hq' with a | a
    · exact h.2.2 q' a
    · rw [List.mem_singleton.mp a]; exact hq
theorem pool_push (cI : ClassId) (gs : List GRec) (q : GRec) : poolW cI (gs ++ [q]) = poolW cI gs ++ gW cI q := by
  unfold poolW
  rw [List.flatMap_append]
  simp
theorem gs_at {gs : List GRec} {i : Nat} (h : i < gs.length) : ∃ q, gs[i]? = some q := ⟨gs[i], List.getElem?_eq_getElem h⟩
/-- three cells more, at the front: at the end -/
theorem zperm_end {a b c d e f g x y z : Nat × va_E} {pl : va_W} : ([a, b, c, d, e, f, g, x, y, z] ++ pl).Perm ([a, b, c, d, e, f, g] ++ (pl ++ [x, y, z])) := by
  show ([a, b, c, d, e, f, g] ++ ([x, y, z] ++ pl)).Perm _
  exact List.Perm.append_left _ List.perm_append_comm
end
section
/-! Group.alikeSets, Group.halves, Closure(): written by wip/whole/gengr2.py -/
def rmGR_alikeSetsR : Room := { frames := 0, cells := 0, slots := 0, locals := 0 }
def rmGR_alikeSets : Room := { frames := 5, cells := 4, slots := 579, locals := 158 }
set_option maxHeartbeats 4000000 in
set_option maxRecDepth 100000 in
theorem mGR_alikeSets_some (l : Launch) (D : va_G) (cI cG : ClassId) (g k ka : Nat) (mt cn lt pcl : Int) (s9 : Nat) (hvo : Option Nat) (b cl : Nat)  : zRQ l yGR_alikeSets wGR_alikeSets rmGR_alikeSetsR D vwCl (zT cI cG) [.ref g, .ref b, .ref cl] [(g, .inr (3, [.ref k, .int (iI mt), .int (iI cn), .int (iI lt), .int (iI pcl), .ref s9, va_rf hvo]))] (fun z => z = some s9) := by
  refine zRQ.of (cc := cGR_alikeSets) (maxL := 3) (rt := (.object "GroupHalls$AlikeSets")) (by decide) rfl (Nat.le_of_ble_eq_true rfl) (Or.inl ⟨_, rfl⟩) ?_
  intro p e s m args below meth c ls Q hx hb hml hown hts hK hP hX hl hret
  have hS0 : va_S (fun _ => False) s.heap s.heap [] := va_S.rf
  have hl : lv_has ls 3 [(0, .ref g), (1, .ref b), (2, .ref cl)] := hl
  refine lv_aload_n hx hb dGR_alikeSets_0 rfl (lv_at hl 0 rfl) ?_
  refine va_get (D := D) (ci := 3) (v := .ref s9) (C := nGR) (T := fGR) (N := 7) hx hb hts iwGR hown hK hP 0 rfl rfl 5 (by decide) (hts _ (List.mem_cons_of_mem _ lkGR_9)) (fun _ h9 => h9) rfl dGR_alikeSets_1 ?_
  refine lv_ifnonnull (tgt := 24) hx hb dGR_alikeSets_4 (by decide) ?_
  refine lv_aload_n hx hb dGR_alikeSets_24 rfl (lv_at hl 0 rfl) ?_
  refine va_get (D := D) (ci := 3) (v := .ref s9) (C := nGR) (T := fGR) (N := 7) hx hb hts iwGR hown hK hP 0 rfl rfl 5 (by decide) (hts _ (List.mem_cons_of_mem _ lkGR_9)) (fun _ h9 => h9) rfl dGR_alikeSets_25 ?_
  exact hret 28 ls (some s9) rfl dGR_alikeSets_28

set_option maxHeartbeats 4000000 in
set_option maxRecDepth 100000 in
theorem mGR_alikeSets (l : Launch) (D : va_G) (cI cG : ClassId) (g k ka : Nat) (mt cn lt pcl : Int) (ks : List Int) (fk : Nat → Int) (hvo : Option Nat) (cl b lf rt fr fa ca ge : Nat) (fs : Int) (ff fc : Nat → Int) (cc : Int) (fg : Nat → Int) (gc : Int) (gl gr : Nat → Int) (K0 : List Int) (h : rowOK ks.length fk ks) (hn : ks.length ≤ 192) (hG : isG ks) (hr0 : rowOK 192 ff K0) (hfs0 : fs = (K0.length : Int)) : zQ l yGR_alikeSets wGR_alikeSets rmGR_alikeSets D vwCl (zT cI cG) [.ref g, .ref b, .ref cl] [(g, .inr (3, [.ref k, .int (iI mt), .int (iI cn), .int (iI lt), .int (iI pcl), .null, va_rf hvo])), (k, .inr (5, [.ref ka, .int (iI (ks.length : Int))])), (ka, .inl (cI, ks.length, .inl (zf fk))), (cl, .inr (2, [.ref b, .ref fr, .ref ca, .int (iI cc), .ref ge, .int (iI gc)])), (b, .inr (1, [.ref lf, .ref rt])), (lf, .inl (cI, 9, .inl (zf gl))), (rt, .inl (cI, 9, .inl (zf gr))), (fr, .inr (5, [.ref fa, .int (iI fs)])), (fa, .inl (cI, 192, .inl (zf ff))), (ca, .inl (cI, 192, .inl (zf fc))), (ge, .inl (cI, 10, .inl (zf fg)))] (S := (Nat × Nat × Nat × (Nat → Int) × (Nat → Int) × Int × CS)) (fun r u => r = some u.1 ∧ alOK ks (some (u.1, u.2.1, u.2.2.1, u.2.2.2.1, u.2.2.2.2.1, u.2.2.2.2.2.1)) ∧ ∃ K, rowOK 192 u.2.2.2.2.2.2.2.1 K ∧ u.2.2.2.2.2.2.1 = (K.length : Int)) (fun u => [(g, .inr (3, [.ref k, .int (iI mt), .int (iI cn), .int (iI lt), .int (iI pcl), .ref u.1, va_rf hvo])), (k, .inr (5, [.ref ka, .int (iI (ks.length : Int))])), (ka, .inl (cI, ks.length, .inl (zf fk))), (cl, .inr (2, [.ref b, .ref fr, .ref ca, .int (iI u.2.2.2.2.2.2.2.2.2.1), .ref ge, .int (iI u.2.2.2.2.2.2.2.2.2.2.2.1)])), (b, .inr (1, [.ref lf, .ref rt])), (lf, .inl (cI, 9, .inl (zf u.2.2.2.2.2.2.2.2.2.2.2.2.1))), (rt, .inl (cI, 9, .inl (zf u.2.2.2.2.2.2.2.2.2.2.2.2.2))), (fr, .inr (5, [.ref fa, .int (iI u.2.2.2.2.2.2.1)])), (fa, .inl (cI, 192, .inl (zf u.2.2.2.2.2.2.2.1))), (ca, .inl (cI, 192, .inl (zf u.2.2.2.2.2.2.2.2.1))), (ge, .inl (cI, 10, .inl (zf u.2.2.2.2.2.2.2.2.2.2.1))), (u.1, .inr (0, [.ref u.2.1, .ref u.2.2.1, .int (iI u.2.2.2.2.2.1)])), (u.2.1, .inl (cI, ks.length, .inl (zf u.2.2.2.1))), (u.2.2.1, .inl (cI, ks.length, .inl (zf u.2.2.2.2.1)))]) := by
  refine zQ.of (cc := cGR_alikeSets) (maxL := 3) (rt := (.object "GroupHalls$AlikeSets")) (by decide) rfl (Nat.le_of_ble_eq_true rfl) (Or.inl ⟨_, rfl⟩) ?_
  intro p e s m args below meth c A ls Q hx hb hml hown hts hnm hK hD hA hAe hX hl hret H locs hP hS
  have hl : lv_has ls 3 [(0, .ref g), (1, .ref b), (2, .ref cl)] := hl
  refine lv_aload_n hx hb dGR_alikeSets_0 rfl (lv_at hl 0 rfl) ?_
  refine va_get (D := D) (ci := 3) (v := .null) (C := nGR) (T := fGR) (N := 7) hx hb hts iwGR hown hK hP 0 rfl rfl 5 (by decide) (hts _ (List.mem_cons_of_mem _ lkGR_9)) (fun _ h9 => h9) rfl dGR_alikeSets_1 ?_
  refine lv_ifnonnullN hx hb dGR_alikeSets_4 ?_
  refine lv_aload_n hx hb dGR_alikeSets_7 rfl (lv_at hl 0 rfl) ?_
  refine va_new (ci := 0) (fs := [.null, .null, .int (iI 0)]) (C := nAS) (T := fAS) (N := 3) hx hb hts iwAS tAS tkAS hown (hts _ (List.mem_cons_of_mem _ lkGR_61)) (hts _ (List.mem_cons_of_mem _ insAS)) (hts _ (List.mem_cons_of_mem _ iniAS)) hK hP hD hS hA rfl (fun j hj => by rcases (show j = 0 ∨ j = 1 ∨ j = 2 by omega) with rfl | rfl | rfl <;> rfl) (Nat.le_of_ble_eq_true rfl) (Nat.le_of_ble_eq_true rfl) dGR_alikeSets_8 (fun s9 H hP hD hS => ?_)
  have hP : va_P D vwCl [(g, .inr (3, [.ref k, .int (iI mt), .int (iI cn), .int (iI lt), .int (iI pcl), .null, va_rf hvo])), (k, .inr (5, [.ref ka, .int (iI (ks.length : Int))])), (ka, .inl (cI, ks.length, .inl (zf fk))), (cl, .inr (2, [.ref b, .ref fr, .ref ca, .int (iI cc), .ref ge, .int (iI gc)])), (b, .inr (1, [.ref lf, .ref rt])), (lf, .inl (cI, 9, .inl (zf gl))), (rt, .inl (cI, 9, .inl (zf gr))), (fr, .inr (5, [.ref fa, .int (iI fs)])), (fa, .inl (cI, 192, .inl (zf ff))), (ca, .inl (cI, 192, .inl (zf fc))), (ge, .inl (cI, 10, .inl (zf fg))), (s9, .inr (0, [.null, .null, .int (iI 0)]))] H := hP
  have hD : va_D A [(g, .inr (3, [.ref k, .int (iI mt), .int (iI cn), .int (iI lt), .int (iI pcl), .null, va_rf hvo])), (k, .inr (5, [.ref ka, .int (iI (ks.length : Int))])), (ka, .inl (cI, ks.length, .inl (zf fk))), (cl, .inr (2, [.ref b, .ref fr, .ref ca, .int (iI cc), .ref ge, .int (iI gc)])), (b, .inr (1, [.ref lf, .ref rt])), (lf, .inl (cI, 9, .inl (zf gl))), (rt, .inl (cI, 9, .inl (zf gr))), (fr, .inr (5, [.ref fa, .int (iI fs)])), (fa, .inl (cI, 192, .inl (zf ff))), (ca, .inl (cI, 192, .inl (zf fc))), (ge, .inl (cI, 10, .inl (zf fg))), (s9, .inr (0, [.null, .null, .int (iI 0)]))] := hD
  refine lv_dup hx hb dGR_alikeSets_11 rfl ?_
  refine lv_aload_n hx hb dGR_alikeSets_12 rfl (lv_at hl 0 rfl) ?_
  refine va_get (D := D) (ci := 3) (v := .ref k) (C := nGR) (T := fGR) (N := 7) hx hb hts iwGR hown hK hP 0 rfl rfl 0 (by decide) (hts _ (List.mem_cons_of_mem _ lkGR_28)) (fun _ h9 => h9) rfl dGR_alikeSets_13 ?_
  refine lv_aload_n hx hb dGR_alikeSets_16 rfl (lv_at hl 1 rfl) ?_
  refine lv_aload_n hx hb dGR_alikeSets_17 rfl (lv_at hl 2 rfl) ?_
  refine zV.back (va_runI (As := [.ref k, .ref b, .ref cl]) (rest := [.ref s9, .ref g]) ⟨hx, hb, hml, hown, hts⟩ ((mAS_init l D cI cG s9 k ka ks.length fk ks cl b lf rt fr fa ca ge fs ff fc cc fg gc gl gr K0 h hn hG hr0 hfs0) H.size) (cwI 3 hts (gTW kcAS_init) rfl rfl rfl (hts _ (List.mem_cons_of_mem _ iniAS)) (hts _ (List.mem_cons_of_mem _ lkGR_63)) (hts _ (List.mem_cons_of_mem _ imAS_init)) rfl (by decide +kernel) ⟨Nat.le_of_ble_eq_true rfl, Nat.le_of_ble_eq_true rfl⟩) ⟨zPre_blind, zPre.at (wc := [(s9, .inr (0, [.null, .null, .int (iI 0)])), (k, .inr (5, [.ref ka, .int (iI (ks.length : Int))])), (ka, .inl (cI, ks.length, .inl (zf fk))), (cl, .inr (2, [.ref b, .ref fr, .ref ca, .int (iI cc), .ref ge, .int (iI gc)])), (b, .inr (1, [.ref lf, .ref rt])), (lf, .inl (cI, 9, .inl (zf gl))), (rt, .inl (cI, 9, .inl (zf gr))), (fr, .inr (5, [.ref fa, .int (iI fs)])), (fa, .inl (cI, 192, .inl (zf ff))), (ca, .inl (cI, 192, .inl (zf fc))), (ge, .inl (cI, 10, .inl (zf fg)))]) hK hP hD hS hA hX [11, 1, 2, 3, 4, 5, 6, 7, 8, 9, 10] (by decide) rfl⟩ rfl rfl hl.1 rfl (lv_room (Nat.le_of_ble_eq_true rfl)) dGR_alikeSets_18 ⟨Nat.le_of_ble_eq_true rfl, Nat.le_of_ble_eq_true rfl⟩) (wr := [(g, .inr (3, [.ref k, .int (iI mt), .int (iI cn), .int (iI lt), .int (iI pcl), .null, va_rf hvo]))]) hP hD hS hA [11, 1, 2, 3, 4, 5, 6, 7, 8, 9, 10] [0] rfl rfl (by decide) (by decide) (fun u_18 H locs q_18 hP hD hS hz_18 hk_18 => ?_)
  obtain ⟨sa, za, so, sz, ct, fs1, ff1, fc1, cc1, fg1, gc1, gl1, gr1⟩ := u_18
  obtain ⟨q1, q2, q3, q4⟩ := q_18
  have hP : va_P D vwCl [(g, .inr (3, [.ref k, .int (iI mt), .int (iI cn), .int (iI lt), .int (iI pcl), .null, va_rf hvo])), (s9, .inr (0, [.ref sa, .ref za, .int (iI ct)])), (sa, .inl (cI, ks.length, .inl (zf so))), (za, .inl (cI, ks.length, .inl (zf sz))), (k, .inr (5, [.ref ka, .int (iI (ks.length : Int))])), (ka, .inl (cI, ks.length, .inl (zf fk))), (cl, .inr (2, [.ref b, .ref fr, .ref ca, .int (iI cc1), .ref ge, .int (iI gc1)])), (b, .inr (1, [.ref lf, .ref rt])), (lf, .inl (cI, 9, .inl (zf gl1))), (rt, .inl (cI, 9, .inl (zf gr1))), (fr, .inr (5, [.ref fa, .int (iI fs1)])), (fa, .inl (cI, 192, .inl (zf ff1))), (ca, .inl (cI, 192, .inl (zf fc1))), (ge, .inl (cI, 10, .inl (zf fg1)))] H := hP
  have hD : va_D A [(g, .inr (3, [.ref k, .int (iI mt), .int (iI cn), .int (iI lt), .int (iI pcl), .null, va_rf hvo])), (s9, .inr (0, [.ref sa, .ref za, .int (iI ct)])), (sa, .inl (cI, ks.length, .inl (zf so))), (za, .inl (cI, ks.length, .inl (zf sz))), (k, .inr (5, [.ref ka, .int (iI (ks.length : Int))])), (ka, .inl (cI, ks.length, .inl (zf fk))), (cl, .inr (2, [.ref b, .ref fr, .ref ca, .int (iI cc1), .ref ge, .int (iI gc1)])), (b, .inr (1, [.ref lf, .ref rt])), (lf, .inl (cI, 9, .inl (zf gl1))), (rt, .inl (cI, 9, .inl (zf gr1))), (fr, .inr (5, [.ref fa, .int (iI fs1)])), (fa, .inl (cI, 192, .inl (zf ff1))), (ca, .inl (cI, 192, .inl (zf fc1))), (ge, .inl (cI, 10, .inl (zf fg1)))] := hD
  refine va_put (D := D) (ci := 3) (v := .ref s9) (ty := .object "GroupHalls$AlikeSets") (C := nGR) (T := fGR) (N := 7) hx hb hts iwGR tGR tkGR nmGR hown hK hP hD hS 0 rfl rfl 5 (by decide) (hts _ (List.mem_cons_of_mem _ lkGR_9)) (fun _ h9 => h9) rfl (by decide +kernel) rfl rfl (Nat.le_of_ble_eq_true rfl) dGR_alikeSets_21 (fun H locs hP hD hS => ?_)
  have hP : va_P D vwCl [(g, .inr (3, [.ref k, .int (iI mt), .int (iI cn), .int (iI lt), .int (iI pcl), .ref s9, va_rf hvo])), (s9, .inr (0, [.ref sa, .ref za, .int (iI ct)])), (sa, .inl (cI, ks.length, .inl (zf so))), (za, .inl (cI, ks.length, .inl (zf sz))), (k, .inr (5, [.ref ka, .int (iI (ks.length : Int))])), (ka, .inl (cI, ks.length, .inl (zf fk))), (cl, .inr (2, [.ref b, .ref fr, .ref ca, .int (iI cc1), .ref ge, .int (iI gc1)])), (b, .inr (1, [.ref lf, .ref rt])), (lf, .inl (cI, 9, .inl (zf gl1))), (rt, .inl (cI, 9, .inl (zf gr1))), (fr, .inr (5, [.ref fa, .int (iI fs1)])), (fa, .inl (cI, 192, .inl (zf ff1))), (ca, .inl (cI, 192, .inl (zf fc1))), (ge, .inl (cI, 10, .inl (zf fg1)))] H := hP
  have hD : va_D A [(g, .inr (3, [.ref k, .int (iI mt), .int (iI cn), .int (iI lt), .int (iI pcl), .ref s9, va_rf hvo])), (s9, .inr (0, [.ref sa, .ref za, .int (iI ct)])), (sa, .inl (cI, ks.length, .inl (zf so))), (za, .inl (cI, ks.length, .inl (zf sz))), (k, .inr (5, [.ref ka, .int (iI (ks.length : Int))])), (ka, .inl (cI, ks.length, .inl (zf fk))), (cl, .inr (2, [.ref b, .ref fr, .ref ca, .int (iI cc1), .ref ge, .int (iI gc1)])), (b, .inr (1, [.ref lf, .ref rt])), (lf, .inl (cI, 9, .inl (zf gl1))), (rt, .inl (cI, 9, .inl (zf gr1))), (fr, .inr (5, [.ref fa, .int (iI fs1)])), (fa, .inl (cI, 192, .inl (zf ff1))), (ca, .inl (cI, 192, .inl (zf fc1))), (ge, .inl (cI, 10, .inl (zf fg1)))] := hD
  refine lv_aload_n hx hb dGR_alikeSets_24 rfl (lv_at hl 0 rfl) ?_
  refine va_get (D := D) (ci := 3) (v := .ref s9) (C := nGR) (T := fGR) (N := 7) hx hb hts iwGR hown hK hP 0 rfl rfl 5 (by decide) (hts _ (List.mem_cons_of_mem _ lkGR_9)) (fun _ h9 => h9) rfl dGR_alikeSets_25 ?_
  exact hret H locs (0 + 1 + 3) (0 + 3 + 576) 28 ls (some s9) (s9, sa, za, so, sz, ct, fs1, ff1, fc1, cc1, fg1, gc1, gl1, gr1) ⟨rfl, ⟨q1, q2, q3⟩, q4⟩ (hP.sub [0, 4, 5, 6, 7, 8, 9, 10, 11, 12, 13, 1, 2, 3] rfl) (hD.sub [0, 4, 5, 6, 7, 8, 9, 10, 11, 12, 13, 1, 2, 3] (by decide) rfl) hS (by decide) (by decide) dGR_alikeSets_28

def rmGR_halvesR : Room := { frames := 0, cells := 0, slots := 0, locals := 0 }
def rmGR_halves : Room := { frames := 5, cells := 2, slots := 194, locals := 155 }
set_option maxHeartbeats 4000000 in
set_option maxRecDepth 100000 in
theorem mGR_halves_some (l : Launch) (D : va_G) (cI cG : ClassId) (g k ka : Nat) (mt cn lt pcl : Int) (s9 : Nat) (alo : Option Nat) (b cl : Nat)  : zRQ l yGR_halves wGR_halves rmGR_halvesR D vwCl (zT cI cG) [.ref g, .ref b, .ref cl] [(g, .inr (3, [.ref k, .int (iI mt), .int (iI cn), .int (iI lt), .int (iI pcl), va_rf alo, .ref s9]))] (fun z => z = some s9) := by
  refine zRQ.of (cc := cGR_halves) (maxL := 3) (rt := (.object "GroupHalls$Halves")) (by decide) rfl (Nat.le_of_ble_eq_true rfl) (Or.inl ⟨_, rfl⟩) ?_
  intro p e s m args below meth c ls Q hx hb hml hown hts hK hP hX hl hret
  have hS0 : va_S (fun _ => False) s.heap s.heap [] := va_S.rf
  have hl : lv_has ls 3 [(0, .ref g), (1, .ref b), (2, .ref cl)] := hl
  refine lv_aload_n hx hb dGR_halves_0 rfl (lv_at hl 0 rfl) ?_
  refine va_get (D := D) (ci := 3) (v := .ref s9) (C := nGR) (T := fGR) (N := 7) hx hb hts iwGR hown hK hP 0 rfl rfl 6 (by decide) (hts _ (List.mem_cons_of_mem _ lkGR_15)) (fun _ h9 => h9) rfl dGR_halves_1 ?_
  refine lv_ifnonnull (tgt := 24) hx hb dGR_halves_4 (by decide) ?_
  refine lv_aload_n hx hb dGR_halves_24 rfl (lv_at hl 0 rfl) ?_
  refine va_get (D := D) (ci := 3) (v := .ref s9) (C := nGR) (T := fGR) (N := 7) hx hb hts iwGR hown hK hP 0 rfl rfl 6 (by decide) (hts _ (List.mem_cons_of_mem _ lkGR_15)) (fun _ h9 => h9) rfl dGR_halves_25 ?_
  exact hret 28 ls (some s9) rfl dGR_halves_28

set_option maxHeartbeats 4000000 in
set_option maxRecDepth 100000 in
theorem mGR_halves (l : Launch) (D : va_G) (cI cG : ClassId) (g k ka : Nat) (mt cn lt pcl : Int) (ks : List Int) (fk : Nat → Int) (alo : Option Nat) (cl b lf rt fr fa ca ge : Nat) (fs : Int) (ff fc : Nat → Int) (cc : Int) (fg : Nat → Int) (gc : Int) (gl gr : Nat → Int) (K0 : List Int) (h : rowOK ks.length fk ks) (hn : ks.length ≤ 192) (hG : isG ks) (hr0 : rowOK 192 ff K0) (hfs0 : fs = (K0.length : Int)) : zQ l yGR_halves wGR_halves rmGR_halves D vwCl (zT cI cG) [.ref g, .ref b, .ref cl] [(g, .inr (3, [.ref k, .int (iI mt), .int (iI cn), .int (iI lt), .int (iI pcl), va_rf alo, .null])), (k, .inr (5, [.ref ka, .int (iI (ks.length : Int))])), (ka, .inl (cI, ks.length, .inl (zf fk))), (cl, .inr (2, [.ref b, .ref fr, .ref ca, .int (iI cc), .ref ge, .int (iI gc)])), (b, .inr (1, [.ref lf, .ref rt])), (lf, .inl (cI, 9, .inl (zf gl))), (rt, .inl (cI, 9, .inl (zf gr))), (fr, .inr (5, [.ref fa, .int (iI fs)])), (fa, .inl (cI, 192, .inl (zf ff))), (ca, .inl (cI, 192, .inl (zf fc))), (ge, .inl (cI, 10, .inl (zf fg)))] (S := (Nat × Nat × (Nat → Int) × Nat × CS)) (fun r u => r = some u.1 ∧ hvOK ks (some (u.1, u.2.1, u.2.2.1, u.2.2.2.1)) ∧ ∃ K, rowOK 192 u.2.2.2.2.2.1 K ∧ u.2.2.2.2.1 = (K.length : Int)) (fun u => [(g, .inr (3, [.ref k, .int (iI mt), .int (iI cn), .int (iI lt), .int (iI pcl), va_rf alo, .ref u.1])), (k, .inr (5, [.ref ka, .int (iI (ks.length : Int))])), (ka, .inl (cI, ks.length, .inl (zf fk))), (cl, .inr (2, [.ref b, .ref fr, .ref ca, .int (iI u.2.2.2.2.2.2.2.1), .ref ge, .int (iI u.2.2.2.2.2.2.2.2.2.1)])), (b, .inr (1, [.ref lf, .ref rt])), (lf, .inl (cI, 9, .inl (zf u.2.2.2.2.2.2.2.2.2.2.1))), (rt, .inl (cI, 9, .inl (zf u.2.2.2.2.2.2.2.2.2.2.2))), (fr, .inr (5, [.ref fa, .int (iI u.2.2.2.2.1)])), (fa, .inl (cI, 192, .inl (zf u.2.2.2.2.2.1))), (ca, .inl (cI, 192, .inl (zf u.2.2.2.2.2.2.1))), (ge, .inl (cI, 10, .inl (zf u.2.2.2.2.2.2.2.2.1))), (u.1, .inr (4, [.ref u.2.1, .int (iI (u.2.2.2.1 : Int))])), (u.2.1, .inl (cI, ks.length, .inl (zf u.2.2.1)))]) := by
  refine zQ.of (cc := cGR_halves) (maxL := 3) (rt := (.object "GroupHalls$Halves")) (by decide) rfl (Nat.le_of_ble_eq_true rfl) (Or.inl ⟨_, rfl⟩) ?_
  intro p e s m args below meth c A ls Q hx hb hml hown hts hnm hK hD hA hAe hX hl hret H locs hP hS
  have hl : lv_has ls 3 [(0, .ref g), (1, .ref b), (2, .ref cl)] := hl
  refine lv_aload_n hx hb dGR_halves_0 rfl (lv_at hl 0 rfl) ?_
  refine va_get (D := D) (ci := 3) (v := .null) (C := nGR) (T := fGR) (N := 7) hx hb hts iwGR hown hK hP 0 rfl rfl 6 (by decide) (hts _ (List.mem_cons_of_mem _ lkGR_15)) (fun _ h9 => h9) rfl dGR_halves_1 ?_
  refine lv_ifnonnullN hx hb dGR_halves_4 ?_
  refine lv_aload_n hx hb dGR_halves_7 rfl (lv_at hl 0 rfl) ?_
  refine va_new (ci := 4) (fs := [.null, .int (iI 0)]) (C := nHA) (T := fHA) (N := 2) hx hb hts iwHA tHA tkHA hown (hts _ (List.mem_cons_of_mem _ lkGR_66)) (hts _ (List.mem_cons_of_mem _ insHA)) (hts _ (List.mem_cons_of_mem _ iniHA)) hK hP hD hS hA rfl (fun j hj => by rcases (show j = 0 ∨ j = 1 by omega) with rfl | rfl <;> rfl) (Nat.le_of_ble_eq_true rfl) (Nat.le_of_ble_eq_true rfl) dGR_halves_8 (fun s9 H hP hD hS => ?_)
  have hP : va_P D vwCl [(g, .inr (3, [.ref k, .int (iI mt), .int (iI cn), .int (iI lt), .int (iI pcl), va_rf alo, .null])), (k, .inr (5, [.ref ka, .int (iI (ks.length : Int))])), (ka, .inl (cI, ks.length, .inl (zf fk))), (cl, .inr (2, [.ref b, .ref fr, .ref ca, .int (iI cc), .ref ge, .int (iI gc)])), (b, .inr (1, [.ref lf, .ref rt])), (lf, .inl (cI, 9, .inl (zf gl))), (rt, .inl (cI, 9, .inl (zf gr))), (fr, .inr (5, [.ref fa, .int (iI fs)])), (fa, .inl (cI, 192, .inl (zf ff))), (ca, .inl (cI, 192, .inl (zf fc))), (ge, .inl (cI, 10, .inl (zf fg))), (s9, .inr (4, [.null, .int (iI 0)]))] H := hP
  have hD : va_D A [(g, .inr (3, [.ref k, .int (iI mt), .int (iI cn), .int (iI lt), .int (iI pcl), va_rf alo, .null])), (k, .inr (5, [.ref ka, .int (iI (ks.length : Int))])), (ka, .inl (cI, ks.length, .inl (zf fk))), (cl, .inr (2, [.ref b, .ref fr, .ref ca, .int (iI cc), .ref ge, .int (iI gc)])), (b, .inr (1, [.ref lf, .ref rt])), (lf, .inl (cI, 9, .inl (zf gl))), (rt, .inl (cI, 9, .inl (zf gr))), (fr, .inr (5, [.ref fa, .int (iI fs)])), (fa, .inl (cI, 192, .inl (zf ff))), (ca, .inl (cI, 192, .inl (zf fc))), (ge, .inl (cI, 10, .inl (zf fg))), (s9, .inr (4, [.null, .int (iI 0)]))] := hD
  refine lv_dup hx hb dGR_halves_11 rfl ?_
  refine lv_aload_n hx hb dGR_halves_12 rfl (lv_at hl 0 rfl) ?_
  refine va_get (D := D) (ci := 3) (v := .ref k) (C := nGR) (T := fGR) (N := 7) hx hb hts iwGR hown hK hP 0 rfl rfl 0 (by decide) (hts _ (List.mem_cons_of_mem _ lkGR_28)) (fun _ h9 => h9) rfl dGR_halves_13 ?_
  refine lv_aload_n hx hb dGR_halves_16 rfl (lv_at hl 1 rfl) ?_
  refine lv_aload_n hx hb dGR_halves_17 rfl (lv_at hl 2 rfl) ?_
  refine zV.back (va_runI (As := [.ref k, .ref b, .ref cl]) (rest := [.ref s9, .ref g]) ⟨hx, hb, hml, hown, hts⟩ ((mHA_init l D cI cG s9 k ka ks.length fk ks cl b lf rt fr fa ca ge fs ff fc cc fg gc gl gr K0 h hn hG hr0 hfs0) H.size) (cwI 3 hts (gTW kcHA_init) rfl rfl rfl (hts _ (List.mem_cons_of_mem _ iniHA)) (hts _ (List.mem_cons_of_mem _ lkGR_68)) (hts _ (List.mem_cons_of_mem _ imHA_init)) rfl (by decide +kernel) ⟨Nat.le_of_ble_eq_true rfl, Nat.le_of_ble_eq_true rfl⟩) ⟨zPre_blind, zPre.at (wc := [(s9, .inr (4, [.null, .int (iI 0)])), (k, .inr (5, [.ref ka, .int (iI (ks.length : Int))])), (ka, .inl (cI, ks.length, .inl (zf fk))), (cl, .inr (2, [.ref b, .ref fr, .ref ca, .int (iI cc), .ref ge, .int (iI gc)])), (b, .inr (1, [.ref lf, .ref rt])), (lf, .inl (cI, 9, .inl (zf gl))), (rt, .inl (cI, 9, .inl (zf gr))), (fr, .inr (5, [.ref fa, .int (iI fs)])), (fa, .inl (cI, 192, .inl (zf ff))), (ca, .inl (cI, 192, .inl (zf fc))), (ge, .inl (cI, 10, .inl (zf fg)))]) hK hP hD hS hA hX [11, 1, 2, 3, 4, 5, 6, 7, 8, 9, 10] (by decide) rfl⟩ rfl rfl hl.1 rfl (lv_room (Nat.le_of_ble_eq_true rfl)) dGR_halves_18 ⟨Nat.le_of_ble_eq_true rfl, Nat.le_of_ble_eq_true rfl⟩) (wr := [(g, .inr (3, [.ref k, .int (iI mt), .int (iI cn), .int (iI lt), .int (iI pcl), va_rf alo, .null]))]) hP hD hS hA [11, 1, 2, 3, 4, 5, 6, 7, 8, 9, 10] [0] rfl rfl (by decide) (by decide) (fun u_18 H locs q_18 hP hD hS hz_18 hk_18 => ?_)
  obtain ⟨ca9, co, bt, fs1, ff1, fc1, cc1, fg1, gc1, gl1, gr1⟩ := u_18
  obtain ⟨⟨K, bb, q1, q2, q3, q4, q5⟩, q6⟩ := q_18
  have q4 : bt = (bb : Int) := q4
  subst q4
  have hP : va_P D vwCl [(g, .inr (3, [.ref k, .int (iI mt), .int (iI cn), .int (iI lt), .int (iI pcl), va_rf alo, .null])), (s9, .inr (4, [.ref ca9, .int (iI (bb : Int))])), (ca9, .inl (cI, ks.length, .inl (zf co))), (k, .inr (5, [.ref ka, .int (iI (ks.length : Int))])), (ka, .inl (cI, ks.length, .inl (zf fk))), (cl, .inr (2, [.ref b, .ref fr, .ref ca, .int (iI cc1), .ref ge, .int (iI gc1)])), (b, .inr (1, [.ref lf, .ref rt])), (lf, .inl (cI, 9, .inl (zf gl1))), (rt, .inl (cI, 9, .inl (zf gr1))), (fr, .inr (5, [.ref fa, .int (iI fs1)])), (fa, .inl (cI, 192, .inl (zf ff1))), (ca, .inl (cI, 192, .inl (zf fc1))), (ge, .inl (cI, 10, .inl (zf fg1)))] H := hP
  have hD : va_D A [(g, .inr (3, [.ref k, .int (iI mt), .int (iI cn), .int (iI lt), .int (iI pcl), va_rf alo, .null])), (s9, .inr (4, [.ref ca9, .int (iI (bb : Int))])), (ca9, .inl (cI, ks.length, .inl (zf co))), (k, .inr (5, [.ref ka, .int (iI (ks.length : Int))])), (ka, .inl (cI, ks.length, .inl (zf fk))), (cl, .inr (2, [.ref b, .ref fr, .ref ca, .int (iI cc1), .ref ge, .int (iI gc1)])), (b, .inr (1, [.ref lf, .ref rt])), (lf, .inl (cI, 9, .inl (zf gl1))), (rt, .inl (cI, 9, .inl (zf gr1))), (fr, .inr (5, [.ref fa, .int (iI fs1)])), (fa, .inl (cI, 192, .inl (zf ff1))), (ca, .inl (cI, 192, .inl (zf fc1))), (ge, .inl (cI, 10, .inl (zf fg1)))] := hD
  refine va_put (D := D) (ci := 3) (v := .ref s9) (ty := .object "GroupHalls$Halves") (C := nGR) (T := fGR) (N := 7) hx hb hts iwGR tGR tkGR nmGR hown hK hP hD hS 0 rfl rfl 6 (by decide) (hts _ (List.mem_cons_of_mem _ lkGR_15)) (fun _ h9 => h9) rfl (by decide +kernel) rfl rfl (Nat.le_of_ble_eq_true rfl) dGR_halves_21 (fun H locs hP hD hS => ?_)
  have hP : va_P D vwCl [(g, .inr (3, [.ref k, .int (iI mt), .int (iI cn), .int (iI lt), .int (iI pcl), va_rf alo, .ref s9])), (s9, .inr (4, [.ref ca9, .int (iI (bb : Int))])), (ca9, .inl (cI, ks.length, .inl (zf co))), (k, .inr (5, [.ref ka, .int (iI (ks.length : Int))])), (ka, .inl (cI, ks.length, .inl (zf fk))), (cl, .inr (2, [.ref b, .ref fr, .ref ca, .int (iI cc1), .ref ge, .int (iI gc1)])), (b, .inr (1, [.ref lf, .ref rt])), (lf, .inl (cI, 9, .inl (zf gl1))), (rt, .inl (cI, 9, .inl (zf gr1))), (fr, .inr (5, [.ref fa, .int (iI fs1)])), (fa, .inl (cI, 192, .inl (zf ff1))), (ca, .inl (cI, 192, .inl (zf fc1))), (ge, .inl (cI, 10, .inl (zf fg1)))] H := hP
  have hD : va_D A [(g, .inr (3, [.ref k, .int (iI mt), .int (iI cn), .int (iI lt), .int (iI pcl), va_rf alo, .ref s9])), (s9, .inr (4, [.ref ca9, .int (iI (bb : Int))])), (ca9, .inl (cI, ks.length, .inl (zf co))), (k, .inr (5, [.ref ka, .int (iI (ks.length : Int))])), (ka, .inl (cI, ks.length, .inl (zf fk))), (cl, .inr (2, [.ref b, .ref fr, .ref ca, .int (iI cc1), .ref ge, .int (iI gc1)])), (b, .inr (1, [.ref lf, .ref rt])), (lf, .inl (cI, 9, .inl (zf gl1))), (rt, .inl (cI, 9, .inl (zf gr1))), (fr, .inr (5, [.ref fa, .int (iI fs1)])), (fa, .inl (cI, 192, .inl (zf ff1))), (ca, .inl (cI, 192, .inl (zf fc1))), (ge, .inl (cI, 10, .inl (zf fg1)))] := hD
  refine lv_aload_n hx hb dGR_halves_24 rfl (lv_at hl 0 rfl) ?_
  refine va_get (D := D) (ci := 3) (v := .ref s9) (C := nGR) (T := fGR) (N := 7) hx hb hts iwGR hown hK hP 0 rfl rfl 6 (by decide) (hts _ (List.mem_cons_of_mem _ lkGR_15)) (fun _ h9 => h9) rfl dGR_halves_25 ?_
  exact hret H locs (0 + 1 + 1) (0 + 2 + 192) 28 ls (some s9) (s9, ca9, co, bb, fs1, ff1, fc1, cc1, fg1, gc1, gl1, gr1) ⟨rfl, ⟨K, q1, q2, q3, q5⟩, q6⟩ (hP.sub [0, 3, 4, 5, 6, 7, 8, 9, 10, 11, 12, 1, 2] rfl) (hD.sub [0, 3, 4, 5, 6, 7, 8, 9, 10, 11, 12, 1, 2] (by decide) rfl) hS (by decide) (by decide) dGR_halves_28

def rmCL_init : Room := { frames := 2, cells := 4, slots := 396, locals := 51 }
set_option maxHeartbeats 4000000 in
set_option maxRecDepth 100000 in
theorem mCL_init (l : Launch) (D : va_G) (cI cG : ClassId) (cl b : Nat)  : zV l yCL_init wCL_init rmCL_init D vwCl (zT cI cG) [.ref cl, .ref b] [(cl, .inr (2, [.null, .null, .null, .int (iI 0), .null, .int (iI 0)]))] (S := (Nat × Nat × Nat × Nat)) (fun u => True) (fun u => [(cl, .inr (2, [.ref b, .ref u.1, .ref u.2.2.1, .int (iI 0), .ref u.2.2.2, .int (iI 0)])), (u.1, .inr (5, [.ref u.2.1, .int (iI 0)])), (u.2.1, .inl (cI, 192, .inl (zf fun _ => 0))), (u.2.2.1, .inl (cI, 192, .inl (zf fun _ => 0))), (u.2.2.2, .inl (cI, 10, .inl (zf fun _ => 0)))]) := by
  refine zV.of (cc := cCL_init) (maxL := 2) (by decide) rfl (Nat.le_of_ble_eq_true rfl) ?_
  intro p e s m args below meth c A ls Q hx hb hml hown hts hnm hK hD hA hAe hX hl hret H locs hP hS
  have hl : lv_has ls 2 [(0, .ref cl), (1, .ref b)] := hl
  refine lv_aload_n hx hb dCL_init_0 rfl (lv_at hl 0 rfl) ?_
  refine W.objInit hx hb hown (hts _ (List.mem_cons_of_mem _ lkCL_3)) (hts _ (List.mem_cons_of_mem _ imJO_init)) (hts _ (List.mem_cons_of_mem _ kcJO_init)) rfl (by rw [hml]; exact hl.1) rfl dCL_init_1 (Nat.le_of_ble_eq_true rfl) (Nat.le_of_ble_eq_true rfl) ?_
  refine W.eq (g2 := F0 m 4 ls []) rfl ?_
  refine lv_aload_n hx hb dCL_init_4 rfl (lv_at hl 0 rfl) ?_
  refine va_new (ci := 5) (fs := [.null, .int (iI 0)]) (C := nRO) (T := fRO) (N := 2) hx hb hts iwRO tRO tkRO hown (hts _ (List.mem_cons_of_mem _ lkCL_9)) (hts _ (List.mem_cons_of_mem _ insRO)) (hts _ (List.mem_cons_of_mem _ iniRO)) hK hP hD hS hA rfl (fun j hj => by rcases (show j = 0 ∨ j = 1 by omega) with rfl | rfl <;> rfl) (Nat.le_of_ble_eq_true rfl) (Nat.le_of_ble_eq_true rfl) dCL_init_5 (fun fr H hP hD hS => ?_)
  have hP : va_P D vwCl [(cl, .inr (2, [.null, .null, .null, .int (iI 0), .null, .int (iI 0)])), (fr, .inr (5, [.null, .int (iI 0)]))] H := hP
  have hD : va_D A [(cl, .inr (2, [.null, .null, .null, .int (iI 0), .null, .int (iI 0)])), (fr, .inr (5, [.null, .int (iI 0)]))] := hD
  refine lv_dup hx hb dCL_init_8 rfl ?_
  refine lv_sipush (v := iI (192)) hx hb dCL_init_9 (by decide) ?_
  refine zV.back (va_runI (As := [.int (iI 192)]) (rest := [.ref fr, .ref cl]) ⟨hx, hb, hml, hown, hts⟩ ((mRO_init l D cI cG fr 192 (by decide)) H.size) (cwI 1 hts (gTW kcRO_init) rfl rfl rfl (hts _ (List.mem_cons_of_mem _ iniRO)) (hts _ (List.mem_cons_of_mem _ lkCL_11)) (hts _ (List.mem_cons_of_mem _ imRO_init)) rfl (by decide +kernel) ⟨Nat.le_of_ble_eq_true rfl, Nat.le_of_ble_eq_true rfl⟩) ⟨zPre_blind, zPre.at (wc := [(fr, .inr (5, [.null, .int (iI 0)]))]) hK hP hD hS hA hX [1] (by decide) rfl⟩ rfl rfl hl.1 rfl (lv_room (Nat.le_of_ble_eq_true rfl)) dCL_init_12 ⟨Nat.le_of_ble_eq_true rfl, Nat.le_of_ble_eq_true rfl⟩) (wr := [(cl, .inr (2, [.null, .null, .null, .int (iI 0), .null, .int (iI 0)]))]) hP hD hS hA [1] [0] rfl rfl (by decide) (by decide) (fun u_12 H locs q_12 hP hD hS hz_12 hk_12 => ?_)
  have hP : va_P D vwCl [(cl, .inr (2, [.null, .null, .null, .int (iI 0), .null, .int (iI 0)])), (fr, .inr (5, [.ref u_12, .int (iI 0)])), (u_12, .inl (cI, 192, .inl (zf (fun _ => 0))))] H := hP
  have hD : va_D A [(cl, .inr (2, [.null, .null, .null, .int (iI 0), .null, .int (iI 0)])), (fr, .inr (5, [.ref u_12, .int (iI 0)])), (u_12, .inl (cI, 192, .inl (zf (fun _ => 0))))] := hD
  refine va_putF (D := D) (ci := 2) (v := .ref fr) (ty := .object "GroupHalls$Row") (C := nCL) (T := fCL) (N := 6) hx hb hts iwCL tCL tkCL nmCL hown hK hP hD hS 0 rfl rfl 1 (by decide) (hts _ (List.mem_cons_of_mem _ lkCL_14)) (fun _ h9 => h9) rfl hnm rfl (by decide +kernel) rfl rfl (Nat.le_of_ble_eq_true rfl) dCL_init_15 (fun H locs hP hD hS => ?_)
  have hP : va_P D vwCl [(cl, .inr (2, [.null, .ref fr, .null, .int (iI 0), .null, .int (iI 0)])), (fr, .inr (5, [.ref u_12, .int (iI 0)])), (u_12, .inl (cI, 192, .inl (zf (fun _ => 0))))] H := hP
  have hD : va_D A [(cl, .inr (2, [.null, .ref fr, .null, .int (iI 0), .null, .int (iI 0)])), (fr, .inr (5, [.ref u_12, .int (iI 0)])), (u_12, .inl (cI, 192, .inl (zf (fun _ => 0))))] := hD
  refine lv_aload_n hx hb dCL_init_18 rfl (lv_at hl 0 rfl) ?_
  refine lv_sipush (v := iI (192)) hx hb dCL_init_19 (by decide) ?_
  refine lz_newa hx hb (hts _ (List.mem_cons_of_mem _ ac_int)) hK hP hD hS hA 0 rfl (N := 192) rfl (by decide) (Nat.le_of_ble_eq_true rfl) (Nat.le_of_ble_eq_true rfl) dCL_init_22 (fun ca H hP hD hS => ?_)
  have hP : va_P D vwCl [(cl, .inr (2, [.null, .ref fr, .null, .int (iI 0), .null, .int (iI 0)])), (fr, .inr (5, [.ref u_12, .int (iI 0)])), (u_12, .inl (cI, 192, .inl (zf (fun _ => 0)))), (ca, .inl (cI, 192, .inl (zf (fun _ => 0))))] H := hP
  have hD : va_D A [(cl, .inr (2, [.null, .ref fr, .null, .int (iI 0), .null, .int (iI 0)])), (fr, .inr (5, [.ref u_12, .int (iI 0)])), (u_12, .inl (cI, 192, .inl (zf (fun _ => 0)))), (ca, .inl (cI, 192, .inl (zf (fun _ => 0))))] := hD
  refine va_putF (D := D) (ci := 2) (v := .ref ca) (ty := .array .int) (C := nCL) (T := fCL) (N := 6) hx hb hts iwCL tCL tkCL nmCL hown hK hP hD hS 0 rfl rfl 2 (by decide) (hts _ (List.mem_cons_of_mem _ lkCL_20)) (fun _ h9 => h9) rfl hnm rfl (by decide +kernel) rfl rfl (Nat.le_of_ble_eq_true rfl) dCL_init_24 (fun H locs hP hD hS => ?_)
  have hP : va_P D vwCl [(cl, .inr (2, [.null, .ref fr, .ref ca, .int (iI 0), .null, .int (iI 0)])), (fr, .inr (5, [.ref u_12, .int (iI 0)])), (u_12, .inl (cI, 192, .inl (zf (fun _ => 0)))), (ca, .inl (cI, 192, .inl (zf (fun _ => 0))))] H := hP
  have hD : va_D A [(cl, .inr (2, [.null, .ref fr, .ref ca, .int (iI 0), .null, .int (iI 0)])), (fr, .inr (5, [.ref u_12, .int (iI 0)])), (u_12, .inl (cI, 192, .inl (zf (fun _ => 0)))), (ca, .inl (cI, 192, .inl (zf (fun _ => 0))))] := hD
  refine lv_aload_n hx hb dCL_init_27 rfl (lv_at hl 0 rfl) ?_
  refine lv_iconst (v := iI (0)) hx hb dCL_init_28 rfl ?_
  refine va_put (D := D) (ci := 2) (v := .int (iI 0)) (ty := .int) (C := nCL) (T := fCL) (N := 6) hx hb hts iwCL tCL tkCL nmCL hown hK hP hD hS 0 rfl rfl 3 (by decide) (hts _ (List.mem_cons_of_mem _ lkCL_24)) (fun _ h9 => h9) rfl (by decide +kernel) rfl rfl (Nat.le_of_ble_eq_true rfl) dCL_init_29 (fun H locs hP hD hS => ?_)
  have hP : va_P D vwCl [(cl, .inr (2, [.null, .ref fr, .ref ca, .int (iI 0), .null, .int (iI 0)])), (fr, .inr (5, [.ref u_12, .int (iI 0)])), (u_12, .inl (cI, 192, .inl (zf (fun _ => 0)))), (ca, .inl (cI, 192, .inl (zf (fun _ => 0))))] H := hP
  have hD : va_D A [(cl, .inr (2, [.null, .ref fr, .ref ca, .int (iI 0), .null, .int (iI 0)])), (fr, .inr (5, [.ref u_12, .int (iI 0)])), (u_12, .inl (cI, 192, .inl (zf (fun _ => 0)))), (ca, .inl (cI, 192, .inl (zf (fun _ => 0))))] := hD
  refine lv_aload_n hx hb dCL_init_32 rfl (lv_at hl 0 rfl) ?_
  refine lv_bipush (v := iI (10)) hx hb dCL_init_33 (by decide) ?_
  refine lz_newa hx hb (hts _ (List.mem_cons_of_mem _ ac_int)) hK hP hD hS hA 0 rfl (N := 10) rfl (by decide) (Nat.le_of_ble_eq_true rfl) (Nat.le_of_ble_eq_true rfl) dCL_init_35 (fun ge H hP hD hS => ?_)
  have hP : va_P D vwCl [(cl, .inr (2, [.null, .ref fr, .ref ca, .int (iI 0), .null, .int (iI 0)])), (fr, .inr (5, [.ref u_12, .int (iI 0)])), (u_12, .inl (cI, 192, .inl (zf (fun _ => 0)))), (ca, .inl (cI, 192, .inl (zf (fun _ => 0)))), (ge, .inl (cI, 10, .inl (zf (fun _ => 0))))] H := hP
  have hD : va_D A [(cl, .inr (2, [.null, .ref fr, .ref ca, .int (iI 0), .null, .int (iI 0)])), (fr, .inr (5, [.ref u_12, .int (iI 0)])), (u_12, .inl (cI, 192, .inl (zf (fun _ => 0)))), (ca, .inl (cI, 192, .inl (zf (fun _ => 0)))), (ge, .inl (cI, 10, .inl (zf (fun _ => 0))))] := hD
  refine va_putF (D := D) (ci := 2) (v := .ref ge) (ty := .array .int) (C := nCL) (T := fCL) (N := 6) hx hb hts iwCL tCL tkCL nmCL hown hK hP hD hS 0 rfl rfl 4 (by decide) (hts _ (List.mem_cons_of_mem _ lkCL_28)) (fun _ h9 => h9) rfl hnm rfl (by decide +kernel) rfl rfl (Nat.le_of_ble_eq_true rfl) dCL_init_37 (fun H locs hP hD hS => ?_)
  have hP : va_P D vwCl [(cl, .inr (2, [.null, .ref fr, .ref ca, .int (iI 0), .ref ge, .int (iI 0)])), (fr, .inr (5, [.ref u_12, .int (iI 0)])), (u_12, .inl (cI, 192, .inl (zf (fun _ => 0)))), (ca, .inl (cI, 192, .inl (zf (fun _ => 0)))), (ge, .inl (cI, 10, .inl (zf (fun _ => 0))))] H := hP
  have hD : va_D A [(cl, .inr (2, [.null, .ref fr, .ref ca, .int (iI 0), .ref ge, .int (iI 0)])), (fr, .inr (5, [.ref u_12, .int (iI 0)])), (u_12, .inl (cI, 192, .inl (zf (fun _ => 0)))), (ca, .inl (cI, 192, .inl (zf (fun _ => 0)))), (ge, .inl (cI, 10, .inl (zf (fun _ => 0))))] := hD
  refine lv_aload_n hx hb dCL_init_40 rfl (lv_at hl 0 rfl) ?_
  refine lv_iconst (v := iI (0)) hx hb dCL_init_41 rfl ?_
  refine va_put (D := D) (ci := 2) (v := .int (iI 0)) (ty := .int) (C := nCL) (T := fCL) (N := 6) hx hb hts iwCL tCL tkCL nmCL hown hK hP hD hS 0 rfl rfl 5 (by decide) (hts _ (List.mem_cons_of_mem _ lkCL_31)) (fun _ h9 => h9) rfl (by decide +kernel) rfl rfl (Nat.le_of_ble_eq_true rfl) dCL_init_42 (fun H locs hP hD hS => ?_)
  have hP : va_P D vwCl [(cl, .inr (2, [.null, .ref fr, .ref ca, .int (iI 0), .ref ge, .int (iI 0)])), (fr, .inr (5, [.ref u_12, .int (iI 0)])), (u_12, .inl (cI, 192, .inl (zf (fun _ => 0)))), (ca, .inl (cI, 192, .inl (zf (fun _ => 0)))), (ge, .inl (cI, 10, .inl (zf (fun _ => 0))))] H := hP
  have hD : va_D A [(cl, .inr (2, [.null, .ref fr, .ref ca, .int (iI 0), .ref ge, .int (iI 0)])), (fr, .inr (5, [.ref u_12, .int (iI 0)])), (u_12, .inl (cI, 192, .inl (zf (fun _ => 0)))), (ca, .inl (cI, 192, .inl (zf (fun _ => 0)))), (ge, .inl (cI, 10, .inl (zf (fun _ => 0))))] := hD
  refine lv_aload_n hx hb dCL_init_45 rfl (lv_at hl 0 rfl) ?_
  refine lv_aload_n hx hb dCL_init_46 rfl (lv_at hl 1 rfl) ?_
  refine va_putF (D := D) (ci := 2) (v := .ref b) (ty := .object "GroupHalls$Bench") (C := nCL) (T := fCL) (N := 6) hx hb hts iwCL tCL tkCL nmCL hown hK hP hD hS 0 rfl rfl 0 (by decide) (hts _ (List.mem_cons_of_mem _ lkCL_34)) (fun _ h9 => h9) rfl hnm rfl (by decide +kernel) rfl rfl (Nat.le_of_ble_eq_true rfl) dCL_init_47 (fun H locs hP hD hS => ?_)
  have hP : va_P D vwCl [(cl, .inr (2, [.ref b, .ref fr, .ref ca, .int (iI 0), .ref ge, .int (iI 0)])), (fr, .inr (5, [.ref u_12, .int (iI 0)])), (u_12, .inl (cI, 192, .inl (zf (fun _ => 0)))), (ca, .inl (cI, 192, .inl (zf (fun _ => 0)))), (ge, .inl (cI, 10, .inl (zf (fun _ => 0))))] H := hP
  have hD : va_D A [(cl, .inr (2, [.ref b, .ref fr, .ref ca, .int (iI 0), .ref ge, .int (iI 0)])), (fr, .inr (5, [.ref u_12, .int (iI 0)])), (u_12, .inl (cI, 192, .inl (zf (fun _ => 0)))), (ca, .inl (cI, 192, .inl (zf (fun _ => 0)))), (ge, .inl (cI, 10, .inl (zf (fun _ => 0))))] := hD
  exact hret H locs (0 + 1 + 1 + 1 + 1) (0 + 2 + 192 + 192 + 10) 50 ls (fr, u_12, ca, ge) trivial (hP.sub [0, 1, 2, 3, 4] rfl) (hD.sub [0, 1, 2, 3, 4] (by decide) rfl) hS (by decide) (by decide) dCL_init_50
end
section
/-! GroupHalls.hallAt, numberOf: written by wip/whole/gengh.py -/
def rmGH_hallAt : Room := { frames := 0, cells := 0, slots := 0, locals := 0 }
set_option maxHeartbeats 4000000 in
set_option maxRecDepth 100000 in
theorem mGH_hallAt (l : Launch) (D : va_G) (cI cG : ClassId) (gh ha ch ga : Nat) (b cl : Nat) (md cc9 : Int) (hf : Nat → Option Nat) (x : Int) (hmd : 0 ≤ md ∧ md ≤ 40) (hx1 : -2147483648 ≤ x ∧ x < 2147483648) : zRQ l yGH_hallAt wGH_hallAt rmGH_hallAt D vwCl (zT cI cG) [.ref gh, .int (iI x)] [(gh, .inr (6, [.ref ha, .int (iI md), .ref ch, .int (iI cc9), .ref b, .ref cl, .ref ga])), (ha, .inl (cG, 40, .inr (.inr (.inr (.inr hf)))))] (fun z => (0 ≤ x ∧ x < md ∧ z = hf x.toNat) ∨ (¬ (0 ≤ x ∧ x < md) ∧ z = none)) := by
  refine zRQ.of (cc := cGH_hallAt) (maxL := 2) (rt := (.object "GroupHalls$Group")) (by decide) rfl (Nat.le_of_ble_eq_true rfl) (Or.inl ⟨_, rfl⟩) ?_
  intro p e s m args below meth c ls Q hx hb hml hown hts hK hP hX hl hret
  have hS0 : va_S (fun _ => False) s.heap s.heap [] := va_S.rf
  have hl : lv_has ls 2 [(0, .ref gh), (1, .int (iI x))] := hl
  refine lv_iload_n hx hb dGH_hallAt_0 rfl (lv_at hl 1 rfl) ?_
  refine lz_if_lt (tgt := 27) hx hb dGH_hallAt_1 (by decide) (by omega) (fun c_1 => ?_) (fun c_1 => ?_)
  · refine lv_null hx hb dGH_hallAt_27 ?_
    exact hret 28 ls none (Or.inr ⟨by omega, rfl⟩) dGH_hallAt_28
  · refine lv_iload_n hx hb dGH_hallAt_4 rfl (lv_at hl 1 rfl) ?_
    refine lv_aload_n hx hb dGH_hallAt_5 rfl (lv_at hl 0 rfl) ?_
    refine va_get (D := D) (ci := 6) (v := .int (iI md)) (C := nGH) (T := fGH) (N := 7) hx hb hts iwGH hown hK hP 0 rfl rfl 1 (by decide) (hts _ (List.mem_cons_of_mem _ lkGH_15)) (fun _ h9 => h9) rfl dGH_hallAt_6 ?_
    refine lz_icmp_ge (tgt := 27) hx hb dGH_hallAt_9 (by decide) (by omega) (by omega) (fun c_9 => ?_) (fun c_9 => ?_)
    · refine lv_null hx hb dGH_hallAt_27 ?_
      exact hret 28 ls none (Or.inr ⟨by omega, rfl⟩) dGH_hallAt_28
    · refine lv_iload_n hx hb dGH_hallAt_12 rfl (lv_at hl 1 rfl) ?_
      refine lv_bipush (v := iI (40)) hx hb dGH_hallAt_13 (by decide) ?_
      refine lz_icmp_ge (tgt := 27) hx hb dGH_hallAt_15 (by decide) (by omega) (by omega) (fun c_15 => ?_) (fun c_15 => ?_)
      · refine lv_null hx hb dGH_hallAt_27 ?_
        exact hret 28 ls none (Or.inr ⟨by omega, rfl⟩) dGH_hallAt_28
      · refine lv_aload_n hx hb dGH_hallAt_18 rfl (lv_at hl 0 rfl) ?_
        refine va_get (D := D) (ci := 6) (v := .ref ha) (C := nGH) (T := fGH) (N := 7) hx hb hts iwGH hown hK hP 0 rfl rfl 0 (by decide) (hts _ (List.mem_cons_of_mem _ lkGH_11)) (fun _ h9 => h9) rfl dGH_hallAt_19 ?_
        refine lv_iload_n hx hb dGH_hallAt_22 rfl (lv_at hl 1 rfl) ?_
        refine lz_aald hx hb hK hP 1 1 rfl rfl (z := x) (by omega) dGH_hallAt_23 ?_
        refine lv_goto (tgt := 28) hx hb dGH_hallAt_24 (by decide) ?_
        exact hret 28 ls (hf (x).toNat) (Or.inl ⟨by omega, by omega, rfl⟩) dGH_hallAt_28

def rmGH_numberOf : Room := { frames := 5, cells := 3, slots := 201, locals := 119 }
set_option maxHeartbeats 4000000 in
set_option maxRecDepth 100000 in
theorem mGH_numberOf (l : Launch) (D : va_G) (cI cG : ClassId) (gh ha ch ga : Nat) (cl : Nat) (cc9 : Int) (hf : Nat → Option Nat) (r a : Nat) (f : Nat → Int) (ks : List Int) (b lf rt : Nat) (gl gr : Nat → Int) (gs : List GRec) (h : rowOK 192 f ks) (hk : gkOK ks) (hI : GInv gs hf) : zI l yGH_numberOf wGH_numberOf rmGH_numberOf D vwCl (zT cI cG) [.ref gh, .ref r] ([(gh, .inr (6, [.ref ha, .int (iI (gs.length : Int)), .ref ch, .int (iI cc9), .ref b, .ref cl, .ref ga])), (ha, .inl (cG, 40, .inr (.inr (.inr (.inr hf))))), (r, .inr (5, [.ref a, .int (iI (ks.length : Int))])), (a, .inl (cI, 192, .inl (zf f))), (b, .inr (1, [.ref lf, .ref rt])), (lf, .inl (cI, 9, .inl (zf gl))), (rt, .inl (cI, 9, .inl (zf gr)))] ++ poolW cI gs) (S := (List GRec × (Nat → Option Nat) × (Nat → Int))) (fun z u => numR (gs.map gK) ks z (u.1.map gK) ∧ GInv u.1 u.2.1) (fun u => ([(gh, .inr (6, [.ref ha, .int (iI (u.1.length : Int)), .ref ch, .int (iI cc9), .ref b, .ref cl, .ref ga])), (ha, .inl (cG, 40, .inr (.inr (.inr (.inr u.2.1))))), (r, .inr (5, [.ref a, .int (iI (ks.length : Int))])), (a, .inl (cI, 192, .inl (zf f))), (b, .inr (1, [.ref lf, .ref rt])), (lf, .inl (cI, 9, .inl (zf u.2.2))), (rt, .inl (cI, 9, .inl (zf gr)))] ++ poolW cI u.1)) := by
  refine zI.of (cc := cGH_numberOf) (maxL := 4) (rt := .int) (by decide) rfl (Nat.le_of_ble_eq_true rfl) (fun _ _ _ => rfl) ?_
  intro p e s m args below meth c A ls Q hx hb hml hown hts hnm hK hD hA hAe hX hl hret H locs hP hS
  have hl : lv_has ls 4 [(0, .ref gh), (1, .ref r)] := hl
  have hb1 := h.1
  have hgl := hI.1
  refine lv_iconst (v := iI (0)) hx hb dGH_numberOf_0 rfl ?_
  refine lv_istore_n (lv' := [(2, .int (iI 0)), (0, .ref gh), (1, .ref r)]) hx hb dGH_numberOf_1 rfl hl (by decide) rfl (fun ls hl => ?_)
  have lp2 : ∀ (n9 : Nat) (i : Nat), (i ≤ gs.length) → (∀ j, j < i → (gs.map gK)[j]? ≠ some ks) → (gs.length - i) < n9 → ∀ (H : Heap) (locs : List Loc), va_P D vwCl ([(gh, .inr (6, [.ref ha, .int (iI (gs.length : Int)), .ref ch, .int (iI cc9), .ref b, .ref cl, .ref ga])), (ha, .inl (cG, 40, .inr (.inr (.inr (.inr hf))))), (r, .inr (5, [.ref a, .int (iI (ks.length : Int))])), (a, .inl (cI, 192, .inl (zf f))), (b, .inr (1, [.ref lf, .ref rt])), (lf, .inl (cI, 9, .inl (zf gl))), (rt, .inl (cI, 9, .inl (zf gr)))] ++ poolW cI gs) H → va_D A ([(gh, .inr (6, [.ref ha, .int (iI (gs.length : Int)), .ref ch, .int (iI cc9), .ref b, .ref cl, .ref ga])), (ha, .inl (cG, 40, .inr (.inr (.inr (.inr hf))))), (r, .inr (5, [.ref a, .int (iI (ks.length : Int))])), (a, .inl (cI, 192, .inl (zf f))), (b, .inr (1, [.ref lf, .ref rt])), (lf, .inl (cI, 9, .inl (zf gl))), (rt, .inl (cI, 9, .inl (zf gr)))] ++ poolW cI gs) → va_S A s.heap H locs → ∀ (ls : Array Slot), lv_has ls 4 [(0, .ref gh), (1, .ref r), (2, .int (iI (i : Int)))] → W p l e (headSpec wGH_numberOf rmGH_numberOf).room s m args below meth c H locs 0 0 Q (F0 m 2 ls []) := by
    intro n9
    induction n9 with
    | zero => intro i hi hno hm; exact absurd hm (Nat.not_lt_zero _)
    | succ n9 ih2 =>
      intro i hi hno hm2 H locs hP hD hS ls hl
      refine lv_iload_n hx hb dGH_numberOf_2 rfl (lv_at hl 2 rfl) ?_
      refine lv_aload_n hx hb dGH_numberOf_3 rfl (lv_at hl 0 rfl) ?_
      refine va_get (D := D) (ci := 6) (v := .int (iI (gs.length : Int))) (C := nGH) (T := fGH) (N := 7) hx hb hts iwGH hown hK hP 0 rfl rfl 1 (by decide) (hts _ (List.mem_cons_of_mem _ lkGH_15)) (fun _ h9 => h9) rfl dGH_numberOf_4 ?_
      refine lz_icmp_ge (tgt := 39) hx hb dGH_numberOf_7 (by decide) (by omega) (by omega) (fun c_7 => ?_) (fun c_7 => ?_)
      · have hall : ∀ j : Nat, (gs.map gK)[j]? ≠ some ks := fun j => by
          rcases Nat.lt_or_ge j i with q | q
          · exact hno j q
          · rw [List.getElem?_eq_none (by rw [List.length_map]; omega)]; intro e; cases e
        refine lv_aload_n hx hb dGH_numberOf_39 rfl (lv_at hl 0 rfl) ?_
        refine va_get (D := D) (ci := 6) (v := .int (iI (gs.length : Int))) (C := nGH) (T := fGH) (N := 7) hx hb hts iwGH hown hK hP 0 rfl rfl 1 (by decide) (hts _ (List.mem_cons_of_mem _ lkGH_15)) (fun _ h9 => h9) rfl dGH_numberOf_40 ?_
        refine lv_bipush (v := iI (40)) hx hb dGH_numberOf_43 (by decide) ?_
        refine lz_icmp_lt (tgt := 50) hx hb dGH_numberOf_45 (by decide) (by omega) (by omega) (fun c_45 => ?_) (fun c_45 => ?_)
        · refine lv_aload_n hx hb dGH_numberOf_50 rfl (lv_at hl 0 rfl) ?_
          refine va_get (D := D) (ci := 6) (v := .ref ha) (C := nGH) (T := fGH) (N := 7) hx hb hts iwGH hown hK hP 0 rfl rfl 0 (by decide) (hts _ (List.mem_cons_of_mem _ lkGH_11)) (fun _ h9 => h9) rfl dGH_numberOf_51 ?_
          refine lv_aload_n hx hb dGH_numberOf_54 rfl (lv_at hl 0 rfl) ?_
          refine va_get (D := D) (ci := 6) (v := .int (iI (gs.length : Int))) (C := nGH) (T := fGH) (N := 7) hx hb hts iwGH hown hK hP 0 rfl rfl 1 (by decide) (hts _ (List.mem_cons_of_mem _ lkGH_15)) (fun _ h9 => h9) rfl dGH_numberOf_55 ?_
          refine va_new (ci := 3) (fs := [.null, .int (iI 0), .int (iI 0), .int (iI 0), .int (iI 0), .null, .null]) (C := nGR) (T := fGR) (N := 7) hx hb hts iwGR tGR tkGR hown (hts _ (List.mem_cons_of_mem _ lkGH_9)) (hts _ (List.mem_cons_of_mem _ insGR)) (hts _ (List.mem_cons_of_mem _ iniGR)) hK hP hD hS hA rfl (fun j hj => by rcases (show j = 0 ∨ j = 1 ∨ j = 2 ∨ j = 3 ∨ j = 4 ∨ j = 5 ∨ j = 6 by omega) with rfl | rfl | rfl | rfl | rfl | rfl | rfl <;> rfl) (Nat.le_of_ble_eq_true rfl) (Nat.le_of_ble_eq_true rfl) dGH_numberOf_58 (fun gn H hP hD hS => ?_)
          have hP := zP_perm (zperm_snoc (X := [(gh, .inr (6, [.ref ha, .int (iI (gs.length : Int)), .ref ch, .int (iI cc9), .ref b, .ref cl, .ref ga])), (ha, .inl (cG, 40, .inr (.inr (.inr (.inr hf))))), (r, .inr (5, [.ref a, .int (iI (ks.length : Int))])), (a, .inl (cI, 192, .inl (zf f))), (b, .inr (1, [.ref lf, .ref rt])), (lf, .inl (cI, 9, .inl (zf gl))), (rt, .inl (cI, 9, .inl (zf gr)))])) hP
          have hD := zD_perm (zperm_snoc (X := [(gh, .inr (6, [.ref ha, .int (iI (gs.length : Int)), .ref ch, .int (iI cc9), .ref b, .ref cl, .ref ga])), (ha, .inl (cG, 40, .inr (.inr (.inr (.inr hf))))), (r, .inr (5, [.ref a, .int (iI (ks.length : Int))])), (a, .inl (cI, 192, .inl (zf f))), (b, .inr (1, [.ref lf, .ref rt])), (lf, .inl (cI, 9, .inl (zf gl))), (rt, .inl (cI, 9, .inl (zf gr)))])) hD
          have hP : va_P D vwCl ([(gh, .inr (6, [.ref ha, .int (iI (gs.length : Int)), .ref ch, .int (iI cc9), .ref b, .ref cl, .ref ga])), (ha, .inl (cG, 40, .inr (.inr (.inr (.inr hf))))), (r, .inr (5, [.ref a, .int (iI (ks.length : Int))])), (a, .inl (cI, 192, .inl (zf f))), (b, .inr (1, [.ref lf, .ref rt])), (lf, .inl (cI, 9, .inl (zf gl))), (rt, .inl (cI, 9, .inl (zf gr))), (gn, .inr (3, [.null, .int (iI 0), .int (iI 0), .int (iI 0), .int (iI 0), .null, .null]))] ++ poolW cI gs) H := hP
          have hD : va_D A ([(gh, .inr (6, [.ref ha, .int (iI (gs.length : Int)), .ref ch, .int (iI cc9), .ref b, .ref cl, .ref ga])), (ha, .inl (cG, 40, .inr (.inr (.inr (.inr hf))))), (r, .inr (5, [.ref a, .int (iI (ks.length : Int))])), (a, .inl (cI, 192, .inl (zf f))), (b, .inr (1, [.ref lf, .ref rt])), (lf, .inl (cI, 9, .inl (zf gl))), (rt, .inl (cI, 9, .inl (zf gr))), (gn, .inr (3, [.null, .int (iI 0), .int (iI 0), .int (iI 0), .int (iI 0), .null, .null]))] ++ poolW cI gs) := hD
          refine lv_dup hx hb dGH_numberOf_61 rfl ?_
          refine lv_aload_n hx hb dGH_numberOf_62 rfl (lv_at hl 1 rfl) ?_
          refine lv_aload_n hx hb dGH_numberOf_63 rfl (lv_at hl 0 rfl) ?_
          refine va_get (D := D) (ci := 6) (v := .ref b) (C := nGH) (T := fGH) (N := 7) hx hb hts iwGH hown hK hP 0 rfl rfl 4 (by decide) (hts _ (List.mem_cons_of_mem _ lkGH_29)) (fun _ h9 => h9) rfl dGH_numberOf_64 ?_
          refine zV.backT (va_runI (As := [.ref r, .ref b]) (rest := [.ref gn, .int (iI (gs.length : Int)), .ref ha]) ⟨hx, hb, hml, hown, hts⟩ ((mGR_init l D cI cG gn r a 192 f ks b lf rt gl gr h hk.2.2.1 hk.2.2.2) H.size) (cwI 2 hts (gTW kcGR_init) rfl rfl rfl (hts _ (List.mem_cons_of_mem _ iniGR)) (hts _ (List.mem_cons_of_mem _ lkGH_162)) (hts _ (List.mem_cons_of_mem _ imGR_init)) rfl (by decide +kernel) ⟨Nat.le_of_ble_eq_true rfl, Nat.le_of_ble_eq_true rfl⟩) ⟨zPre_blind, zPre.at (wc := [(gn, .inr (3, [.null, .int (iI 0), .int (iI 0), .int (iI 0), .int (iI 0), .null, .null])), (r, .inr (5, [.ref a, .int (iI (ks.length : Int))])), (a, .inl (cI, 192, .inl (zf f))), (b, .inr (1, [.ref lf, .ref rt])), (lf, .inl (cI, 9, .inl (zf gl))), (rt, .inl (cI, 9, .inl (zf gr)))]) hK hP hD hS hA hX [7, 2, 3, 4, 5, 6] (by decide) rfl⟩ rfl rfl hl.1 rfl (lv_room (Nat.le_of_ble_eq_true rfl)) dGH_numberOf_67 ⟨Nat.le_of_ble_eq_true rfl, Nat.le_of_ble_eq_true rfl⟩) (X := [(gh, .inr (6, [.ref ha, .int (iI (gs.length : Int)), .ref ch, .int (iI cc9), .ref b, .ref cl, .ref ga])), (ha, .inl (cG, 40, .inr (.inr (.inr (.inr hf))))), (r, .inr (5, [.ref a, .int (iI (ks.length : Int))])), (a, .inl (cI, 192, .inl (zf f))), (b, .inr (1, [.ref lf, .ref rt])), (lf, .inl (cI, 9, .inl (zf gl))), (rt, .inl (cI, 9, .inl (zf gr))), (gn, .inr (3, [.null, .int (iI 0), .int (iI 0), .int (iI 0), .int (iI 0), .null, .null]))]) (pl := poolW cI gs) (wr := [(gh, .inr (6, [.ref ha, .int (iI (gs.length : Int)), .ref ch, .int (iI cc9), .ref b, .ref cl, .ref ga])), (ha, .inl (cG, 40, .inr (.inr (.inr (.inr hf)))))]) hP hD hS hA [7, 2, 3, 4, 5, 6] [0, 1] rfl rfl rfl (by decide) (by decide) (fun u_67 H locs q_67 hP hD hS hz_67 hk_67 => ?_)
          obtain ⟨kn, kan, fkn, ltn, pcn, gln⟩ := u_67
          obtain ⟨w1, w2, w3⟩ := q_67
          have hP : va_P D vwCl ([(gh, .inr (6, [.ref ha, .int (iI (gs.length : Int)), .ref ch, .int (iI cc9), .ref b, .ref cl, .ref ga])), (ha, .inl (cG, 40, .inr (.inr (.inr (.inr hf))))), (gn, .inr (3, [.ref kn, .int (iI (matT ks ks.length)), .int (iI (cenT ks ks.length)), .int (iI ltn), .int (iI pcn), .null, .null])), (r, .inr (5, [.ref a, .int (iI (ks.length : Int))])), (a, .inl (cI, 192, .inl (zf f))), (b, .inr (1, [.ref lf, .ref rt])), (lf, .inl (cI, 9, .inl (zf gln))), (rt, .inl (cI, 9, .inl (zf gr))), (kn, .inr (5, [.ref kan, .int (iI (ks.length : Int))])), (kan, .inl (cI, ks.length, .inl (zf fkn)))] ++ poolW cI gs) H := hP
          have hD : va_D A ([(gh, .inr (6, [.ref ha, .int (iI (gs.length : Int)), .ref ch, .int (iI cc9), .ref b, .ref cl, .ref ga])), (ha, .inl (cG, 40, .inr (.inr (.inr (.inr hf))))), (gn, .inr (3, [.ref kn, .int (iI (matT ks ks.length)), .int (iI (cenT ks ks.length)), .int (iI ltn), .int (iI pcn), .null, .null])), (r, .inr (5, [.ref a, .int (iI (ks.length : Int))])), (a, .inl (cI, 192, .inl (zf f))), (b, .inr (1, [.ref lf, .ref rt])), (lf, .inl (cI, 9, .inl (zf gln))), (rt, .inl (cI, 9, .inl (zf gr))), (kn, .inr (5, [.ref kan, .int (iI (ks.length : Int))])), (kan, .inl (cI, ks.length, .inl (zf fkn)))] ++ poolW cI gs) := hD
          refine lz_aast hx hb hK hP hD hS 1 1 2 3 rfl rfl rfl rfl (z := (gs.length : Int)) (by omega) dGH_numberOf_70 (fun H locs hP hD hS => ?_)
          have hP : va_P D vwCl ([(gh, .inr (6, [.ref ha, .int (iI (gs.length : Int)), .ref ch, .int (iI cc9), .ref b, .ref cl, .ref ga])), (ha, .inl (cG, 40, .inr (.inr (.inr (.inr (va_up hf ((gs.length : Int)).toNat (some gn))))))), (gn, .inr (3, [.ref kn, .int (iI (matT ks ks.length)), .int (iI (cenT ks ks.length)), .int (iI ltn), .int (iI pcn), .null, .null])), (r, .inr (5, [.ref a, .int (iI (ks.length : Int))])), (a, .inl (cI, 192, .inl (zf f))), (b, .inr (1, [.ref lf, .ref rt])), (lf, .inl (cI, 9, .inl (zf gln))), (rt, .inl (cI, 9, .inl (zf gr))), (kn, .inr (5, [.ref kan, .int (iI (ks.length : Int))])), (kan, .inl (cI, ks.length, .inl (zf fkn)))] ++ poolW cI gs) H := hP
          have hD : va_D A ([(gh, .inr (6, [.ref ha, .int (iI (gs.length : Int)), .ref ch, .int (iI cc9), .ref b, .ref cl, .ref ga])), (ha, .inl (cG, 40, .inr (.inr (.inr (.inr (va_up hf ((gs.length : Int)).toNat (some gn))))))), (gn, .inr (3, [.ref kn, .int (iI (matT ks ks.length)), .int (iI (cenT ks ks.length)), .int (iI ltn), .int (iI pcn), .null, .null])), (r, .inr (5, [.ref a, .int (iI (ks.length : Int))])), (a, .inl (cI, 192, .inl (zf f))), (b, .inr (1, [.ref lf, .ref rt])), (lf, .inl (cI, 9, .inl (zf gln))), (rt, .inl (cI, 9, .inl (zf gr))), (kn, .inr (5, [.ref kan, .int (iI (ks.length : Int))])), (kan, .inl (cI, ks.length, .inl (zf fkn)))] ++ poolW cI gs) := hD
          refine lv_aload_n hx hb dGH_numberOf_71 rfl (lv_at hl 0 rfl) ?_
          refine lv_dup hx hb dGH_numberOf_72 rfl ?_
          refine va_get (D := D) (ci := 6) (v := .int (iI (gs.length : Int))) (C := nGH) (T := fGH) (N := 7) hx hb hts iwGH hown hK hP 0 rfl rfl 1 (by decide) (hts _ (List.mem_cons_of_mem _ lkGH_15)) (fun _ h9 => h9) rfl dGH_numberOf_73 ?_
          refine lv_iconst (v := iI (1)) hx hb dGH_numberOf_76 rfl ?_
          refine lz_iadd hx hb dGH_numberOf_77 ?_
          refine va_put (D := D) (ci := 6) (v := .int (iI ((gs.length : Int) + 1))) (ty := .int) (C := nGH) (T := fGH) (N := 7) hx hb hts iwGH tGH tkGH nmGH hown hK hP hD hS 0 rfl rfl 1 (by decide) (hts _ (List.mem_cons_of_mem _ lkGH_15)) (fun _ h9 => h9) rfl (by decide +kernel) rfl rfl (Nat.le_of_ble_eq_true rfl) dGH_numberOf_78 (fun H locs hP hD hS => ?_)
          have hP : va_P D vwCl ([(gh, .inr (6, [.ref ha, .int (iI ((gs.length : Int) + 1)), .ref ch, .int (iI cc9), .ref b, .ref cl, .ref ga])), (ha, .inl (cG, 40, .inr (.inr (.inr (.inr (va_up hf ((gs.length : Int)).toNat (some gn))))))), (gn, .inr (3, [.ref kn, .int (iI (matT ks ks.length)), .int (iI (cenT ks ks.length)), .int (iI ltn), .int (iI pcn), .null, .null])), (r, .inr (5, [.ref a, .int (iI (ks.length : Int))])), (a, .inl (cI, 192, .inl (zf f))), (b, .inr (1, [.ref lf, .ref rt])), (lf, .inl (cI, 9, .inl (zf gln))), (rt, .inl (cI, 9, .inl (zf gr))), (kn, .inr (5, [.ref kan, .int (iI (ks.length : Int))])), (kan, .inl (cI, ks.length, .inl (zf fkn)))] ++ poolW cI gs) H := hP
          have hD : va_D A ([(gh, .inr (6, [.ref ha, .int (iI ((gs.length : Int) + 1)), .ref ch, .int (iI cc9), .ref b, .ref cl, .ref ga])), (ha, .inl (cG, 40, .inr (.inr (.inr (.inr (va_up hf ((gs.length : Int)).toNat (some gn))))))), (gn, .inr (3, [.ref kn, .int (iI (matT ks ks.length)), .int (iI (cenT ks ks.length)), .int (iI ltn), .int (iI pcn), .null, .null])), (r, .inr (5, [.ref a, .int (iI (ks.length : Int))])), (a, .inl (cI, 192, .inl (zf f))), (b, .inr (1, [.ref lf, .ref rt])), (lf, .inl (cI, 9, .inl (zf gln))), (rt, .inl (cI, 9, .inl (zf gr))), (kn, .inr (5, [.ref kan, .int (iI (ks.length : Int))])), (kan, .inl (cI, ks.length, .inl (zf fkn)))] ++ poolW cI gs) := hD
          refine lv_aload_n hx hb dGH_numberOf_81 rfl (lv_at hl 0 rfl) ?_
          refine va_get (D := D) (ci := 6) (v := .int (iI ((gs.length : Int) + 1))) (C := nGH) (T := fGH) (N := 7) hx hb hts iwGH hown hK hP 0 rfl rfl 1 (by decide) (hts _ (List.mem_cons_of_mem _ lkGH_15)) (fun _ h9 => h9) rfl dGH_numberOf_82 ?_
          refine lv_iconst (v := iI (1)) hx hb dGH_numberOf_85 rfl ?_
          refine lz_isub hx hb dGH_numberOf_86 ?_
          have hnq : gOK (gn, kn, kan, ks, fkn, ltn, pcn, none, none) := ⟨hk, w1, w2, w3, trivial, trivial⟩
          have hI2 := hI.push (q := (gn, kn, kan, ks, fkn, ltn, pcn, none, none)) (by omega) hnq
          have hll : ((gs ++ [((gn, kn, kan, ks, fkn, ltn, pcn, none, none) : GRec)]).length : Int) = (gs.length : Int) + 1 := by rw [List.length_append]; rfl
          have hP9 := zP_subT (X' := [(gh, .inr (6, [.ref ha, .int (iI ((gs.length : Int) + 1)), .ref ch, .int (iI cc9), .ref b, .ref cl, .ref ga])), (ha, .inl (cG, 40, .inr (.inr (.inr (.inr (va_up hf ((gs.length : Int)).toNat (some gn))))))), (r, .inr (5, [.ref a, .int (iI (ks.length : Int))])), (a, .inl (cI, 192, .inl (zf f))), (b, .inr (1, [.ref lf, .ref rt])), (lf, .inl (cI, 9, .inl (zf gln))), (rt, .inl (cI, 9, .inl (zf gr))), (gn, .inr (3, [.ref kn, .int (iI (matT ks ks.length)), .int (iI (cenT ks ks.length)), .int (iI ltn), .int (iI pcn), .null, .null])), (kn, .inr (5, [.ref kan, .int (iI (ks.length : Int))])), (kan, .inl (cI, ks.length, .inl (zf fkn)))]) hP [0, 1, 3, 4, 5, 6, 7, 2, 8, 9] rfl
          have hD9 := zD_subT (X' := [(gh, .inr (6, [.ref ha, .int (iI ((gs.length : Int) + 1)), .ref ch, .int (iI cc9), .ref b, .ref cl, .ref ga])), (ha, .inl (cG, 40, .inr (.inr (.inr (.inr (va_up hf ((gs.length : Int)).toNat (some gn))))))), (r, .inr (5, [.ref a, .int (iI (ks.length : Int))])), (a, .inl (cI, 192, .inl (zf f))), (b, .inr (1, [.ref lf, .ref rt])), (lf, .inl (cI, 9, .inl (zf gln))), (rt, .inl (cI, 9, .inl (zf gr))), (gn, .inr (3, [.ref kn, .int (iI (matT ks ks.length)), .int (iI (cenT ks ks.length)), .int (iI ltn), .int (iI pcn), .null, .null])), (kn, .inr (5, [.ref kan, .int (iI (ks.length : Int))])), (kan, .inl (cI, ks.length, .inl (zf fkn)))]) hD [0, 1, 3, 4, 5, 6, 7, 2, 8, 9] (by decide) rfl
          skip
          refine W.eq rfl ?_
          rw [show ((gs.length : Int) + 1) - 1 = (gs.length : Int) by omega]
          exact hret H locs (0 + 1 + 2) (0 + 7 + 194) 87 ls (gs.length : Int) (gs ++ [(gn, kn, kan, ks, fkn, ltn, pcn, none, none)], va_up hf gs.length (some gn), gln) ⟨Or.inr (Or.inr ⟨hall, by rw [List.length_map]; omega, by rw [List.length_map], by rw [List.map_append]; rfl⟩), hI2⟩ (by rw [pool_push, hll]; exact zP_perm zperm_end hP9) (by rw [pool_push, hll]; exact zD_perm zperm_end hD9) hS (by decide) (by decide) dGH_numberOf_87
        · refine lv_iconst (v := iI (-1)) hx hb dGH_numberOf_48 rfl ?_
          exact hret H locs 0 0 49 ls (-1) (gs, hf, gl) ⟨Or.inr (Or.inl ⟨hall, by rw [List.length_map]; omega, rfl, rfl⟩), hI⟩ (zP_subT hP [0, 1, 2, 3, 4, 5, 6] rfl) (zD_subT hD [0, 1, 2, 3, 4, 5, 6] (by decide) rfl) hS (Nat.zero_le _) (Nat.zero_le _) dGH_numberOf_49
      · refine lv_aload_n hx hb dGH_numberOf_10 rfl (lv_at hl 0 rfl) ?_
        refine lv_iload_n hx hb dGH_numberOf_11 rfl (lv_at hl 2 rfl) ?_
        refine zRQ.back ((va_runV (As := [.int (iI (i : Int))]) (rest := []) ⟨hx, hb, hml, hown, hts⟩ (mGH_hallAt l D cI cG gh ha ch ga b cl (gs.length : Int) cc9 hf (i : Int) (by omega) (by omega)) (cwV 1 hts (gT1 lkGH_76 (gT1 imGH_hallAt (gT1 seGH_hallAt (gT1 iniGH (gTW kcGH_hallAt))))) rfl rfl rfl (by decide +kernel) ⟨Nat.le_of_ble_eq_true rfl, Nat.le_of_ble_eq_true rfl⟩) ⟨zRd_blind, va_recv hK hP (ci := 6) (q0 := 0) rfl rfl, zRd.at (wc := [(gh, .inr (6, [.ref ha, .int (iI (gs.length : Int)), .ref ch, .int (iI cc9), .ref b, .ref cl, .ref ga])), (ha, .inl (cG, 40, .inr (.inr (.inr (.inr hf)))))]) hK (hP.sub (ws' := [(gh, .inr (6, [.ref ha, .int (iI (gs.length : Int)), .ref ch, .int (iI cc9), .ref b, .ref cl, .ref ga])), (ha, .inl (cG, 40, .inr (.inr (.inr (.inr hf)))))]) [0, 1] rfl) (stF.now hX hS)⟩ rfl rfl hl.1 rfl (lv_room (Nat.le_of_ble_eq_true rfl)) dGH_numberOf_12 ⟨Nat.le_of_ble_eq_true rfl, Nat.le_of_ble_eq_true rfl⟩).run) (fun r_12 q_12 => ?_)
        obtain ⟨⟨g, k, ka, ks1, fk, lt, pcl, al, hv⟩, hqi⟩ := gs_at (gs := gs) (i := i) (by omega)
        have hqo := hI.2.2 _ (List.mem_of_getElem? hqi)
        obtain ⟨hq1, hq2, hq3, hq4, hq5, hq6⟩ := id hqo
        have hrg : r_12 = some g := by
          rcases q_12 with ⟨_, _, e⟩ | ⟨q, _⟩
          · rw [e]; exact hI.2.1 i _ hqi
          · exact absurd ⟨by omega, by omega⟩ q
        subst hrg
        have hPg : va_P D vwCl [(g, .inr (3, [.ref k, .int (iI (matT ks1 ks1.length)), .int (iI (cenT ks1 ks1.length)), .int (iI lt), .int (iI pcl), va_rf (al.map (fun a => a.1)), va_rf (hv.map (fun a => a.1))])), (k, .inr (5, [.ref ka, .int (iI (ks1.length : Int))])), (ka, .inl (cI, ks1.length, .inl (zf fk)))] H := zP_mem hP (fun c hc => List.mem_append_right _ (mem_pool (List.mem_of_getElem? hqi) c (List.mem_append_left _ hc)))
        refine lv_astore_n (lv' := [(3, .ref g), (0, .ref gh), (1, .ref r), (2, .int (iI (i : Int)))]) hx hb dGH_numberOf_15 rfl hl (by decide) rfl (fun ls hl => ?_)
        refine lv_aload_n hx hb dGH_numberOf_16 rfl (lv_at hl 0 rfl) ?_
        refine lv_ifnull hx hb dGH_numberOf_17 ?_
        refine lv_aload_n hx hb dGH_numberOf_20 rfl (lv_at hl 0 rfl) ?_
        refine zRQ.back ((va_runV (As := []) (rest := []) ⟨hx, hb, hml, hown, hts⟩ (mGR_keys l D cI cG g k ka (matT ks1 ks1.length) (cenT ks1 ks1.length) lt pcl (al.map (fun a => a.1)) (hv.map (fun a => a.1))) (cwV 0 hts (gT1 lkGH_80 (gT1 imGR_keys (gT1 seGR_keys (gT1 iniGR (gTW kcGR_keys))))) rfl rfl rfl (by decide +kernel) ⟨Nat.le_of_ble_eq_true rfl, Nat.le_of_ble_eq_true rfl⟩) ⟨zRd_blind, va_recv hK hPg (ci := 3) (q0 := 0) rfl rfl, zRd.at (wc := [(g, .inr (3, [.ref k, .int (iI (matT ks1 ks1.length)), .int (iI (cenT ks1 ks1.length)), .int (iI lt), .int (iI pcl), va_rf (al.map (fun a => a.1)), va_rf (hv.map (fun a => a.1))]))]) hK (hPg.sub (ws' := [(g, .inr (3, [.ref k, .int (iI (matT ks1 ks1.length)), .int (iI (cenT ks1 ks1.length)), .int (iI lt), .int (iI pcl), va_rf (al.map (fun a => a.1)), va_rf (hv.map (fun a => a.1))]))]) [0] rfl) (stF.now hX hS)⟩ rfl rfl hl.1 rfl (lv_room (Nat.le_of_ble_eq_true rfl)) dGH_numberOf_21 ⟨Nat.le_of_ble_eq_true rfl, Nat.le_of_ble_eq_true rfl⟩).run) (fun r_21 q_21 => ?_)
        obtain rfl : r_21 = some k := q_21
        refine lv_aload_n hx hb dGH_numberOf_24 rfl (lv_at hl 2 rfl) ?_
        have hPl : va_P D vwCl [(k, .inr (5, [.ref ka, .int (iI (ks1.length : Int))])), (ka, .inl (cI, ks1.length, .inl (zf fk))), (r, .inr (5, [.ref a, .int (iI (ks.length : Int))])), (a, .inl (cI, 192, .inl (zf f)))] H := (hPg.sub [1, 2] rfl).app (hP.sub [2, 3] rfl)
        refine zRI.back ((va_runV (As := [.ref r]) (rest := []) ⟨hx, hb, hml, hown, hts⟩ (mRO_isLike l D cI cG k ka ks1.length fk ks1 r a 192 f ks hq2 h) (cwV 1 hts (gT1 lkGH_158 (gT1 imRO_isLike (gT1 seRO_isLike (gT1 iniRO (gTW kcRO_isLike))))) rfl rfl rfl (by decide +kernel) ⟨Nat.le_of_ble_eq_true rfl, Nat.le_of_ble_eq_true rfl⟩) ⟨zRd_blind, va_recv hK hPl (ci := 5) (q0 := 0) rfl rfl, zRd.at (wc := [(k, .inr (5, [.ref ka, .int (iI (ks1.length : Int))])), (ka, .inl (cI, ks1.length, .inl (zf fk))), (r, .inr (5, [.ref a, .int (iI (ks.length : Int))])), (a, .inl (cI, 192, .inl (zf f)))]) hK (hPl.sub (ws' := [(k, .inr (5, [.ref ka, .int (iI (ks1.length : Int))])), (ka, .inl (cI, ks1.length, .inl (zf fk))), (r, .inr (5, [.ref a, .int (iI (ks.length : Int))])), (a, .inl (cI, 192, .inl (zf f)))]) [0, 1, 2, 3] rfl) (stF.now hX hS)⟩ rfl rfl hl.1 rfl (lv_room (Nat.le_of_ble_eq_true rfl)) dGH_numberOf_25 ⟨Nat.le_of_ble_eq_true rfl, Nat.le_of_ble_eq_true rfl⟩).run) (fun z_25 q_25 => ?_)
        have q_25 : (z_25 = 1 ∧ ks1 = ks) ∨ (z_25 = 0 ∧ ks1 ≠ ks) := q_25
        refine lz_if_eq (tgt := 33) hx hb dGH_numberOf_28 (by decide) (by rcases q_25 with ⟨q, _⟩ | ⟨q, _⟩ <;> omega) (fun c_28 => ?_) (fun c_28 => ?_)
        · refine lz_iinc (lv' := [(2, .int (iI ((i : Int) + 1))), (3, .ref g), (0, .ref gh), (1, .ref r)]) hx hb dGH_numberOf_33 hl (k := 3) rfl (by decide) rfl (fun ls hl => ?_)
          refine lv_goto (tgt := 2) hx hb dGH_numberOf_36 (by decide) ?_
          exact ih2 (i + 1) (by omega) (fun j hj => by
              rcases Nat.lt_or_ge j i with q | q
              · exact hno j q
              · obtain rfl : j = i := by omega
                rw [List.getElem?_map, hqi]
                intro e
                rcases q_25 with ⟨q9, _⟩ | ⟨_, q9⟩
                · omega
                · exact q9 (Option.some.inj e)) (by omega) _ _ (zP_subT hP [0, 1, 2, 3, 4, 5, 6] rfl) (zD_subT hD [0, 1, 2, 3, 4, 5, 6] (by decide) rfl) hS _ (lv_sub hl [2, 3, 0] rfl)
        · have heq : ks1 = ks := by rcases q_25 with ⟨_, q⟩ | ⟨q, _⟩ <;> first | exact q | omega
          refine lv_iload_n hx hb dGH_numberOf_31 rfl (lv_at hl 3 rfl) ?_
          exact hret H locs 0 0 32 ls (i : Int) (gs, hf, gl) ⟨Or.inl ⟨i, by rw [List.length_map]; omega, by rw [List.getElem?_map, hqi]; exact congrArg some heq, hno, rfl, rfl⟩, hI⟩ (zP_subT hP [0, 1, 2, 3, 4, 5, 6] rfl) (zD_subT hD [0, 1, 2, 3, 4, 5, 6] (by decide) rfl) hS (Nat.zero_le _) (Nat.zero_le _) dGH_numberOf_32
  exact lp2 _ 0 (Nat.zero_le _) (fun j hj => absurd hj (Nat.not_lt_zero _)) (Nat.lt_succ_self _) _ _ (zP_subT hP [0, 1, 2, 3, 4, 5, 6] rfl) (zD_subT hD [0, 1, 2, 3, 4, 5, 6] (by decide) rfl) hS _ (lv_sub hl [1, 2, 0] rfl)
end
