section
-- ===== PART A: goes FIRST, ahead of the names: the tables' words, and 'selects' of the private methods out of them =====
/-- a private method of a class that the tables say can be made, by its rows of tables_1 -/
def lw_okq (q : MethodName × Nat) : Prop := (q.1.cls ≠ "java/lang/invoke/MethodHandle" ∧ q.1.cls ≠ "java/lang/invoke/VarHandle") ∧ Cond.instantiable q.1.cls q.2 ∈ tables_1 ∧ Cond.privateMethod q.1 ∈ tables_1 ∧ Cond.instanceMethod q.1 ∈ tables_1
theorem lw_p0 : lw_okq (⟨"CeilingRows", "perform", "(III)I"⟩, 6) := ⟨⟨by decide +kernel, by decide +kernel⟩, List.mem_of_getElem? (i := 11) (by decide +kernel), List.mem_of_getElem? (i := 219) (by decide +kernel), List.mem_of_getElem? (i := 220) (by decide +kernel)⟩
theorem lw_p1 : lw_okq (⟨"CeilingRows", "startTask", "(I)I"⟩, 6) := ⟨⟨by decide +kernel, by decide +kernel⟩, List.mem_of_getElem? (i := 11) (by decide +kernel), List.mem_of_getElem? (i := 223) (by decide +kernel), List.mem_of_getElem? (i := 224) (by decide +kernel)⟩
theorem lw_p2 : lw_okq (⟨"CeilingRows", "runs", "(I)Z"⟩, 6) := ⟨⟨by decide +kernel, by decide +kernel⟩, List.mem_of_getElem? (i := 11) (by decide +kernel), List.mem_of_getElem? (i := 231) (by decide +kernel), List.mem_of_getElem? (i := 232) (by decide +kernel)⟩
theorem lw_p3 : lw_okq (⟨"CeilingRows", "sendEvent", "(I)I"⟩, 6) := ⟨⟨by decide +kernel, by decide +kernel⟩, List.mem_of_getElem? (i := 11) (by decide +kernel), List.mem_of_getElem? (i := 248) (by decide +kernel), List.mem_of_getElem? (i := 249) (by decide +kernel)⟩
theorem lw_p4 : lw_okq (⟨"CeilingRows", "takeResource", "(II)I"⟩, 6) := ⟨⟨by decide +kernel, by decide +kernel⟩, List.mem_of_getElem? (i := 11) (by decide +kernel), List.mem_of_getElem? (i := 252) (by decide +kernel), List.mem_of_getElem? (i := 253) (by decide +kernel)⟩
theorem lw_p5 : lw_okq (⟨"CeilingRows", "giveBackResource", "(II)I"⟩, 6) := ⟨⟨by decide +kernel, by decide +kernel⟩, List.mem_of_getElem? (i := 11) (by decide +kernel), List.mem_of_getElem? (i := 260) (by decide +kernel), List.mem_of_getElem? (i := 261) (by decide +kernel)⟩
theorem lw_p6 : lw_okq (⟨"CeilingRows", "endTask", "(I)I"⟩, 6) := ⟨⟨by decide +kernel, by decide +kernel⟩, List.mem_of_getElem? (i := 11) (by decide +kernel), List.mem_of_getElem? (i := 268) (by decide +kernel), List.mem_of_getElem? (i := 269) (by decide +kernel)⟩
theorem lw_p7 : lw_okq (⟨"CeilingRows", "waitForEvent", "(I)I"⟩, 6) := ⟨⟨by decide +kernel, by decide +kernel⟩, List.mem_of_getElem? (i := 11) (by decide +kernel), List.mem_of_getElem? (i := 282) (by decide +kernel), List.mem_of_getElem? (i := 283) (by decide +kernel)⟩
theorem lw_p8 : lw_okq (⟨"CeilingRows$Locks", "lastTakenBy", "(I)I"⟩, 4) := ⟨⟨by decide +kernel, by decide +kernel⟩, List.mem_of_getElem? (i := 95) (by decide +kernel), List.mem_of_getElem? (i := 317) (by decide +kernel), List.mem_of_getElem? (i := 318) (by decide +kernel)⟩
theorem lw_p9 : lw_okq (⟨"CeilingRows$Locks", "longestSpinnerFor", "(I)I"⟩, 4) := ⟨⟨by decide +kernel, by decide +kernel⟩, List.mem_of_getElem? (i := 95) (by decide +kernel), List.mem_of_getElem? (i := 325) (by decide +kernel), List.mem_of_getElem? (i := 326) (by decide +kernel)⟩
theorem lw_p10 : lw_okq (⟨"CeilingRows$Trial", "clear", "()V"⟩, 5) := ⟨⟨by decide +kernel, by decide +kernel⟩, List.mem_of_getElem? (i := 114) (by decide +kernel), List.mem_of_getElem? (i := 350) (by decide +kernel), List.mem_of_getElem? (i := 351) (by decide +kernel)⟩
theorem lw_p11 : lw_okq (⟨"CeilingRows$Trial", "startThoseDue", "(JI)V"⟩, 5) := ⟨⟨by decide +kernel, by decide +kernel⟩, List.mem_of_getElem? (i := 114) (by decide +kernel), List.mem_of_getElem? (i := 362) (by decide +kernel), List.mem_of_getElem? (i := 363) (by decide +kernel)⟩
theorem lw_p12 : lw_okq (⟨"CeilingRows$Trial", "haveTick", "(I)V"⟩, 5) := ⟨⟨by decide +kernel, by decide +kernel⟩, List.mem_of_getElem? (i := 114) (by decide +kernel), List.mem_of_getElem? (i := 369) (by decide +kernel), List.mem_of_getElem? (i := 370) (by decide +kernel)⟩
theorem lw_p13 : lw_okq (⟨"CeilingRows$Trial", "resourceAt", "(II)I"⟩, 5) := ⟨⟨by decide +kernel, by decide +kernel⟩, List.mem_of_getElem? (i := 114) (by decide +kernel), List.mem_of_getElem? (i := 373) (by decide +kernel), List.mem_of_getElem? (i := 374) (by decide +kernel)⟩
theorem lw_p14 : lw_okq (⟨"CeilingRows$Trial", "ticksWith", "(II)I"⟩, 5) := ⟨⟨by decide +kernel, by decide +kernel⟩, List.mem_of_getElem? (i := 114) (by decide +kernel), List.mem_of_getElem? (i := 378) (by decide +kernel), List.mem_of_getElem? (i := 379) (by decide +kernel)⟩
theorem lw_p15 : lw_okq (⟨"CeilingRows$Trial", "noteDelays", "(II)V"⟩, 5) := ⟨⟨by decide +kernel, by decide +kernel⟩, List.mem_of_getElem? (i := 114) (by decide +kernel), List.mem_of_getElem? (i := 386) (by decide +kernel), List.mem_of_getElem? (i := 387) (by decide +kernel)⟩
def lw_privs_1 : List (MethodName × Nat) := [(⟨"CeilingRows", "perform", "(III)I"⟩, 6), (⟨"CeilingRows", "startTask", "(I)I"⟩, 6), (⟨"CeilingRows", "runs", "(I)Z"⟩, 6), (⟨"CeilingRows", "sendEvent", "(I)I"⟩, 6), (⟨"CeilingRows", "takeResource", "(II)I"⟩, 6), (⟨"CeilingRows", "giveBackResource", "(II)I"⟩, 6), (⟨"CeilingRows", "endTask", "(I)I"⟩, 6), (⟨"CeilingRows", "waitForEvent", "(I)I"⟩, 6), (⟨"CeilingRows$Locks", "lastTakenBy", "(I)I"⟩, 4), (⟨"CeilingRows$Locks", "longestSpinnerFor", "(I)I"⟩, 4), (⟨"CeilingRows$Trial", "clear", "()V"⟩, 5), (⟨"CeilingRows$Trial", "startThoseDue", "(JI)V"⟩, 5), (⟨"CeilingRows$Trial", "haveTick", "(I)V"⟩, 5), (⟨"CeilingRows$Trial", "resourceAt", "(II)I"⟩, 5), (⟨"CeilingRows$Trial", "ticksWith", "(II)I"⟩, 5), (⟨"CeilingRows$Trial", "noteDelays", "(II)V"⟩, 5)]
theorem lw_r1 : ∀ q ∈ lw_privs_1, lw_okq q := List.forall_mem_cons.mpr ⟨lw_p0, List.forall_mem_cons.mpr ⟨lw_p1, List.forall_mem_cons.mpr ⟨lw_p2, List.forall_mem_cons.mpr ⟨lw_p3, List.forall_mem_cons.mpr ⟨lw_p4, List.forall_mem_cons.mpr ⟨lw_p5, List.forall_mem_cons.mpr ⟨lw_p6, List.forall_mem_cons.mpr ⟨lw_p7, List.forall_mem_cons.mpr ⟨lw_p8, List.forall_mem_cons.mpr ⟨lw_p9, List.forall_mem_cons.mpr ⟨lw_p10, List.forall_mem_cons.mpr ⟨lw_p11, List.forall_mem_cons.mpr ⟨lw_p12, List.forall_mem_cons.mpr ⟨lw_p13, List.forall_mem_cons.mpr ⟨lw_p14, List.forall_mem_cons.mpr ⟨lw_p15, fun _ h => absurd h List.not_mem_nil⟩⟩⟩⟩⟩⟩⟩⟩⟩⟩⟩⟩⟩⟩⟩⟩
theorem lw_p16 : lw_okq (⟨"CeilingRows$Trial", "ticksOf", "(I)I"⟩, 5) := ⟨⟨by decide +kernel, by decide +kernel⟩, List.mem_of_getElem? (i := 114) (by decide +kernel), List.mem_of_getElem? (i := 392) (by decide +kernel), List.mem_of_getElem? (i := 393) (by decide +kernel)⟩
theorem lw_p17 : lw_okq (⟨"CeilingRows$Trial", "countDelays", "(I)I"⟩, 5) := ⟨⟨by decide +kernel, by decide +kernel⟩, List.mem_of_getElem? (i := 114) (by decide +kernel), List.mem_of_getElem? (i := 397) (by decide +kernel), List.mem_of_getElem? (i := 398) (by decide +kernel)⟩
theorem lw_p18 : lw_okq (⟨"CeilingRowsModel", "isTask", "(I)Z"⟩, 22) := ⟨⟨by decide +kernel, by decide +kernel⟩, List.mem_of_getElem? (i := 408) (by decide +kernel), List.mem_of_getElem? (i := 494) (by decide +kernel), List.mem_of_getElem? (i := 495) (by decide +kernel)⟩
theorem lw_p19 : lw_okq (⟨"CeilingRowsModel", "isResource", "(I)Z"⟩, 22) := ⟨⟨by decide +kernel, by decide +kernel⟩, List.mem_of_getElem? (i := 408) (by decide +kernel), List.mem_of_getElem? (i := 498) (by decide +kernel), List.mem_of_getElem? (i := 499) (by decide +kernel)⟩
theorem lw_p20 : lw_okq (⟨"CeilingRowsModel", "ceilingOf", "(I)I"⟩, 22) := ⟨⟨by decide +kernel, by decide +kernel⟩, List.mem_of_getElem? (i := 408) (by decide +kernel), List.mem_of_getElem? (i := 507) (by decide +kernel), List.mem_of_getElem? (i := 508) (by decide +kernel)⟩
theorem lw_p21 : lw_okq (⟨"CeilingRowsModel", "acts", "(III)I"⟩, 22) := ⟨⟨by decide +kernel, by decide +kernel⟩, List.mem_of_getElem? (i := 408) (by decide +kernel), List.mem_of_getElem? (i := 516) (by decide +kernel), List.mem_of_getElem? (i := 517) (by decide +kernel)⟩
theorem lw_p22 : lw_okq (⟨"CeilingRowsModel", "ready", "(I)V"⟩, 22) := ⟨⟨by decide +kernel, by decide +kernel⟩, List.mem_of_getElem? (i := 408) (by decide +kernel), List.mem_of_getElem? (i := 520) (by decide +kernel), List.mem_of_getElem? (i := 521) (by decide +kernel)⟩
theorem lw_p23 : lw_okq (⟨"CeilingRowsModel", "runs", "(I)Z"⟩, 22) := ⟨⟨by decide +kernel, by decide +kernel⟩, List.mem_of_getElem? (i := 408) (by decide +kernel), List.mem_of_getElem? (i := 524) (by decide +kernel), List.mem_of_getElem? (i := 525) (by decide +kernel)⟩
theorem lw_p24 : lw_okq (⟨"CeilingRowsModel", "running", "(I)I"⟩, 22) := ⟨⟨by decide +kernel, by decide +kernel⟩, List.mem_of_getElem? (i := 408) (by decide +kernel), List.mem_of_getElem? (i := 528) (by decide +kernel), List.mem_of_getElem? (i := 529) (by decide +kernel)⟩
theorem lw_p25 : lw_okq (⟨"CeilingRowsModel", "rankNow", "(I)I"⟩, 22) := ⟨⟨by decide +kernel, by decide +kernel⟩, List.mem_of_getElem? (i := 408) (by decide +kernel), List.mem_of_getElem? (i := 532) (by decide +kernel), List.mem_of_getElem? (i := 533) (by decide +kernel)⟩
theorem lw_p26 : lw_okq (⟨"CeilingRowsModel", "last", "(I)I"⟩, 22) := ⟨⟨by decide +kernel, by decide +kernel⟩, List.mem_of_getElem? (i := 408) (by decide +kernel), List.mem_of_getElem? (i := 536) (by decide +kernel), List.mem_of_getElem? (i := 537) (by decide +kernel)⟩
theorem lw_p27 : lw_okq (⟨"CeilingRowsModel", "mayKeep", "(III)Z"⟩, 22) := ⟨⟨by decide +kernel, by decide +kernel⟩, List.mem_of_getElem? (i := 408) (by decide +kernel), List.mem_of_getElem? (i := 553) (by decide +kernel), List.mem_of_getElem? (i := 554) (by decide +kernel)⟩
theorem lw_p28 : lw_okq (⟨"CeilingRowsModel", "have", "(II)V"⟩, 22) := ⟨⟨by decide +kernel, by decide +kernel⟩, List.mem_of_getElem? (i := 408) (by decide +kernel), List.mem_of_getElem? (i := 565) (by decide +kernel), List.mem_of_getElem? (i := 566) (by decide +kernel)⟩
theorem lw_p29 : lw_okq (⟨"CeilingRowsModel", "lastLock", "(I)I"⟩, 22) := ⟨⟨by decide +kernel, by decide +kernel⟩, List.mem_of_getElem? (i := 408) (by decide +kernel), List.mem_of_getElem? (i := 569) (by decide +kernel), List.mem_of_getElem? (i := 570) (by decide +kernel)⟩
theorem lw_p30 : lw_okq (⟨"CeilingRowsModel", "trialRuns", "(I)I"⟩, 22) := ⟨⟨by decide +kernel, by decide +kernel⟩, List.mem_of_getElem? (i := 408) (by decide +kernel), List.mem_of_getElem? (i := 582) (by decide +kernel), List.mem_of_getElem? (i := 583) (by decide +kernel)⟩
theorem lw_p31 : lw_okq (⟨"CeilingRowsModel", "trialRank", "(I)I"⟩, 22) := ⟨⟨by decide +kernel, by decide +kernel⟩, List.mem_of_getElem? (i := 408) (by decide +kernel), List.mem_of_getElem? (i := 586) (by decide +kernel), List.mem_of_getElem? (i := 587) (by decide +kernel)⟩
def lw_privs_2 : List (MethodName × Nat) := [(⟨"CeilingRows$Trial", "ticksOf", "(I)I"⟩, 5), (⟨"CeilingRows$Trial", "countDelays", "(I)I"⟩, 5), (⟨"CeilingRowsModel", "isTask", "(I)Z"⟩, 22), (⟨"CeilingRowsModel", "isResource", "(I)Z"⟩, 22), (⟨"CeilingRowsModel", "ceilingOf", "(I)I"⟩, 22), (⟨"CeilingRowsModel", "acts", "(III)I"⟩, 22), (⟨"CeilingRowsModel", "ready", "(I)V"⟩, 22), (⟨"CeilingRowsModel", "runs", "(I)Z"⟩, 22), (⟨"CeilingRowsModel", "running", "(I)I"⟩, 22), (⟨"CeilingRowsModel", "rankNow", "(I)I"⟩, 22), (⟨"CeilingRowsModel", "last", "(I)I"⟩, 22), (⟨"CeilingRowsModel", "mayKeep", "(III)Z"⟩, 22), (⟨"CeilingRowsModel", "have", "(II)V"⟩, 22), (⟨"CeilingRowsModel", "lastLock", "(I)I"⟩, 22), (⟨"CeilingRowsModel", "trialRuns", "(I)I"⟩, 22), (⟨"CeilingRowsModel", "trialRank", "(I)I"⟩, 22)]
theorem lw_r2 : ∀ q ∈ lw_privs_2, lw_okq q := List.forall_mem_cons.mpr ⟨lw_p16, List.forall_mem_cons.mpr ⟨lw_p17, List.forall_mem_cons.mpr ⟨lw_p18, List.forall_mem_cons.mpr ⟨lw_p19, List.forall_mem_cons.mpr ⟨lw_p20, List.forall_mem_cons.mpr ⟨lw_p21, List.forall_mem_cons.mpr ⟨lw_p22, List.forall_mem_cons.mpr ⟨lw_p23, List.forall_mem_cons.mpr ⟨lw_p24, List.forall_mem_cons.mpr ⟨lw_p25, List.forall_mem_cons.mpr ⟨lw_p26, List.forall_mem_cons.mpr ⟨lw_p27, List.forall_mem_cons.mpr ⟨lw_p28, List.forall_mem_cons.mpr ⟨lw_p29, List.forall_mem_cons.mpr ⟨lw_p30, List.forall_mem_cons.mpr ⟨lw_p31, fun _ h => absurd h List.not_mem_nil⟩⟩⟩⟩⟩⟩⟩⟩⟩⟩⟩⟩⟩⟩⟩⟩
theorem lw_p32 : lw_okq (⟨"CeilingRowsModel", "tickOf", "(II)I"⟩, 22) := ⟨⟨by decide +kernel, by decide +kernel⟩, List.mem_of_getElem? (i := 408) (by decide +kernel), List.mem_of_getElem? (i := 590) (by decide +kernel), List.mem_of_getElem? (i := 591) (by decide +kernel)⟩
def lw_privs_3 : List (MethodName × Nat) := [(⟨"CeilingRowsModel", "tickOf", "(II)I"⟩, 22)]
theorem lw_r3 : ∀ q ∈ lw_privs_3, lw_okq q := List.forall_mem_cons.mpr ⟨lw_p32, fun _ h => absurd h List.not_mem_nil⟩
def lw_privs : List (MethodName × Nat) := lw_privs_1 ++ (lw_privs_2 ++ (lw_privs_3))
def lw_tbl : List Cond := k2_sels lw_privs ++ tables_1
theorem lw_privs_ok : ∀ q ∈ lw_privs, lw_okq q := by
  show ∀ q ∈ lw_privs_1 ++ (lw_privs_2 ++ (lw_privs_3)), lw_okq q
  exact List.forall_mem_append.mpr ⟨lw_r1, List.forall_mem_append.mpr ⟨lw_r2, lw_r3⟩⟩
/-! words by their places among the tables' words; what a call needs of them -/
def ng_tbl : List Cond := lw_tbl.filter goodWord
theorem ng_sub : ∀ w ∈ ng_tbl, w ∈ lw_tbl := fun _ h => (List.mem_filter.mp h).1
theorem ng_t {w : Cond} (i : Nat) (h : tables_1[i]? = some w) (hg : goodWord w = true) : w ∈ ng_tbl := List.mem_filter.mpr ⟨List.mem_append_right _ (List.mem_of_getElem? h), hg⟩
theorem ng_p {w : Cond} (i : Nat) (h : (k2_sels lw_privs)[i]? = some w) (hg : goodWord w = true) : w ∈ ng_tbl := List.mem_filter.mpr ⟨List.mem_append_left _ (List.mem_of_getElem? h), hg⟩
theorem ng_g : ∀ w ∈ ng_tbl, (w.onTables && w.keeps) = true ∨ ∃ ty, w = .arrayClass ty := fun _ h => good_of_word (List.mem_filter.mp h).2
theorem ng_pl {ws : List Cond} (ps : List Nat) (hp : ws = ps.filterMap (fun i => tables_1[i]?)) (hg : ws.all goodWord = true) : ∀ w ∈ ws, w ∈ ng_tbl := by
  intro w hw
  have h2 := List.all_eq_true.mp hg w hw
  rw [hp] at hw
  obtain ⟨i, -, hi⟩ := List.mem_filterMap.mp hw
  exact ng_t i hi h2
theorem ng_C {y : MethodName} {b : ByteArray} {n : Nat} {r : Option FieldType} (h5 : Cond.code y b n r ∈ ng_tbl) : GoodIn ng_tbl (Cond.code y b n r :: ng_tbl) := by
  intro w hw
  rcases List.mem_cons.mp hw with rfl | hw
  · exact ⟨h5, ng_g _ h5⟩
  · exact ⟨hw, ng_g _ hw⟩
theorem ng_V {own C : String} {idx : Nat} {y : MethodName} {b : ByteArray} {n : Nat} {r : Option FieldType} (h1 : Cond.methodLink own idx y ∈ ng_tbl) (h2 : Cond.instanceMethod y ∈ ng_tbl) (h3 : Cond.selects C y y ∈ ng_tbl) (h4 : Cond.initialized C ∈ ng_tbl) (h5 : Cond.code y b n r ∈ ng_tbl) : GoodIn ng_tbl (wsV own idx C y (Cond.code y b n r :: ng_tbl)) := by
  intro w hw
  rcases List.mem_append.mp hw with hw | hw
  · have hm : w ∈ ng_tbl := by
      rcases List.mem_cons.mp hw with rfl | hw
      · exact h1
      rcases List.mem_cons.mp hw with rfl | hw
      · exact h2
      rcases List.mem_cons.mp hw with rfl | hw
      · exact h3
      rcases List.mem_cons.mp hw with rfl | hw
      · exact h4
      exact absurd hw List.not_mem_nil
    exact ⟨hm, ng_g _ hm⟩
  · exact ng_C h5 w hw
theorem ng_S {own : String} {idx : Nat} {y : MethodName} {b : ByteArray} {n : Nat} {r : Option FieldType} (h1 : Cond.methodLink own idx y ∈ ng_tbl) (h2 : Cond.static y ∈ ng_tbl) (h4 : Cond.initialized y.cls ∈ ng_tbl) (h5 : Cond.code y b n r ∈ ng_tbl) : GoodIn ng_tbl (va_wsS own idx y (Cond.code y b n r :: ng_tbl)) := by
  intro w hw
  rcases List.mem_append.mp hw with hw | hw
  · have hm : w ∈ ng_tbl := by
      rcases List.mem_cons.mp hw with rfl | hw
      · exact h1
      rcases List.mem_cons.mp hw with rfl | hw
      · exact h2
      rcases List.mem_cons.mp hw with rfl | hw
      · exact h4
      exact absurd hw List.not_mem_nil
    exact ⟨hm, ng_g _ hm⟩
  · exact ng_C h5 w hw
def nf_Plan : u_T := fun k => match k with
  | 0 => ("CeilingRows$Plan", "taskCount", "I", false)
  | 1 => ("CeilingRows$Plan", "resourceCount", "I", false)
  | 2 => ("CeilingRows$Plan", "rankOf", "[I", true)
  | 3 => ("CeilingRows$Plan", "coreOf", "[I", true)
  | 4 => ("CeilingRows$Plan", "ceilingOf", "[I", true)
  | 5 => ("CeilingRows$Plan", "userCoreOf", "[I", true)
  | _ => ("CeilingRows$Plan", "lengthOf", "[[I", true)
def nt_Plan : Nat → FieldType := fun k => match k with
  | 0 => .int
  | 1 => .int
  | 2 => (.array .int)
  | 3 => (.array .int)
  | 4 => (.array .int)
  | 5 => (.array .int)
  | _ => (.array (.array .int))
theorem nno_Plan : ∀ a, a < 7 → ∀ b, b < 7 → a ≠ b → (nf_Plan a).2.1 ≠ (nf_Plan b).2.1 := by decide +kernel
theorem nto_Plan : ∀ k, k < 7 → parseFieldDescriptor (nf_Plan k).2.2.1 = some (nt_Plan k) := by decide +kernel
set_option maxRecDepth 20000 in
theorem nin_Plan : ∀ w ∈ u_ws "CeilingRows$Plan" nf_Plan 7, w ∈ ng_tbl := ng_pl [45, 47, 49, 51, 53, 55, 57] (by decide +kernel) (by decide +kernel)
def nf_Board : u_T := fun k => match k with
  | 0 => ("CeilingRows$Board", "plan", "LCeilingRows$Plan;", true)
  | 1 => ("CeilingRows$Board", "stateOf", "[I", true)
  | 2 => ("CeilingRows$Board", "readyOrderOf", "[I", true)
  | 3 => ("CeilingRows$Board", "readyOrder", "I", false)
  | 4 => ("CeilingRows$Board", "lastTakenBy", "[I", true)
  | 5 => ("CeilingRows$Board", "holderOf", "[I", true)
  | _ => ("CeilingRows$Board", "takenBefore", "[I", true)
def nt_Board : Nat → FieldType := fun k => match k with
  | 0 => (.object "CeilingRows$Plan")
  | 1 => (.array .int)
  | 2 => (.array .int)
  | 3 => .int
  | 4 => (.array .int)
  | 5 => (.array .int)
  | _ => (.array .int)
theorem nno_Board : ∀ a, a < 7 → ∀ b, b < 7 → a ≠ b → (nf_Board a).2.1 ≠ (nf_Board b).2.1 := by decide +kernel
theorem nto_Board : ∀ k, k < 7 → parseFieldDescriptor (nf_Board k).2.2.1 = some (nt_Board k) := by decide +kernel
set_option maxRecDepth 20000 in
theorem nin_Board : ∀ w ∈ u_ws "CeilingRows$Board" nf_Board 7, w ∈ ng_tbl := ng_pl [79, 81, 83, 85, 87, 89, 91] (by decide +kernel) (by decide +kernel)
def nf_Locks : u_T := fun k => match k with
  | 0 => ("CeilingRows$Locks", "ownerOf", "[I", true)
  | 1 => ("CeilingRows$Locks", "wantedBy", "[I", true)
  | 2 => ("CeilingRows$Locks", "spinOrderOf", "[I", true)
  | _ => ("CeilingRows$Locks", "spinOrder", "I", false)
def nt_Locks : Nat → FieldType := fun k => match k with
  | 0 => (.array .int)
  | 1 => (.array .int)
  | 2 => (.array .int)
  | _ => .int
theorem nno_Locks : ∀ a, a < 4 → ∀ b, b < 4 → a ≠ b → (nf_Locks a).2.1 ≠ (nf_Locks b).2.1 := by decide +kernel
theorem nto_Locks : ∀ k, k < 4 → parseFieldDescriptor (nf_Locks k).2.2.1 = some (nt_Locks k) := by decide +kernel
set_option maxRecDepth 20000 in
theorem nin_Locks : ∀ w ∈ u_ws "CeilingRows$Locks" nf_Locks 4, w ∈ ng_tbl := ng_pl [104, 106, 108, 110] (by decide +kernel) (by decide +kernel)
def nf_Trial : u_T := fun k => match k with
  | 0 => ("CeilingRows$Trial", "plan", "LCeilingRows$Plan;", true)
  | 1 => ("CeilingRows$Trial", "board", "LCeilingRows$Board;", true)
  | 2 => ("CeilingRows$Trial", "ticksHad", "[I", true)
  | 3 => ("CeilingRows$Trial", "delays", "[[I", true)
  | _ => ("CeilingRows$Trial", "endedCount", "I", false)
def nt_Trial : Nat → FieldType := fun k => match k with
  | 0 => (.object "CeilingRows$Plan")
  | 1 => (.object "CeilingRows$Board")
  | 2 => (.array .int)
  | 3 => (.array (.array .int))
  | _ => .int
theorem nno_Trial : ∀ a, a < 5 → ∀ b, b < 5 → a ≠ b → (nf_Trial a).2.1 ≠ (nf_Trial b).2.1 := by decide +kernel
theorem nto_Trial : ∀ k, k < 5 → parseFieldDescriptor (nf_Trial k).2.2.1 = some (nt_Trial k) := by decide +kernel
set_option maxRecDepth 20000 in
theorem nin_Trial : ∀ w ∈ u_ws "CeilingRows$Trial" nf_Trial 5, w ∈ ng_tbl := ng_pl [127, 129, 131, 133, 135] (by decide +kernel) (by decide +kernel)
def nf_Main : u_T := fun k => match k with
  | 0 => ("CeilingRows", "plan", "LCeilingRows$Plan;", true)
  | 1 => ("CeilingRows", "board", "LCeilingRows$Board;", true)
  | 2 => ("CeilingRows", "locks", "LCeilingRows$Locks;", true)
  | 3 => ("CeilingRows", "trial", "LCeilingRows$Trial;", true)
  | 4 => ("CeilingRows", "eventKept", "[Z", true)
  | _ => ("CeilingRows", "latestTime", "J", false)
def nt_Main : Nat → FieldType := fun k => match k with
  | 0 => (.object "CeilingRows$Plan")
  | 1 => (.object "CeilingRows$Board")
  | 2 => (.object "CeilingRows$Locks")
  | 3 => (.object "CeilingRows$Trial")
  | 4 => (.array .boolean)
  | _ => .long
theorem nno_Main : ∀ a, a < 6 → ∀ b, b < 6 → a ≠ b → (nf_Main a).2.1 ≠ (nf_Main b).2.1 := by decide +kernel
theorem nto_Main : ∀ k, k < 6 → parseFieldDescriptor (nf_Main k).2.2.1 = some (nt_Main k) := by decide +kernel
set_option maxRecDepth 20000 in
theorem nin_Main : ∀ w ∈ u_ws "CeilingRows" nf_Main 6, w ∈ ng_tbl := ng_pl [144, 146, 148, 150, 152, 154] (by decide +kernel) (by decide +kernel)
def nf_Ref : u_T := fun k => match k with
  | 0 => ("CeilingRowsModel", "tasks", "I", false)
  | 1 => ("CeilingRowsModel", "rank", "[I", true)
  | 2 => ("CeilingRowsModel", "core", "[I", true)
  | 3 => ("CeilingRowsModel", "state", "[I", true)
  | 4 => ("CeilingRowsModel", "since", "[I", true)
  | 5 => ("CeilingRowsModel", "readies", "I", false)
  | 6 => ("CeilingRowsModel", "kept", "[Z", true)
  | 7 => ("CeilingRowsModel", "resources", "I", false)
  | 8 => ("CeilingRowsModel", "length", "[J", true)
  | 9 => ("CeilingRowsModel", "holder", "[I", true)
  | 10 => ("CeilingRowsModel", "nth", "[I", true)
  | 11 => ("CeilingRowsModel", "latest", "J", false)
  | 12 => ("CeilingRowsModel", "lockOf", "[I", true)
  | 13 => ("CeilingRowsModel", "lockNth", "[I", true)
  | 14 => ("CeilingRowsModel", "spins", "[I", true)
  | 15 => ("CeilingRowsModel", "spinSince", "[I", true)
  | 16 => ("CeilingRowsModel", "locks", "I", false)
  | 17 => ("CeilingRowsModel", "trialState", "[I", true)
  | 18 => ("CeilingRowsModel", "trialSince", "[I", true)
  | 19 => ("CeilingRowsModel", "done", "[I", true)
  | 20 => ("CeilingRowsModel", "held", "[I", true)
  | _ => ("CeilingRowsModel", "met", "[Z", true)
def nt_Ref : Nat → FieldType := fun k => match k with
  | 0 => .int
  | 1 => (.array .int)
  | 2 => (.array .int)
  | 3 => (.array .int)
  | 4 => (.array .int)
  | 5 => .int
  | 6 => (.array .boolean)
  | 7 => .int
  | 8 => (.array .long)
  | 9 => (.array .int)
  | 10 => (.array .int)
  | 11 => .long
  | 12 => (.array .int)
  | 13 => (.array .int)
  | 14 => (.array .int)
  | 15 => (.array .int)
  | 16 => .int
  | 17 => (.array .int)
  | 18 => (.array .int)
  | 19 => (.array .int)
  | 20 => (.array .int)
  | _ => (.array .boolean)
theorem nno_Ref : ∀ a, a < 22 → ∀ b, b < 22 → a ≠ b → (nf_Ref a).2.1 ≠ (nf_Ref b).2.1 := by decide +kernel
theorem nto_Ref : ∀ k, k < 22 → parseFieldDescriptor (nf_Ref k).2.2.1 = some (nt_Ref k) := by decide +kernel
set_option maxRecDepth 20000 in
theorem nin_Ref : ∀ w ∈ u_ws "CeilingRowsModel" nf_Ref 22, w ∈ ng_tbl := ng_pl [435, 437, 439, 441, 443, 445, 447, 449, 451, 453, 455, 457, 459, 461, 463, 465, 467, 469, 471, 473, 475, 477] (by decide +kernel) (by decide +kernel)
abbrev vwCl : List vw_C := [("CeilingRows$Plan", nf_Plan, 7), ("CeilingRows$Board", nf_Board, 7), ("CeilingRows$Locks", nf_Locks, 4), ("CeilingRows$Trial", nf_Trial, 5), ("CeilingRows", nf_Main, 6), ("CeilingRowsModel", nf_Ref, 22)]
def ny_Main_init : MethodName := ⟨"CeilingRows", "<init>", "()V"⟩
def nw_Main_init : List Cond := .code ny_Main_init prog_1_method_1_code 1 none :: ng_tbl
def ny_Plan_init : MethodName := ⟨"CeilingRows$Plan", "<init>", "()V"⟩
def nw_Plan_init : List Cond := .code ny_Plan_init prog_4_method_1_code 1 none :: ng_tbl
def ny_Board_init : MethodName := ⟨"CeilingRows$Board", "<init>", "(LCeilingRows$Plan;)V"⟩
def nw_Board_init : List Cond := .code ny_Board_init prog_2_method_1_code 2 none :: ng_tbl
def ny_Locks_init : MethodName := ⟨"CeilingRows$Locks", "<init>", "()V"⟩
def nw_Locks_init : List Cond := .code ny_Locks_init prog_3_method_1_code 1 none :: ng_tbl
def ny_Trial_init : MethodName := ⟨"CeilingRows$Trial", "<init>", "(LCeilingRows$Plan;)V"⟩
def nw_Trial_init : List Cond := .code ny_Trial_init prog_5_method_1_code 2 none :: ng_tbl
def ny_Main_task : MethodName := ⟨"CeilingRows", "task", "(II)I"⟩
def nw_Main_task : List Cond := .code ny_Main_task prog_1_method_2_code 3 (some .int) :: ng_tbl
def ny_Main_isCore : MethodName := ⟨"CeilingRows", "isCore", "(I)Z"⟩
def nw_Main_isCore : List Cond := .code ny_Main_isCore prog_1_method_14_code 1 (some .boolean) :: ng_tbl
def ny_Plan_addTask : MethodName := ⟨"CeilingRows$Plan", "addTask", "(II)I"⟩
def nw_Plan_addTask : List Cond := .code ny_Plan_addTask prog_4_method_4_code 3 (some .int) :: ng_tbl
def ny_Main_resource : MethodName := ⟨"CeilingRows", "resource", "()I"⟩
def nw_Main_resource : List Cond := .code ny_Main_resource prog_1_method_3_code 1 (some .int) :: ng_tbl
def ny_Plan_addResource : MethodName := ⟨"CeilingRows$Plan", "addResource", "()I"⟩
def nw_Plan_addResource : List Cond := .code ny_Plan_addResource prog_4_method_5_code 1 (some .int) :: ng_tbl
def ny_Main_uses : MethodName := ⟨"CeilingRows", "uses", "(IIJ)I"⟩
def nw_Main_uses : List Cond := .code ny_Main_uses prog_1_method_4_code 7 (some .int) :: ng_tbl
def ny_Plan_hasTask : MethodName := ⟨"CeilingRows$Plan", "hasTask", "(I)Z"⟩
def nw_Plan_hasTask : List Cond := .code ny_Plan_hasTask prog_4_method_2_code 2 (some .boolean) :: ng_tbl
def ny_Plan_hasResource : MethodName := ⟨"CeilingRows$Plan", "hasResource", "(I)Z"⟩
def nw_Plan_hasResource : List Cond := .code ny_Plan_hasResource prog_4_method_3_code 2 (some .boolean) :: ng_tbl
def ny_Board_allSleepOn : MethodName := ⟨"CeilingRows$Board", "allSleepOn", "(I)Z"⟩
def nw_Board_allSleepOn : List Cond := .code ny_Board_allSleepOn prog_2_method_3_code 3 (some .boolean) :: ng_tbl
def ny_Plan_isUsedByAnotherCore : MethodName := ⟨"CeilingRows$Plan", "isUsedByAnotherCore", "(II)Z"⟩
def nw_Plan_isUsedByAnotherCore : List Cond := .code ny_Plan_isUsedByAnotherCore prog_4_method_7_code 3 (some .boolean) :: ng_tbl
def ny_Plan_isUsedBy : MethodName := ⟨"CeilingRows$Plan", "isUsedBy", "(II)Z"⟩
def nw_Plan_isUsedBy : List Cond := .code ny_Plan_isUsedBy prog_4_method_6_code 3 (some .boolean) :: ng_tbl
def ny_Plan_setUse : MethodName := ⟨"CeilingRows$Plan", "setUse", "(III)V"⟩
def nw_Plan_setUse : List Cond := .code ny_Plan_setUse prog_4_method_8_code 4 none :: ng_tbl
def ny_Main_ceiling : MethodName := ⟨"CeilingRows", "ceiling", "(I)I"⟩
def nw_Main_ceiling : List Cond := .code ny_Main_ceiling prog_1_method_5_code 2 (some .int) :: ng_tbl
def ny_Main_step : MethodName := ⟨"CeilingRows", "step", "(IIIJ)I"⟩
def nw_Main_step : List Cond := .code ny_Main_step prog_1_method_6_code 8 (some .int) :: ng_tbl
def ny_Main_perform : MethodName := ⟨"CeilingRows", "perform", "(III)I"⟩
def nw_Main_perform : List Cond := .code ny_Main_perform prog_1_method_16_code 4 (some .int) :: ng_tbl
def ny_Main_startTask : MethodName := ⟨"CeilingRows", "startTask", "(I)I"⟩
def nw_Main_startTask : List Cond := .code ny_Main_startTask prog_1_method_17_code 2 (some .int) :: ng_tbl
def ny_Board_makeReady : MethodName := ⟨"CeilingRows$Board", "makeReady", "(I)V"⟩
def nw_Board_makeReady : List Cond := .code ny_Board_makeReady prog_2_method_4_code 2 none :: ng_tbl
def ny_Main_runs : MethodName := ⟨"CeilingRows", "runs", "(I)Z"⟩
def nw_Main_runs : List Cond := .code ny_Main_runs prog_1_method_15_code 3 (some .boolean) :: ng_tbl
def ny_Locks_spins : MethodName := ⟨"CeilingRows$Locks", "spins", "(I)Z"⟩
def nw_Locks_spins : List Cond := .code ny_Locks_spins prog_3_method_2_code 2 (some .boolean) :: ng_tbl
def ny_Board_firstOn : MethodName := ⟨"CeilingRows$Board", "firstOn", "(I)I"⟩
def nw_Board_firstOn : List Cond := .code ny_Board_firstOn prog_2_method_7_code 7 (some .int) :: ng_tbl
def ny_Board_rankNow : MethodName := ⟨"CeilingRows$Board", "rankNow", "(I)I"⟩
def nw_Board_rankNow : List Cond := .code ny_Board_rankNow prog_2_method_6_code 4 (some .int) :: ng_tbl
def ny_Main_sendEvent : MethodName := ⟨"CeilingRows", "sendEvent", "(I)I"⟩
def nw_Main_sendEvent : List Cond := .code ny_Main_sendEvent prog_1_method_18_code 2 (some .int) :: ng_tbl
def ny_Main_takeResource : MethodName := ⟨"CeilingRows", "takeResource", "(II)I"⟩
def nw_Main_takeResource : List Cond := .code ny_Main_takeResource prog_1_method_19_code 3 (some .int) :: ng_tbl
def ny_Board_take : MethodName := ⟨"CeilingRows$Board", "take", "(II)V"⟩
def nw_Board_take : List Cond := .code ny_Board_take prog_2_method_8_code 3 none :: ng_tbl
def ny_Main_giveBackResource : MethodName := ⟨"CeilingRows", "giveBackResource", "(II)I"⟩
def nw_Main_giveBackResource : List Cond := .code ny_Main_giveBackResource prog_1_method_20_code 3 (some .int) :: ng_tbl
def ny_Board_giveBackLast : MethodName := ⟨"CeilingRows$Board", "giveBackLast", "(I)V"⟩
def nw_Board_giveBackLast : List Cond := .code ny_Board_giveBackLast prog_2_method_9_code 3 none :: ng_tbl
def ny_Main_endTask : MethodName := ⟨"CeilingRows", "endTask", "(I)I"⟩
def nw_Main_endTask : List Cond := .code ny_Main_endTask prog_1_method_21_code 3 (some .int) :: ng_tbl
def ny_Board_holdsAny : MethodName := ⟨"CeilingRows$Board", "holdsAny", "(I)Z"⟩
def nw_Board_holdsAny : List Cond := .code ny_Board_holdsAny prog_2_method_5_code 2 (some .boolean) :: ng_tbl
def ny_Board_putToSleep : MethodName := ⟨"CeilingRows$Board", "putToSleep", "(I)V"⟩
def nw_Board_putToSleep : List Cond := .code ny_Board_putToSleep prog_2_method_10_code 3 none :: ng_tbl
def ny_Main_waitForEvent : MethodName := ⟨"CeilingRows", "waitForEvent", "(I)I"⟩
def nw_Main_waitForEvent : List Cond := .code ny_Main_waitForEvent prog_1_method_22_code 2 (some .int) :: ng_tbl
def ny_Main_rank : MethodName := ⟨"CeilingRows", "rank", "(I)I"⟩
def nw_Main_rank : List Cond := .code ny_Main_rank prog_1_method_7_code 2 (some .int) :: ng_tbl
def ny_Main_holder : MethodName := ⟨"CeilingRows", "holder", "(I)I"⟩
def nw_Main_holder : List Cond := .code ny_Main_holder prog_1_method_8_code 2 (some .int) :: ng_tbl
def ny_Main_blocking : MethodName := ⟨"CeilingRows", "blocking", "(I)J"⟩
def nw_Main_blocking : List Cond := .code ny_Main_blocking prog_1_method_9_code 4 (some .long) :: ng_tbl
def ny_Plan_longestDelay : MethodName := ⟨"CeilingRows$Plan", "longestDelay", "(II)I"⟩
def nw_Plan_longestDelay : List Cond := .code ny_Plan_longestDelay prog_4_method_10_code 5 (some .int) :: ng_tbl
def ny_Plan_isBelow : MethodName := ⟨"CeilingRows$Plan", "isBelow", "(II)Z"⟩
def nw_Plan_isBelow : List Cond := .code ny_Plan_isBelow prog_4_method_9_code 3 (some .boolean) :: ng_tbl
def ny_Main_lock : MethodName := ⟨"CeilingRows", "lock", "(II)I"⟩
def nw_Main_lock : List Cond := .code ny_Main_lock prog_1_method_10_code 3 (some .int) :: ng_tbl
def ny_Locks_acquire : MethodName := ⟨"CeilingRows$Locks", "acquire", "(II)I"⟩
def nw_Locks_acquire : List Cond := .code ny_Locks_acquire prog_3_method_4_code 3 (some .int) :: ng_tbl
def ny_Locks_lastTakenBy : MethodName := ⟨"CeilingRows$Locks", "lastTakenBy", "(I)I"⟩
def nw_Locks_lastTakenBy : List Cond := .code ny_Locks_lastTakenBy prog_3_method_3_code 3 (some .int) :: ng_tbl
def ny_Locks_release : MethodName := ⟨"CeilingRows$Locks", "release", "(II)I"⟩
def nw_Locks_release : List Cond := .code ny_Locks_release prog_3_method_5_code 4 (some .int) :: ng_tbl
def ny_Locks_longestSpinnerFor : MethodName := ⟨"CeilingRows$Locks", "longestSpinnerFor", "(I)I"⟩
def nw_Locks_longestSpinnerFor : List Cond := .code ny_Locks_longestSpinnerFor prog_3_method_6_code 5 (some .int) :: ng_tbl
def ny_Main_ring : MethodName := ⟨"CeilingRows", "ring", "()Z"⟩
def nw_Main_ring : List Cond := .code ny_Main_ring prog_1_method_11_code 2 (some .boolean) :: ng_tbl
def ny_Locks_waitsForItself : MethodName := ⟨"CeilingRows$Locks", "waitsForItself", "(I)Z"⟩
def nw_Locks_waitsForItself : List Cond := .code ny_Locks_waitsForItself prog_3_method_7_code 4 (some .boolean) :: ng_tbl
def ny_Main_lower : MethodName := ⟨"CeilingRows", "lower", "(II)I"⟩
def nw_Main_lower : List Cond := .code ny_Main_lower prog_1_method_12_code 5 (some .int) :: ng_tbl
def ny_Main_plain : MethodName := ⟨"CeilingRows", "plain", "(J)I"⟩
def nw_Main_plain : List Cond := .code ny_Main_plain prog_1_method_13_code 3 (some .int) :: ng_tbl
def ny_Trial_mostDelays : MethodName := ⟨"CeilingRows$Trial", "mostDelays", "(J)I"⟩
def nw_Trial_mostDelays : List Cond := .code ny_Trial_mostDelays prog_5_method_2_code 6 (some .int) :: ng_tbl
def ny_Trial_clear : MethodName := ⟨"CeilingRows$Trial", "clear", "()V"⟩
def nw_Trial_clear : List Cond := .code ny_Trial_clear prog_5_method_3_code 2 none :: ng_tbl
def ny_Board_clear : MethodName := ⟨"CeilingRows$Board", "clear", "()V"⟩
def nw_Board_clear : List Cond := .code ny_Board_clear prog_2_method_2_code 1 none :: ng_tbl
def ny_Arrays_fill : MethodName := ⟨"java/util/Arrays", "fill", "([II)V"⟩
def nw_Arrays_fill : List Cond := .code ny_Arrays_fill prog_10_method_103_code 4 none :: ng_tbl
def ny_Trial_startThoseDue : MethodName := ⟨"CeilingRows$Trial", "startThoseDue", "(JI)V"⟩
def nw_Trial_startThoseDue : List Cond := .code ny_Trial_startThoseDue prog_5_method_4_code 7 none :: ng_tbl
def ny_Trial_haveTick : MethodName := ⟨"CeilingRows$Trial", "haveTick", "(I)V"⟩
def nw_Trial_haveTick : List Cond := .code ny_Trial_haveTick prog_5_method_5_code 3 none :: ng_tbl
def ny_Trial_resourceAt : MethodName := ⟨"CeilingRows$Trial", "resourceAt", "(II)I"⟩
def nw_Trial_resourceAt : List Cond := .code ny_Trial_resourceAt prog_5_method_10_code 6 (some .int) :: ng_tbl
def ny_Trial_ticksWith : MethodName := ⟨"CeilingRows$Trial", "ticksWith", "(II)I"⟩
def nw_Trial_ticksWith : List Cond := .code ny_Trial_ticksWith prog_5_method_8_code 3 (some .int) :: ng_tbl
def ny_Trial_noteDelays : MethodName := ⟨"CeilingRows$Trial", "noteDelays", "(II)V"⟩
def nw_Trial_noteDelays : List Cond := .code ny_Trial_noteDelays prog_5_method_6_code 4 none :: ng_tbl
def ny_Trial_ticksOf : MethodName := ⟨"CeilingRows$Trial", "ticksOf", "(I)I"⟩
def nw_Trial_ticksOf : List Cond := .code ny_Trial_ticksOf prog_5_method_9_code 4 (some .int) :: ng_tbl
def ny_Trial_countDelays : MethodName := ⟨"CeilingRows$Trial", "countDelays", "(I)I"⟩
def nw_Trial_countDelays : List Cond := .code ny_Trial_countDelays prog_5_method_7_code 4 (some .int) :: ng_tbl
def ny_Integer_bitCount : MethodName := ⟨"java/lang/Integer", "bitCount", "(I)I"⟩
def nw_Integer_bitCount : List Cond := .code ny_Integer_bitCount prog_8_method_49_code 1 (some .int) :: ng_tbl
def ny_Ref_init : MethodName := ⟨"CeilingRowsModel", "<init>", "()V"⟩
def nw_Ref_init : List Cond := .code ny_Ref_init prog_7_method_1_code 1 none :: ng_tbl
def ny_Ref_task : MethodName := ⟨"CeilingRowsModel", "task", "(II)I"⟩
def nw_Ref_task : List Cond := .code ny_Ref_task prog_7_method_4_code 3 (some .int) :: ng_tbl
def ny_Ref_resource : MethodName := ⟨"CeilingRowsModel", "resource", "()I"⟩
def nw_Ref_resource : List Cond := .code ny_Ref_resource prog_7_method_5_code 1 (some .int) :: ng_tbl
def ny_Ref_uses : MethodName := ⟨"CeilingRowsModel", "uses", "(IIJ)I"⟩
def nw_Ref_uses : List Cond := .code ny_Ref_uses prog_7_method_6_code 6 (some .int) :: ng_tbl
def ny_Ref_isTask : MethodName := ⟨"CeilingRowsModel", "isTask", "(I)Z"⟩
def nw_Ref_isTask : List Cond := .code ny_Ref_isTask prog_7_method_2_code 2 (some .boolean) :: ng_tbl
def ny_Ref_isResource : MethodName := ⟨"CeilingRowsModel", "isResource", "(I)Z"⟩
def nw_Ref_isResource : List Cond := .code ny_Ref_isResource prog_7_method_3_code 2 (some .boolean) :: ng_tbl
def ny_Ref_ceiling : MethodName := ⟨"CeilingRowsModel", "ceiling", "(I)I"⟩
def nw_Ref_ceiling : List Cond := .code ny_Ref_ceiling prog_7_method_8_code 2 (some .int) :: ng_tbl
def ny_Ref_ceilingOf : MethodName := ⟨"CeilingRowsModel", "ceilingOf", "(I)I"⟩
def nw_Ref_ceilingOf : List Cond := .code ny_Ref_ceilingOf prog_7_method_7_code 4 (some .int) :: ng_tbl
def ny_Ref_step : MethodName := ⟨"CeilingRowsModel", "step", "(IIIJ)I"⟩
def nw_Ref_step : List Cond := .code ny_Ref_step prog_7_method_15_code 7 (some .int) :: ng_tbl
def ny_Ref_acts : MethodName := ⟨"CeilingRowsModel", "acts", "(III)I"⟩
def nw_Ref_acts : List Cond := .code ny_Ref_acts prog_7_method_14_code 6 (some .int) :: ng_tbl
def ny_Ref_ready : MethodName := ⟨"CeilingRowsModel", "ready", "(I)V"⟩
def nw_Ref_ready : List Cond := .code ny_Ref_ready prog_7_method_12_code 2 none :: ng_tbl
def ny_Ref_runs : MethodName := ⟨"CeilingRowsModel", "runs", "(I)Z"⟩
def nw_Ref_runs : List Cond := .code ny_Ref_runs prog_7_method_11_code 2 (some .boolean) :: ng_tbl
def ny_Ref_running : MethodName := ⟨"CeilingRowsModel", "running", "(I)I"⟩
def nw_Ref_running : List Cond := .code ny_Ref_running prog_7_method_10_code 5 (some .int) :: ng_tbl
def ny_Ref_rankNow : MethodName := ⟨"CeilingRowsModel", "rankNow", "(I)I"⟩
def nw_Ref_rankNow : List Cond := .code ny_Ref_rankNow prog_7_method_9_code 4 (some .int) :: ng_tbl
def ny_Ref_last : MethodName := ⟨"CeilingRowsModel", "last", "(I)I"⟩
def nw_Ref_last : List Cond := .code ny_Ref_last prog_7_method_13_code 4 (some .int) :: ng_tbl
def ny_Ref_rank : MethodName := ⟨"CeilingRowsModel", "rank", "(I)I"⟩
def nw_Ref_rank : List Cond := .code ny_Ref_rank prog_7_method_16_code 2 (some .int) :: ng_tbl
def ny_Ref_holder : MethodName := ⟨"CeilingRowsModel", "holder", "(I)I"⟩
def nw_Ref_holder : List Cond := .code ny_Ref_holder prog_7_method_17_code 2 (some .int) :: ng_tbl
def ny_Ref_blocking : MethodName := ⟨"CeilingRowsModel", "blocking", "(I)J"⟩
def nw_Ref_blocking : List Cond := .code ny_Ref_blocking prog_7_method_19_code 6 (some .long) :: ng_tbl
def ny_Ref_mayKeep : MethodName := ⟨"CeilingRowsModel", "mayKeep", "(III)Z"⟩
def nw_Ref_mayKeep : List Cond := .code ny_Ref_mayKeep prog_7_method_18_code 4 (some .boolean) :: ng_tbl
def ny_Ref_lower : MethodName := ⟨"CeilingRowsModel", "lower", "(II)I"⟩
def nw_Ref_lower : List Cond := .code ny_Ref_lower prog_7_method_20_code 7 (some .int) :: ng_tbl
def ny_Ref_lock : MethodName := ⟨"CeilingRowsModel", "lock", "(II)I"⟩
def nw_Ref_lock : List Cond := .code ny_Ref_lock prog_7_method_23_code 5 (some .int) :: ng_tbl
def ny_Ref_have : MethodName := ⟨"CeilingRowsModel", "have", "(II)V"⟩
def nw_Ref_have : List Cond := .code ny_Ref_have prog_7_method_22_code 3 none :: ng_tbl
def ny_Ref_lastLock : MethodName := ⟨"CeilingRowsModel", "lastLock", "(I)I"⟩
def nw_Ref_lastLock : List Cond := .code ny_Ref_lastLock prog_7_method_21_code 4 (some .int) :: ng_tbl
def ny_Ref_ring : MethodName := ⟨"CeilingRowsModel", "ring", "()Z"⟩
def nw_Ref_ring : List Cond := .code ny_Ref_ring prog_7_method_24_code 5 (some .boolean) :: ng_tbl
def ny_Ref_plain : MethodName := ⟨"CeilingRowsModel", "plain", "(J)I"⟩
def nw_Ref_plain : List Cond := .code ny_Ref_plain prog_7_method_28_code 9 (some .int) :: ng_tbl
def ny_Ref_trialRuns : MethodName := ⟨"CeilingRowsModel", "trialRuns", "(I)I"⟩
def nw_Ref_trialRuns : List Cond := .code ny_Ref_trialRuns prog_7_method_27_code 5 (some .int) :: ng_tbl
def ny_Ref_trialRank : MethodName := ⟨"CeilingRowsModel", "trialRank", "(I)I"⟩
def nw_Ref_trialRank : List Cond := .code ny_Ref_trialRank prog_7_method_26_code 2 (some .int) :: ng_tbl
def ny_Ref_tickOf : MethodName := ⟨"CeilingRowsModel", "tickOf", "(II)I"⟩
def nw_Ref_tickOf : List Cond := .code ny_Ref_tickOf prog_7_method_25_code 6 (some .int) :: ng_tbl
end
section
/-! the pure side's words: a component's numbers (cell, place), stores, ranges -/
abbrev cr_S : Type := Nat → Nat → Int32
def cr_up (σ : cr_S) (k j : Nat) (x : Int32) : cr_S := fun k' => if k' = k then upd (σ k) j x else σ k'
theorem cr_lt {x y : Int32} (h : x < y) : x.toInt < y.toInt := Int32.lt_iff_toInt_lt.mp h
theorem cr_nlt {x y : Int32} (h : ¬ x < y) : y.toInt ≤ x.toInt := by
  rw [Int32.lt_iff_toInt_lt] at h; omega
theorem cr_le {x y : Int32} (h : x ≤ y) : x.toInt ≤ y.toInt := Int32.le_iff_toInt_le.mp h
theorem cr_nle {x y : Int32} (h : ¬ x ≤ y) : y.toInt < x.toInt := by
  rw [Int32.le_iff_toInt_le] at h; omega
theorem cr_eq {x y : Int32} (h : x = y) : x.toInt = y.toInt := by rw [h]
theorem cr_ne {x y : Int32} (h : ¬ x = y) : x.toInt ≠ y.toInt := fun e => h (Int32.toInt_inj.mp e)
theorem cr_nne {x y : Int32} (h : ¬ x ≠ y) : x.toInt = y.toInt := by
  rw [Decidable.not_not.mp h]
theorem cr_bmod {z : Int} (h : -2147483648 ≤ z ∧ z < 2147483648) : z.bmod (2 ^ 32) = z := by
  have : ((2 ^ 32 : Nat) : Int) = 4294967296 := by decide
  simp only [Int.bmod, this]
  split <;> omega
theorem cr_add {x y : Int32} (h : -2147483648 ≤ x.toInt + y.toInt ∧ x.toInt + y.toInt < 2147483648) : (x + y).toInt = x.toInt + y.toInt := by
  rw [Int32.toInt_add]; exact cr_bmod h
theorem cr_sub {x y : Int32} (h : -2147483648 ≤ x.toInt - y.toInt ∧ x.toInt - y.toInt < 2147483648) : (x - y).toInt = x.toInt - y.toInt := by
  rw [Int32.toInt_sub]; exact cr_bmod h
theorem cr_neg {x : Int32} (h : -2147483648 ≤ -x.toInt ∧ -x.toInt < 2147483648) : (-x).toInt = -x.toInt := by
  rw [Int32.toInt_neg]; exact cr_bmod h
theorem cr_ix {x : Int32} {n : Nat} (h : vp_in x n) : x.toNatClampNeg < n := Nat.not_le.mp fun q => h (Or.inr q)
def cr_rg (σ : cr_S) (k : Nat) (hi : Int) : Prop := ∀ j, 0 ≤ (σ k j).toInt ∧ (σ k j).toInt ≤ hi
def cr_rf (σ : cr_S) (k j : Nat) (hi : Int) : Prop := 0 ≤ (σ k j).toInt ∧ (σ k j).toInt ≤ hi
theorem cr_rg_up {σ : cr_S} {k k' j : Nat} {hi : Int} {x : Int32} (h : cr_rg σ k hi) (hx : k = k' → 0 ≤ x.toInt ∧ x.toInt ≤ hi) : cr_rg (cr_up σ k' j x) k hi := by
  intro i
  unfold cr_up
  by_cases e : k = k'
  · rw [if_pos e]
    unfold upd
    by_cases e2 : i = j
    · rw [if_pos e2]; exact hx e
    · rw [if_neg e2, ← e]; exact h i
  · rw [if_neg e]; exact h i
theorem cr_rf_up {σ : cr_S} {k k' i j : Nat} {hi : Int} {x : Int32} (h : cr_rf σ k i hi) (hx : k = k' → i = j → 0 ≤ x.toInt ∧ x.toInt ≤ hi) : cr_rf (cr_up σ k' j x) k i hi := by
  unfold cr_rf cr_up
  by_cases e : k = k'
  · rw [if_pos e]
    unfold upd
    by_cases e2 : i = j
    · rw [if_pos e2]; exact hx e e2
    · rw [if_neg e2, ← e]; exact h
  · rw [if_neg e]; exact h
/-- an array of rows: its n rows are the cells from o on -/
def cr_gr (a : Nat → Nat) (o n : Nat) : Nat → Option Nat := fun i => if i < n then some (a (o + i)) else none
theorem cr_getL {A B : va_W} {k : Nat} {q : Nat × va_E} (h : A[k]? = some q) : (A ++ B)[k]? = some q := by
  rw [List.getElem?_append_left (List.getElem?_eq_some_iff.mp h).1]; exact h
theorem cr_getR {A B : va_W} {o k : Nat} {q : Nat × va_E} (ho : A.length = o) (h : B[k]? = some q) : (A ++ B)[o + k]? = some q := by
  subst ho
  rw [List.getElem?_append_right (Nat.le_add_right _ _), Nat.add_sub_cancel_left]; exact h
theorem cr_setL {A A' B : va_W} {k : Nat} {q : Nat × va_E} (hk : k < A.length) (h : A.set k q = A') : (A ++ B).set k q = A' ++ B := by
  rw [List.set_append_left _ _ hk, h]
theorem cr_setR {A B B' : va_W} {o k : Nat} {q : Nat × va_E} (ho : A.length = o) (h : B.set k q = B') : (A ++ B).set (o + k) q = A ++ B' := by
  subst ho
  rw [List.set_append_right _ _ (Nat.le_add_right _ _), Nat.add_sub_cancel_left, h]
theorem cr_rfo {σ : cr_S} {k j : Nat} {hi : Int} (h : cr_rf σ k j hi) : 0 ≤ (σ k j).toInt ∧ (σ k j).toInt ≤ hi := h
theorem cr_rgo {σ : cr_S} {k : Nat} {hi : Int} (h : cr_rg σ k hi) (j : Nat) : 0 ≤ (σ k j).toInt ∧ (σ k j).toInt ≤ hi := h j
def cr_fl (f : Nat → Int32) (n : Nat) (x : Int32) : Nat → Int32 := fun j => if j < n then x else f j
def cr_fill (σ : cr_S) (k n : Nat) (x : Int32) : cr_S := fun k' => if k' = k then cr_fl (σ k) n x else σ k'
theorem cr_rg_fill {σ : cr_S} {k k' n : Nat} {hi : Int} {x : Int32} (h : cr_rg σ k hi) (hx : k = k' → 0 ≤ x.toInt ∧ x.toInt ≤ hi) : cr_rg (cr_fill σ k' n x) k hi := by
  intro i
  unfold cr_fill
  by_cases e : k = k'
  · rw [if_pos e]
    unfold cr_fl
    by_cases e2 : i < n
    · rw [if_pos e2]; exact hx e
    · rw [if_neg e2, ← e]; exact h i
  · rw [if_neg e]; exact h i
theorem cr_rf_fill {σ : cr_S} {k k' i n : Nat} {hi : Int} {x : Int32} (h : cr_rf σ k i hi) (hx : k = k' → i < n → 0 ≤ x.toInt ∧ x.toInt ≤ hi) : cr_rf (cr_fill σ k' n x) k i hi := by
  unfold cr_rf cr_fill
  by_cases e : k = k'
  · rw [if_pos e]
    unfold cr_fl
    by_cases e2 : i < n
    · rw [if_pos e2]; exact hx e e2
    · rw [if_neg e2, ← e]; exact h
  · rw [if_neg e]; exact h
def cr_max (x y : Int32) : Int32 := if x < y then y else x
def cr_min (x y : Int32) : Int32 := if y < x then y else x
theorem cr_max_t (x y : Int32) : (cr_max x y).toInt = x.toInt ∧ y.toInt ≤ x.toInt ∨ (cr_max x y).toInt = y.toInt ∧ x.toInt < y.toInt := by
  unfold cr_max
  by_cases h : x < y
  · rw [if_pos h]; exact Or.inr ⟨rfl, cr_lt h⟩
  · rw [if_neg h]; exact Or.inl ⟨rfl, cr_nlt h⟩
theorem cr_min_t (x y : Int32) : (cr_min x y).toInt = x.toInt ∧ x.toInt ≤ y.toInt ∨ (cr_min x y).toInt = y.toInt ∧ y.toInt < x.toInt := by
  unfold cr_min
  by_cases h : y < x
  · rw [if_pos h]; exact Or.inr ⟨rfl, cr_lt h⟩
  · rw [if_neg h]; exact Or.inl ⟨rfl, cr_nlt h⟩
/-! one cell given to a callee, and taken back -/
theorem cr_P1 {D : va_G} {cl : List vw_C} {ws : va_W} {H : Heap} {k : Nat} {q : Nat × va_E} (hP : va_P D cl ws H) (he : ws[k]? = some q) : va_P D cl [q] H := by
  intro i q' h
  have h0 : i < 1 := (List.getElem?_eq_some_iff.mp h).1
  rw [show i = 0 by omega] at h
  cases h
  exact hP k _ he
theorem cr_D1 {q : Nat × va_E} : va_D (fun _ => True) [q] := by
  refine ⟨fun i j p q h1 h2 _ => ?_, fun _ _ _ => trivial⟩
  have h3 := (List.getElem?_eq_some_iff.mp h1).1
  have h4 := (List.getElem?_eq_some_iff.mp h2).1
  simp only [List.length_cons, List.length_nil] at h3 h4
  omega
theorem cr_F1 {A0 : Nat → Prop} {ws : va_W} {H0 H : Heap} {locs : List Loc} {k : Nat} {q : Nat × va_E} (hD : va_D A0 ws) (hS : va_S A0 H0 H locs) (hA : ∀ q, H0.size ≤ q → A0 q) (he : ws[k]? = some q) : ∀ x, va_A [q] H.size x → A0 x :=
  va_free (wc := [q]) hD hS hA [k] (by rw [List.map_cons, he]; rfl)
theorem cr_Dw {A A0 : Nat → Prop} {ws : va_W} (h : va_D A ws) (hF : ∀ q, A q → A0 q) : va_D A0 ws := ⟨h.1, fun k q hk => hF _ (h.2 k q hk)⟩
theorem cr_join1 {A0 : Nat → Prop} {D : va_G} {cl : List vw_C} {ws : va_W} {H H1 : Heap} {k a : Nat} {e e' : va_E} (hP : va_P D cl ws H) (hD : va_D A0 ws) (he : ws[k]? = some (a, e))
    (hk : ∀ q : Nat, q < H.size → ¬ va_A [(a, e)] H.size q → H1[q]? = H[q]?) (hP1 : va_P D cl [(a, e')] H1) : va_P D cl (ws.set k (a, e')) H1 ∧ va_D A0 (ws.set k (a, e')) := by
  have hkl := (List.getElem?_eq_some_iff.mp he).1
  refine ⟨fun i q h => ?_, fun i j p q h1 h2 h3 => ?_, fun i q h => ?_⟩
  · by_cases hi : i = k
    · subst hi
      rw [List.getElem?_set_self hkl] at h
      cases h
      exact hP1 0 _ rfl
    · rw [List.getElem?_set_ne (Ne.symm hi)] at h
      have hq := hP i q h
      refine hq.kept (hk q.1 hq.lt ?_)
      rintro (⟨z, e9, h9⟩ | h9)
      · have h0 : z < 1 := (List.getElem?_eq_some_iff.mp h9).1
        rw [show z = 0 by omega] at h9
        have h8 : (a, e) = (q.1, e9) := Option.some.inj h9
        exact hi (hD.1 i k q (a, e) h he (by rw [Prod.mk.inj h8 |>.1]))
      · exact absurd hq.lt (by omega)
  · have g : ∀ (i : Nat) (p : Nat × va_E), (ws.set k (a, e'))[i]? = some p → ∃ p', ws[i]? = some p' ∧ p'.1 = p.1 := by
      intro i p h
      by_cases hi : i = k
      · subst hi
        rw [List.getElem?_set_self hkl] at h
        cases h
        exact ⟨_, he, rfl⟩
      · rw [List.getElem?_set_ne (Ne.symm hi)] at h
        exact ⟨p, h, rfl⟩
    obtain ⟨p', a1, a2⟩ := g i p h1
    obtain ⟨q', b1, b2⟩ := g j q h2
    exact hD.1 i j p' q' a1 b1 (by rw [a2, b2, h3])
  · by_cases hi : i = k
    · subst hi
      rw [List.getElem?_set_self hkl] at h
      cases h
      exact hD.2 i (a, e) he
    · rw [List.getElem?_set_ne (Ne.symm hi)] at h
      exact hD.2 i q h
section CRG
variable {p : Program} {l : Launch} {e : Env} {R : Room} {s : State} {m : MethodId} {args : Array Value} {below : List Frame} {meth : Method} {c : Code} {H : Heap} {locs : List Loc} {cells slots : Nat} {Q : State → Prop}
variable {cc : ByteArray} {pc : Nat} {ls : Array Slot} {rest : List Value} {D : va_G} {cl : List vw_C} {A : Nat → Prop} {a : Nat} {tys : List (ClassId × FieldType)} {ws : va_W} {H0 : Heap}
theorem ga_ald (hexec : p.tables.exec = Jvm.exec) (hb : c.code = cc) (hK : va_K D cl tys s) (hP : va_P D cl ws H) (q0 t0 : Nat) {cA : ClassId} {t : FieldType} {n o : Nat} {ar : Nat → Nat} (ha : ws[q0]? = some (a, .inl (cA, n, .inr (.inr (.inr (.inr (cr_gr ar o n))))))) (ht : tys[t0]? = some (cA, .array t)) {i : Int32} (hin : vp_in i n) (hlt : i.toNatClampNeg < n) (hdg : decode cc pc = .ok (.aaload, 1))
    (kk : W p l e R s m args below meth c H locs cells slots Q (F0 m (pc + 1) ls (.ref (ar (o + i.toNatClampNeg)) :: rest))) : W p l e R s m args below meth c H locs cells slots Q (F0 m pc ls (.int i :: .ref a :: rest)) := by
  have e : va_rf (cr_gr ar o n i.toNatClampNeg) = .ref (ar (o + i.toNatClampNeg)) := by
    unfold cr_gr
    rw [if_pos hlt]
    rfl
  exact W.aald (v := .ref (ar (o + i.toNatClampNeg))) (ty := .array t) hexec hb (hP q0 _ ha) ((hK.2 t0 _ ht).1 n (fun j => va_rf (cr_gr ar o n j))) rfl (fun q => by cases q) (by show ¬ (i < 0 ∨ (arrV _ _ _).slots.size ≤ _); rw [arrV_size]; exact hin) (by show (arrV _ _ _).slots[_]? = _; rw [arrV_read _ _ hlt, e]) rfl rfl hdg kk
end CRG
theorem cr_same {D : va_G} {cl : List vw_C} {tys : List (ClassId × FieldType)} {U : State} {c1 c2 : ClassId} {t : FieldType} {i j : Nat} (hK : va_K D cl tys U) (hi : tys[i]? = some (c1, t)) (hj : tys[j]? = some (c2, t)) (ht : (match t with | .object _ => false | _ => true) = true) : c2 = c1 := by
  have h1 := (hK.2 i _ hi).2
  have h2 := (hK.2 j _ hj).2
  cases t with
  | object C => simp at ht
  | _ => exact Option.some.inj (Eq.trans (Eq.symm h2) h1)
def cr_RPlan (σ : cr_S) : Prop := cr_rf σ 0 0 10 ∧ cr_rf σ 0 1 8 ∧ cr_rg σ 2 3
def cr_RBoard (σ : cr_S) : Prop := cr_rg σ 3 8 ∧ cr_rg σ 5 8
def cr_RLocks (σ : cr_S) : Prop := cr_rg σ 1 3 ∧ cr_rg σ 2 8
abbrev cw_Plan (cI cZ cO : ClassId) (a : Nat → Nat) (σ : cr_S) : va_W := [(a 0, .inr (0, [.int (σ 0 0), .int (σ 0 1), .ref (a 1), .ref (a 2), .ref (a 3), .ref (a 4), .ref (a 5)])), (a 1, .inl (cI, 11, .inl (σ 1))), (a 2, .inl (cI, 11, .inl (σ 2))), (a 3, .inl (cI, 9, .inl (σ 3))), (a 4, .inl (cI, 9, .inl (σ 4))), (a 5, .inl (cO, 11, .inr (.inr (.inr (.inr (cr_gr a 6 11)))))), (a 6, .inl (cI, 9, .inl (σ 6))), (a 7, .inl (cI, 9, .inl (σ 7))), (a 8, .inl (cI, 9, .inl (σ 8))), (a 9, .inl (cI, 9, .inl (σ 9))), (a 10, .inl (cI, 9, .inl (σ 10))), (a 11, .inl (cI, 9, .inl (σ 11))), (a 12, .inl (cI, 9, .inl (σ 12))), (a 13, .inl (cI, 9, .inl (σ 13))), (a 14, .inl (cI, 9, .inl (σ 14))), (a 15, .inl (cI, 9, .inl (σ 15))), (a 16, .inl (cI, 9, .inl (σ 16)))]
theorem cg_Plan_6 (cI cZ cO : ClassId) (a : Nat → Nat) (σ : cr_S) : ∀ (k : Nat), k < 11 → (cw_Plan cI cZ cO a σ)[6 + k]? = some (a (6 + k), .inl (cI, 9, .inl (σ (6 + k))))
  | 0, _ => rfl
  | 1, _ => rfl
  | 2, _ => rfl
  | 3, _ => rfl
  | 4, _ => rfl
  | 5, _ => rfl
  | 6, _ => rfl
  | 7, _ => rfl
  | 8, _ => rfl
  | 9, _ => rfl
  | 10, _ => rfl
  | k + 11, h => absurd h (by omega)
theorem cf_Plan_6 (cI cZ cO : ClassId) (a : Nat → Nat) (σ : cr_S) (x : Int32) : ∀ (k : Nat), k < 11 → (cw_Plan cI cZ cO a σ).set (6 + k) (a (6 + k), .inl (cI, 9, .inl (cr_fl (σ (6 + k)) 9 x))) = cw_Plan cI cZ cO a (cr_fill σ (6 + k) 9 x)
  | 0, _ => rfl
  | 1, _ => rfl
  | 2, _ => rfl
  | 3, _ => rfl
  | 4, _ => rfl
  | 5, _ => rfl
  | 6, _ => rfl
  | 7, _ => rfl
  | 8, _ => rfl
  | 9, _ => rfl
  | 10, _ => rfl
  | k + 11, h => absurd h (by omega)
theorem cs_Plan_6 (cI cZ cO : ClassId) (a : Nat → Nat) (σ : cr_S) (j : Nat) (x : Int32) : ∀ (k : Nat), k < 11 → (cw_Plan cI cZ cO a σ).set (6 + k) (a (6 + k), .inl (cI, 9, .inl (upd (σ (6 + k)) j x))) = cw_Plan cI cZ cO a (cr_up σ (6 + k) j x)
  | 0, _ => rfl
  | 1, _ => rfl
  | 2, _ => rfl
  | 3, _ => rfl
  | 4, _ => rfl
  | 5, _ => rfl
  | 6, _ => rfl
  | 7, _ => rfl
  | 8, _ => rfl
  | 9, _ => rfl
  | 10, _ => rfl
  | k + 11, h => absurd h (by omega)
abbrev cw_Board (cI cZ cO : ClassId) (a op : Nat → Nat) (σ : cr_S) : va_W := [(a 0, .inr (1, [.ref (op 0), .ref (a 1), .ref (a 2), .int (σ 0 0), .ref (a 3), .ref (a 4), .ref (a 5)])), (a 1, .inl (cI, 11, .inl (σ 1))), (a 2, .inl (cI, 11, .inl (σ 2))), (a 3, .inl (cI, 11, .inl (σ 3))), (a 4, .inl (cI, 9, .inl (σ 4))), (a 5, .inl (cI, 9, .inl (σ 5)))]
abbrev cw_Locks (cI cZ cO : ClassId) (a : Nat → Nat) (σ : cr_S) : va_W := [(a 0, .inr (2, [.ref (a 1), .ref (a 2), .ref (a 3), .int (σ 0 0)])), (a 1, .inl (cI, 9, .inl (σ 1))), (a 2, .inl (cI, 4, .inl (σ 2))), (a 3, .inl (cI, 4, .inl (σ 3)))]
abbrev cw_Trial (cI cZ cO : ClassId) (a op otb : Nat → Nat) (σ : cr_S) : va_W := [(a 0, .inr (3, [.ref (op 0), .ref (otb 0), .ref (a 1), .ref (a 2), .int (σ 0 0)])), (a 1, .inl (cI, 11, .inl (σ 1))), (a 2, .inl (cO, 11, .inr (.inr (.inr (.inr (cr_gr a 3 11)))))), (a 3, .inl (cI, 11, .inl (σ 3))), (a 4, .inl (cI, 11, .inl (σ 4))), (a 5, .inl (cI, 11, .inl (σ 5))), (a 6, .inl (cI, 11, .inl (σ 6))), (a 7, .inl (cI, 11, .inl (σ 7))), (a 8, .inl (cI, 11, .inl (σ 8))), (a 9, .inl (cI, 11, .inl (σ 9))), (a 10, .inl (cI, 11, .inl (σ 10))), (a 11, .inl (cI, 11, .inl (σ 11))), (a 12, .inl (cI, 11, .inl (σ 12))), (a 13, .inl (cI, 11, .inl (σ 13)))]
theorem cg_Trial_3 (cI cZ cO : ClassId) (a op otb : Nat → Nat) (σ : cr_S) : ∀ (k : Nat), k < 11 → (cw_Trial cI cZ cO a op otb σ)[3 + k]? = some (a (3 + k), .inl (cI, 11, .inl (σ (3 + k))))
  | 0, _ => rfl
  | 1, _ => rfl
  | 2, _ => rfl
  | 3, _ => rfl
  | 4, _ => rfl
  | 5, _ => rfl
  | 6, _ => rfl
  | 7, _ => rfl
  | 8, _ => rfl
  | 9, _ => rfl
  | 10, _ => rfl
  | k + 11, h => absurd h (by omega)
theorem cf_Trial_3 (cI cZ cO : ClassId) (a op otb : Nat → Nat) (σ : cr_S) (x : Int32) : ∀ (k : Nat), k < 11 → (cw_Trial cI cZ cO a op otb σ).set (3 + k) (a (3 + k), .inl (cI, 11, .inl (cr_fl (σ (3 + k)) 11 x))) = cw_Trial cI cZ cO a op otb (cr_fill σ (3 + k) 11 x)
  | 0, _ => rfl
  | 1, _ => rfl
  | 2, _ => rfl
  | 3, _ => rfl
  | 4, _ => rfl
  | 5, _ => rfl
  | 6, _ => rfl
  | 7, _ => rfl
  | 8, _ => rfl
  | 9, _ => rfl
  | 10, _ => rfl
  | k + 11, h => absurd h (by omega)
theorem cs_Trial_3 (cI cZ cO : ClassId) (a op otb : Nat → Nat) (σ : cr_S) (j : Nat) (x : Int32) : ∀ (k : Nat), k < 11 → (cw_Trial cI cZ cO a op otb σ).set (3 + k) (a (3 + k), .inl (cI, 11, .inl (upd (σ (3 + k)) j x))) = cw_Trial cI cZ cO a op otb (cr_up σ (3 + k) j x)
  | 0, _ => rfl
  | 1, _ => rfl
  | 2, _ => rfl
  | 3, _ => rfl
  | 4, _ => rfl
  | 5, _ => rfl
  | 6, _ => rfl
  | 7, _ => rfl
  | 8, _ => rfl
  | 9, _ => rfl
  | 10, _ => rfl
  | k + 11, h => absurd h (by omega)
abbrev cw_Main (cI cZ cO : ClassId) (a op ob ok ot : Nat → Nat) (σ : cr_S) (lt : Int64) : va_W := [(a 0, .inr (4, [.ref (op 0), .ref (ob 0), .ref (ok 0), .ref (ot 0), .ref (a 1), .long lt])), (a 1, .inl (cZ, 11, .inl (σ 1)))]
end
section
theorem tp_0 : Cond.selects "CeilingRows" (⟨"CeilingRows", "perform", "(III)I"⟩ : MethodName) (⟨"CeilingRows", "perform", "(III)I"⟩ : MethodName) ∈ ng_tbl := ng_p 0 rfl rfl
theorem tp_1 : Cond.selects "CeilingRows" (⟨"CeilingRows", "startTask", "(I)I"⟩ : MethodName) (⟨"CeilingRows", "startTask", "(I)I"⟩ : MethodName) ∈ ng_tbl := ng_p 1 rfl rfl
theorem tp_2 : Cond.selects "CeilingRows" (⟨"CeilingRows", "runs", "(I)Z"⟩ : MethodName) (⟨"CeilingRows", "runs", "(I)Z"⟩ : MethodName) ∈ ng_tbl := ng_p 2 rfl rfl
theorem tp_3 : Cond.selects "CeilingRows" (⟨"CeilingRows", "sendEvent", "(I)I"⟩ : MethodName) (⟨"CeilingRows", "sendEvent", "(I)I"⟩ : MethodName) ∈ ng_tbl := ng_p 3 rfl rfl
theorem tp_4 : Cond.selects "CeilingRows" (⟨"CeilingRows", "takeResource", "(II)I"⟩ : MethodName) (⟨"CeilingRows", "takeResource", "(II)I"⟩ : MethodName) ∈ ng_tbl := ng_p 4 rfl rfl
theorem tp_5 : Cond.selects "CeilingRows" (⟨"CeilingRows", "giveBackResource", "(II)I"⟩ : MethodName) (⟨"CeilingRows", "giveBackResource", "(II)I"⟩ : MethodName) ∈ ng_tbl := ng_p 5 rfl rfl
theorem tp_6 : Cond.selects "CeilingRows" (⟨"CeilingRows", "endTask", "(I)I"⟩ : MethodName) (⟨"CeilingRows", "endTask", "(I)I"⟩ : MethodName) ∈ ng_tbl := ng_p 6 rfl rfl
theorem tp_7 : Cond.selects "CeilingRows" (⟨"CeilingRows", "waitForEvent", "(I)I"⟩ : MethodName) (⟨"CeilingRows", "waitForEvent", "(I)I"⟩ : MethodName) ∈ ng_tbl := ng_p 7 rfl rfl
theorem tp_8 : Cond.selects "CeilingRows$Locks" (⟨"CeilingRows$Locks", "lastTakenBy", "(I)I"⟩ : MethodName) (⟨"CeilingRows$Locks", "lastTakenBy", "(I)I"⟩ : MethodName) ∈ ng_tbl := ng_p 8 rfl rfl
theorem tp_9 : Cond.selects "CeilingRows$Locks" (⟨"CeilingRows$Locks", "longestSpinnerFor", "(I)I"⟩ : MethodName) (⟨"CeilingRows$Locks", "longestSpinnerFor", "(I)I"⟩ : MethodName) ∈ ng_tbl := ng_p 9 rfl rfl
theorem tp_10 : Cond.selects "CeilingRows$Trial" (⟨"CeilingRows$Trial", "clear", "()V"⟩ : MethodName) (⟨"CeilingRows$Trial", "clear", "()V"⟩ : MethodName) ∈ ng_tbl := ng_p 10 rfl rfl
theorem tp_11 : Cond.selects "CeilingRows$Trial" (⟨"CeilingRows$Trial", "startThoseDue", "(JI)V"⟩ : MethodName) (⟨"CeilingRows$Trial", "startThoseDue", "(JI)V"⟩ : MethodName) ∈ ng_tbl := ng_p 11 rfl rfl
theorem tp_12 : Cond.selects "CeilingRows$Trial" (⟨"CeilingRows$Trial", "haveTick", "(I)V"⟩ : MethodName) (⟨"CeilingRows$Trial", "haveTick", "(I)V"⟩ : MethodName) ∈ ng_tbl := ng_p 12 rfl rfl
theorem tp_13 : Cond.selects "CeilingRows$Trial" (⟨"CeilingRows$Trial", "resourceAt", "(II)I"⟩ : MethodName) (⟨"CeilingRows$Trial", "resourceAt", "(II)I"⟩ : MethodName) ∈ ng_tbl := ng_p 13 rfl rfl
theorem tp_14 : Cond.selects "CeilingRows$Trial" (⟨"CeilingRows$Trial", "ticksWith", "(II)I"⟩ : MethodName) (⟨"CeilingRows$Trial", "ticksWith", "(II)I"⟩ : MethodName) ∈ ng_tbl := ng_p 14 rfl rfl
theorem tp_15 : Cond.selects "CeilingRows$Trial" (⟨"CeilingRows$Trial", "noteDelays", "(II)V"⟩ : MethodName) (⟨"CeilingRows$Trial", "noteDelays", "(II)V"⟩ : MethodName) ∈ ng_tbl := ng_p 15 rfl rfl
theorem tp_16 : Cond.selects "CeilingRows$Trial" (⟨"CeilingRows$Trial", "ticksOf", "(I)I"⟩ : MethodName) (⟨"CeilingRows$Trial", "ticksOf", "(I)I"⟩ : MethodName) ∈ ng_tbl := ng_p 16 rfl rfl
theorem tp_17 : Cond.selects "CeilingRows$Trial" (⟨"CeilingRows$Trial", "countDelays", "(I)I"⟩ : MethodName) (⟨"CeilingRows$Trial", "countDelays", "(I)I"⟩ : MethodName) ∈ ng_tbl := ng_p 17 rfl rfl
theorem tw_1 : (Jvm.Cond.initialized "CeilingRows") ∈ ng_tbl := ng_t 1 rfl rfl
theorem tw_2 : (Jvm.Cond.initialized "CeilingRows$Plan") ∈ ng_tbl := ng_t 2 rfl rfl
theorem tw_3 : (Jvm.Cond.initialized "CeilingRows$Board") ∈ ng_tbl := ng_t 3 rfl rfl
theorem tw_4 : (Jvm.Cond.initialized "CeilingRows$Locks") ∈ ng_tbl := ng_t 4 rfl rfl
theorem tw_5 : (Jvm.Cond.initialized "CeilingRows$Trial") ∈ ng_tbl := ng_t 5 rfl rfl
theorem tw_7 : (Jvm.Cond.initialized "java/lang/Math") ∈ ng_tbl := ng_t 7 rfl rfl
theorem tw_8 : (Jvm.Cond.initialized "java/util/Arrays") ∈ ng_tbl := ng_t 8 rfl rfl
theorem tw_9 : (Jvm.Cond.initialized "java/lang/Integer") ∈ ng_tbl := ng_t 9 rfl rfl
theorem tw_26 : (Jvm.Cond.fieldLink "CeilingRows$Plan" (29 : Nat) "CeilingRows$Plan" "taskCount" "I") ∈ ng_tbl := ng_t 26 rfl rfl
theorem tw_27 : (Jvm.Cond.fieldLink "CeilingRows$Trial" (40 : Nat) "CeilingRows$Plan" "taskCount" "I") ∈ ng_tbl := ng_t 27 rfl rfl
theorem tw_28 : (Jvm.Cond.fieldLink "CeilingRows" (51 : Nat) "CeilingRows$Plan" "taskCount" "I") ∈ ng_tbl := ng_t 28 rfl rfl
theorem tw_29 : (Jvm.Cond.fieldLink "CeilingRows$Board" (41 : Nat) "CeilingRows$Plan" "taskCount" "I") ∈ ng_tbl := ng_t 29 rfl rfl
theorem tw_30 : (Jvm.Cond.fieldLink "CeilingRows" (59 : Nat) "CeilingRows$Plan" "resourceCount" "I") ∈ ng_tbl := ng_t 30 rfl rfl
theorem tw_31 : (Jvm.Cond.fieldLink "CeilingRows$Plan" (33 : Nat) "CeilingRows$Plan" "resourceCount" "I") ∈ ng_tbl := ng_t 31 rfl rfl
theorem tw_32 : (Jvm.Cond.fieldLink "CeilingRows$Board" (52 : Nat) "CeilingRows$Plan" "resourceCount" "I") ∈ ng_tbl := ng_t 32 rfl rfl
theorem tw_33 : (Jvm.Cond.fieldLink "CeilingRows$Trial" (118 : Nat) "CeilingRows$Plan" "resourceCount" "I") ∈ ng_tbl := ng_t 33 rfl rfl
theorem tw_34 : (Jvm.Cond.fieldLink "CeilingRows$Plan" (9 : Nat) "CeilingRows$Plan" "rankOf" "[I") ∈ ng_tbl := ng_t 34 rfl rfl
theorem tw_35 : (Jvm.Cond.fieldLink "CeilingRows$Board" (49 : Nat) "CeilingRows$Plan" "rankOf" "[I") ∈ ng_tbl := ng_t 35 rfl rfl
theorem tw_36 : (Jvm.Cond.fieldLink "CeilingRows$Plan" (15 : Nat) "CeilingRows$Plan" "coreOf" "[I") ∈ ng_tbl := ng_t 36 rfl rfl
theorem tw_37 : (Jvm.Cond.fieldLink "CeilingRows$Board" (46 : Nat) "CeilingRows$Plan" "coreOf" "[I") ∈ ng_tbl := ng_t 37 rfl rfl
theorem tw_38 : (Jvm.Cond.fieldLink "CeilingRows" (74 : Nat) "CeilingRows$Plan" "coreOf" "[I") ∈ ng_tbl := ng_t 38 rfl rfl
theorem tw_39 : (Jvm.Cond.fieldLink "CeilingRows$Plan" (18 : Nat) "CeilingRows$Plan" "ceilingOf" "[I") ∈ ng_tbl := ng_t 39 rfl rfl
theorem tw_40 : (Jvm.Cond.fieldLink "CeilingRows" (92 : Nat) "CeilingRows$Plan" "ceilingOf" "[I") ∈ ng_tbl := ng_t 40 rfl rfl
theorem tw_41 : (Jvm.Cond.fieldLink "CeilingRows$Board" (55 : Nat) "CeilingRows$Plan" "ceilingOf" "[I") ∈ ng_tbl := ng_t 41 rfl rfl
theorem tw_42 : (Jvm.Cond.fieldLink "CeilingRows$Plan" (21 : Nat) "CeilingRows$Plan" "userCoreOf" "[I") ∈ ng_tbl := ng_t 42 rfl rfl
theorem tw_43 : (Jvm.Cond.fieldLink "CeilingRows$Plan" (26 : Nat) "CeilingRows$Plan" "lengthOf" "[[I") ∈ ng_tbl := ng_t 43 rfl rfl
theorem tw_44 : (Jvm.Cond.fieldLink "CeilingRows$Trial" (112 : Nat) "CeilingRows$Plan" "lengthOf" "[[I") ∈ ng_tbl := ng_t 44 rfl rfl
theorem tw_67 : (Jvm.Cond.fieldLink "CeilingRows$Board" (27 : Nat) "CeilingRows$Board" "plan" "LCeilingRows$Plan;") ∈ ng_tbl := ng_t 67 rfl rfl
theorem tw_68 : (Jvm.Cond.fieldLink "CeilingRows$Board" (9 : Nat) "CeilingRows$Board" "stateOf" "[I") ∈ ng_tbl := ng_t 68 rfl rfl
theorem tw_69 : (Jvm.Cond.fieldLink "CeilingRows$Trial" (100 : Nat) "CeilingRows$Board" "stateOf" "[I") ∈ ng_tbl := ng_t 69 rfl rfl
theorem tw_70 : (Jvm.Cond.fieldLink "CeilingRows" (143 : Nat) "CeilingRows$Board" "stateOf" "[I") ∈ ng_tbl := ng_t 70 rfl rfl
theorem tw_71 : (Jvm.Cond.fieldLink "CeilingRows$Board" (15 : Nat) "CeilingRows$Board" "readyOrderOf" "[I") ∈ ng_tbl := ng_t 71 rfl rfl
theorem tw_72 : (Jvm.Cond.fieldLink "CeilingRows$Board" (37 : Nat) "CeilingRows$Board" "readyOrder" "I") ∈ ng_tbl := ng_t 72 rfl rfl
theorem tw_73 : (Jvm.Cond.fieldLink "CeilingRows$Board" (18 : Nat) "CeilingRows$Board" "lastTakenBy" "[I") ∈ ng_tbl := ng_t 73 rfl rfl
theorem tw_74 : (Jvm.Cond.fieldLink "CeilingRows" (169 : Nat) "CeilingRows$Board" "lastTakenBy" "[I") ∈ ng_tbl := ng_t 74 rfl rfl
theorem tw_75 : (Jvm.Cond.fieldLink "CeilingRows$Board" (21 : Nat) "CeilingRows$Board" "holderOf" "[I") ∈ ng_tbl := ng_t 75 rfl rfl
theorem tw_76 : (Jvm.Cond.fieldLink "CeilingRows$Trial" (81 : Nat) "CeilingRows$Board" "holderOf" "[I") ∈ ng_tbl := ng_t 76 rfl rfl
theorem tw_77 : (Jvm.Cond.fieldLink "CeilingRows" (105 : Nat) "CeilingRows$Board" "holderOf" "[I") ∈ ng_tbl := ng_t 77 rfl rfl
theorem tw_78 : (Jvm.Cond.fieldLink "CeilingRows$Board" (24 : Nat) "CeilingRows$Board" "takenBefore" "[I") ∈ ng_tbl := ng_t 78 rfl rfl
theorem tw_100 : (Jvm.Cond.fieldLink "CeilingRows$Locks" (9 : Nat) "CeilingRows$Locks" "ownerOf" "[I") ∈ ng_tbl := ng_t 100 rfl rfl
theorem tw_101 : (Jvm.Cond.fieldLink "CeilingRows$Locks" (15 : Nat) "CeilingRows$Locks" "wantedBy" "[I") ∈ ng_tbl := ng_t 101 rfl rfl
theorem tw_102 : (Jvm.Cond.fieldLink "CeilingRows$Locks" (18 : Nat) "CeilingRows$Locks" "spinOrderOf" "[I") ∈ ng_tbl := ng_t 102 rfl rfl
theorem tw_103 : (Jvm.Cond.fieldLink "CeilingRows$Locks" (25 : Nat) "CeilingRows$Locks" "spinOrder" "I") ∈ ng_tbl := ng_t 103 rfl rfl
theorem tw_122 : (Jvm.Cond.fieldLink "CeilingRows$Trial" (20 : Nat) "CeilingRows$Trial" "plan" "LCeilingRows$Plan;") ∈ ng_tbl := ng_t 122 rfl rfl
theorem tw_123 : (Jvm.Cond.fieldLink "CeilingRows$Trial" (29 : Nat) "CeilingRows$Trial" "board" "LCeilingRows$Board;") ∈ ng_tbl := ng_t 123 rfl rfl
theorem tw_124 : (Jvm.Cond.fieldLink "CeilingRows$Trial" (9 : Nat) "CeilingRows$Trial" "ticksHad" "[I") ∈ ng_tbl := ng_t 124 rfl rfl
theorem tw_125 : (Jvm.Cond.fieldLink "CeilingRows$Trial" (17 : Nat) "CeilingRows$Trial" "delays" "[[I") ∈ ng_tbl := ng_t 125 rfl rfl
theorem tw_126 : (Jvm.Cond.fieldLink "CeilingRows$Trial" (36 : Nat) "CeilingRows$Trial" "endedCount" "I") ∈ ng_tbl := ng_t 126 rfl rfl
theorem tw_138 : (Jvm.Cond.fieldLink "CeilingRows" (12 : Nat) "CeilingRows" "plan" "LCeilingRows$Plan;") ∈ ng_tbl := ng_t 138 rfl rfl
theorem tw_139 : (Jvm.Cond.fieldLink "CeilingRows" (21 : Nat) "CeilingRows" "board" "LCeilingRows$Board;") ∈ ng_tbl := ng_t 139 rfl rfl
theorem tw_140 : (Jvm.Cond.fieldLink "CeilingRows" (28 : Nat) "CeilingRows" "locks" "LCeilingRows$Locks;") ∈ ng_tbl := ng_t 140 rfl rfl
theorem tw_141 : (Jvm.Cond.fieldLink "CeilingRows" (35 : Nat) "CeilingRows" "trial" "LCeilingRows$Trial;") ∈ ng_tbl := ng_t 141 rfl rfl
theorem tw_142 : (Jvm.Cond.fieldLink "CeilingRows" (39 : Nat) "CeilingRows" "eventKept" "[Z") ∈ ng_tbl := ng_t 142 rfl rfl
theorem tw_143 : (Jvm.Cond.fieldLink "CeilingRows" (43 : Nat) "CeilingRows" "latestTime" "J") ∈ ng_tbl := ng_t 143 rfl rfl
theorem tw_162 : (Jvm.Cond.methodLink "CeilingRows" (47 : Nat) ({ cls := "CeilingRows", name := "isCore", desc := "(I)Z" } : Jvm.MethodName)) ∈ ng_tbl := ng_t 162 rfl rfl
theorem tw_163 : (Jvm.Cond.static ({ cls := "CeilingRows", name := "isCore", desc := "(I)Z" } : Jvm.MethodName)) ∈ ng_tbl := ng_t 163 rfl rfl
theorem tw_164 : (Jvm.Cond.code ({ cls := "CeilingRows", name := "isCore", desc := "(I)Z" } : Jvm.MethodName) prog_1_method_14_code (1 : Nat) (Option.some Jvm.ClassFile.FieldType.boolean)) ∈ ng_tbl := ng_t 164 rfl rfl
theorem tw_165 : (Jvm.Cond.methodLink "CeilingRows" (55 : Nat) ({ cls := "CeilingRows$Plan", name := "addTask", desc := "(II)I" } : Jvm.MethodName)) ∈ ng_tbl := ng_t 165 rfl rfl
theorem tw_166 : (Jvm.Cond.instanceMethod ({ cls := "CeilingRows$Plan", name := "addTask", desc := "(II)I" } : Jvm.MethodName)) ∈ ng_tbl := ng_t 166 rfl rfl
theorem tw_167 : (Jvm.Cond.selects "CeilingRows$Plan" ({ cls := "CeilingRows$Plan", name := "addTask", desc := "(II)I" } : Jvm.MethodName) ({ cls := "CeilingRows$Plan", name := "addTask", desc := "(II)I" } : Jvm.MethodName)) ∈ ng_tbl := ng_t 167 rfl rfl
theorem tw_168 : (Jvm.Cond.code ({ cls := "CeilingRows$Plan", name := "addTask", desc := "(II)I" } : Jvm.MethodName) prog_4_method_4_code (3 : Nat) (Option.some Jvm.ClassFile.FieldType.int)) ∈ ng_tbl := ng_t 168 rfl rfl
theorem tw_173 : (Jvm.Cond.methodLink "CeilingRows" (62 : Nat) ({ cls := "CeilingRows$Plan", name := "addResource", desc := "()I" } : Jvm.MethodName)) ∈ ng_tbl := ng_t 173 rfl rfl
theorem tw_174 : (Jvm.Cond.instanceMethod ({ cls := "CeilingRows$Plan", name := "addResource", desc := "()I" } : Jvm.MethodName)) ∈ ng_tbl := ng_t 174 rfl rfl
theorem tw_175 : (Jvm.Cond.selects "CeilingRows$Plan" ({ cls := "CeilingRows$Plan", name := "addResource", desc := "()I" } : Jvm.MethodName) ({ cls := "CeilingRows$Plan", name := "addResource", desc := "()I" } : Jvm.MethodName)) ∈ ng_tbl := ng_t 175 rfl rfl
theorem tw_176 : (Jvm.Cond.code ({ cls := "CeilingRows$Plan", name := "addResource", desc := "()I" } : Jvm.MethodName) prog_4_method_5_code (1 : Nat) (Option.some Jvm.ClassFile.FieldType.int)) ∈ ng_tbl := ng_t 176 rfl rfl
theorem tw_181 : (Jvm.Cond.methodLink "CeilingRows" (66 : Nat) ({ cls := "CeilingRows$Plan", name := "hasTask", desc := "(I)Z" } : Jvm.MethodName)) ∈ ng_tbl := ng_t 181 rfl rfl
theorem tw_182 : (Jvm.Cond.instanceMethod ({ cls := "CeilingRows$Plan", name := "hasTask", desc := "(I)Z" } : Jvm.MethodName)) ∈ ng_tbl := ng_t 182 rfl rfl
theorem tw_183 : (Jvm.Cond.selects "CeilingRows$Plan" ({ cls := "CeilingRows$Plan", name := "hasTask", desc := "(I)Z" } : Jvm.MethodName) ({ cls := "CeilingRows$Plan", name := "hasTask", desc := "(I)Z" } : Jvm.MethodName)) ∈ ng_tbl := ng_t 183 rfl rfl
theorem tw_184 : (Jvm.Cond.code ({ cls := "CeilingRows$Plan", name := "hasTask", desc := "(I)Z" } : Jvm.MethodName) prog_4_method_2_code (2 : Nat) (Option.some Jvm.ClassFile.FieldType.boolean)) ∈ ng_tbl := ng_t 184 rfl rfl
theorem tw_185 : (Jvm.Cond.methodLink "CeilingRows" (69 : Nat) ({ cls := "CeilingRows$Plan", name := "hasResource", desc := "(I)Z" } : Jvm.MethodName)) ∈ ng_tbl := ng_t 185 rfl rfl
theorem tw_186 : (Jvm.Cond.instanceMethod ({ cls := "CeilingRows$Plan", name := "hasResource", desc := "(I)Z" } : Jvm.MethodName)) ∈ ng_tbl := ng_t 186 rfl rfl
theorem tw_187 : (Jvm.Cond.selects "CeilingRows$Plan" ({ cls := "CeilingRows$Plan", name := "hasResource", desc := "(I)Z" } : Jvm.MethodName) ({ cls := "CeilingRows$Plan", name := "hasResource", desc := "(I)Z" } : Jvm.MethodName)) ∈ ng_tbl := ng_t 187 rfl rfl
theorem tw_188 : (Jvm.Cond.code ({ cls := "CeilingRows$Plan", name := "hasResource", desc := "(I)Z" } : Jvm.MethodName) prog_4_method_3_code (2 : Nat) (Option.some Jvm.ClassFile.FieldType.boolean)) ∈ ng_tbl := ng_t 188 rfl rfl
theorem tw_189 : (Jvm.Cond.constantLong "CeilingRows" (72 : Nat) (1000 : Int64)) ∈ ng_tbl := ng_t 189 rfl rfl
theorem tw_190 : (Jvm.Cond.methodLink "CeilingRows" (78 : Nat) ({ cls := "CeilingRows$Board", name := "allSleepOn", desc := "(I)Z" } : Jvm.MethodName)) ∈ ng_tbl := ng_t 190 rfl rfl
theorem tw_191 : (Jvm.Cond.instanceMethod ({ cls := "CeilingRows$Board", name := "allSleepOn", desc := "(I)Z" } : Jvm.MethodName)) ∈ ng_tbl := ng_t 191 rfl rfl
theorem tw_192 : (Jvm.Cond.selects "CeilingRows$Board" ({ cls := "CeilingRows$Board", name := "allSleepOn", desc := "(I)Z" } : Jvm.MethodName) ({ cls := "CeilingRows$Board", name := "allSleepOn", desc := "(I)Z" } : Jvm.MethodName)) ∈ ng_tbl := ng_t 192 rfl rfl
theorem tw_193 : (Jvm.Cond.code ({ cls := "CeilingRows$Board", name := "allSleepOn", desc := "(I)Z" } : Jvm.MethodName) prog_2_method_3_code (3 : Nat) (Option.some Jvm.ClassFile.FieldType.boolean)) ∈ ng_tbl := ng_t 193 rfl rfl
theorem tw_194 : (Jvm.Cond.methodLink "CeilingRows" (81 : Nat) ({ cls := "CeilingRows$Plan", name := "isUsedByAnotherCore", desc := "(II)Z" } : Jvm.MethodName)) ∈ ng_tbl := ng_t 194 rfl rfl
theorem tw_195 : (Jvm.Cond.instanceMethod ({ cls := "CeilingRows$Plan", name := "isUsedByAnotherCore", desc := "(II)Z" } : Jvm.MethodName)) ∈ ng_tbl := ng_t 195 rfl rfl
theorem tw_196 : (Jvm.Cond.selects "CeilingRows$Plan" ({ cls := "CeilingRows$Plan", name := "isUsedByAnotherCore", desc := "(II)Z" } : Jvm.MethodName) ({ cls := "CeilingRows$Plan", name := "isUsedByAnotherCore", desc := "(II)Z" } : Jvm.MethodName)) ∈ ng_tbl := ng_t 196 rfl rfl
theorem tw_197 : (Jvm.Cond.code ({ cls := "CeilingRows$Plan", name := "isUsedByAnotherCore", desc := "(II)Z" } : Jvm.MethodName) prog_4_method_7_code (3 : Nat) (Option.some Jvm.ClassFile.FieldType.boolean)) ∈ ng_tbl := ng_t 197 rfl rfl
theorem tw_198 : (Jvm.Cond.methodLink "CeilingRows" (85 : Nat) ({ cls := "CeilingRows$Plan", name := "isUsedBy", desc := "(II)Z" } : Jvm.MethodName)) ∈ ng_tbl := ng_t 198 rfl rfl
theorem tw_199 : (Jvm.Cond.instanceMethod ({ cls := "CeilingRows$Plan", name := "isUsedBy", desc := "(II)Z" } : Jvm.MethodName)) ∈ ng_tbl := ng_t 199 rfl rfl
theorem tw_200 : (Jvm.Cond.selects "CeilingRows$Plan" ({ cls := "CeilingRows$Plan", name := "isUsedBy", desc := "(II)Z" } : Jvm.MethodName) ({ cls := "CeilingRows$Plan", name := "isUsedBy", desc := "(II)Z" } : Jvm.MethodName)) ∈ ng_tbl := ng_t 200 rfl rfl
theorem tw_201 : (Jvm.Cond.code ({ cls := "CeilingRows$Plan", name := "isUsedBy", desc := "(II)Z" } : Jvm.MethodName) prog_4_method_6_code (3 : Nat) (Option.some Jvm.ClassFile.FieldType.boolean)) ∈ ng_tbl := ng_t 201 rfl rfl
theorem tw_202 : (Jvm.Cond.methodLink "CeilingRows" (88 : Nat) ({ cls := "CeilingRows$Plan", name := "setUse", desc := "(III)V" } : Jvm.MethodName)) ∈ ng_tbl := ng_t 202 rfl rfl
theorem tw_203 : (Jvm.Cond.instanceMethod ({ cls := "CeilingRows$Plan", name := "setUse", desc := "(III)V" } : Jvm.MethodName)) ∈ ng_tbl := ng_t 203 rfl rfl
theorem tw_204 : (Jvm.Cond.selects "CeilingRows$Plan" ({ cls := "CeilingRows$Plan", name := "setUse", desc := "(III)V" } : Jvm.MethodName) ({ cls := "CeilingRows$Plan", name := "setUse", desc := "(III)V" } : Jvm.MethodName)) ∈ ng_tbl := ng_t 204 rfl rfl
theorem tw_205 : (Jvm.Cond.code ({ cls := "CeilingRows$Plan", name := "setUse", desc := "(III)V" } : Jvm.MethodName) prog_4_method_8_code (4 : Nat) (Option.none : Option Jvm.ClassFile.FieldType)) ∈ ng_tbl := ng_t 205 rfl rfl
theorem tw_206 : (Jvm.Cond.methodLink "CeilingRows$Plan" (36 : Nat) ({ cls := "java/lang/Math", name := "max", desc := "(II)I" } : Jvm.MethodName)) ∈ ng_tbl := ng_t 206 rfl rfl
theorem tw_207 : (Jvm.Cond.static ({ cls := "java/lang/Math", name := "max", desc := "(II)I" } : Jvm.MethodName)) ∈ ng_tbl := ng_t 207 rfl rfl
theorem tw_208 : (Jvm.Cond.code ({ cls := "java/lang/Math", name := "max", desc := "(II)I" } : Jvm.MethodName) prog_9_method_65_code (2 : Nat) (Option.some Jvm.ClassFile.FieldType.int)) ∈ ng_tbl := ng_t 208 rfl rfl
theorem tw_217 : (Jvm.Cond.constantLong "CeilingRows" (95 : Nat) (1000000000 : Int64)) ∈ ng_tbl := ng_t 217 rfl rfl
theorem tw_218 : (Jvm.Cond.methodLink "CeilingRows" (97 : Nat) ({ cls := "CeilingRows", name := "perform", desc := "(III)I" } : Jvm.MethodName)) ∈ ng_tbl := ng_t 218 rfl rfl
theorem tw_220 : (Jvm.Cond.instanceMethod ({ cls := "CeilingRows", name := "perform", desc := "(III)I" } : Jvm.MethodName)) ∈ ng_tbl := ng_t 220 rfl rfl
theorem tw_221 : (Jvm.Cond.code ({ cls := "CeilingRows", name := "perform", desc := "(III)I" } : Jvm.MethodName) prog_1_method_16_code (4 : Nat) (Option.some Jvm.ClassFile.FieldType.int)) ∈ ng_tbl := ng_t 221 rfl rfl
theorem tw_222 : (Jvm.Cond.methodLink "CeilingRows" (137 : Nat) ({ cls := "CeilingRows", name := "startTask", desc := "(I)I" } : Jvm.MethodName)) ∈ ng_tbl := ng_t 222 rfl rfl
theorem tw_224 : (Jvm.Cond.instanceMethod ({ cls := "CeilingRows", name := "startTask", desc := "(I)I" } : Jvm.MethodName)) ∈ ng_tbl := ng_t 224 rfl rfl
theorem tw_225 : (Jvm.Cond.code ({ cls := "CeilingRows", name := "startTask", desc := "(I)I" } : Jvm.MethodName) prog_1_method_17_code (2 : Nat) (Option.some Jvm.ClassFile.FieldType.int)) ∈ ng_tbl := ng_t 225 rfl rfl
theorem tw_226 : (Jvm.Cond.methodLink "CeilingRows" (161 : Nat) ({ cls := "CeilingRows$Board", name := "makeReady", desc := "(I)V" } : Jvm.MethodName)) ∈ ng_tbl := ng_t 226 rfl rfl
theorem tw_227 : (Jvm.Cond.instanceMethod ({ cls := "CeilingRows$Board", name := "makeReady", desc := "(I)V" } : Jvm.MethodName)) ∈ ng_tbl := ng_t 227 rfl rfl
theorem tw_228 : (Jvm.Cond.selects "CeilingRows$Board" ({ cls := "CeilingRows$Board", name := "makeReady", desc := "(I)V" } : Jvm.MethodName) ({ cls := "CeilingRows$Board", name := "makeReady", desc := "(I)V" } : Jvm.MethodName)) ∈ ng_tbl := ng_t 228 rfl rfl
theorem tw_229 : (Jvm.Cond.code ({ cls := "CeilingRows$Board", name := "makeReady", desc := "(I)V" } : Jvm.MethodName) prog_2_method_4_code (2 : Nat) (Option.none : Option Jvm.ClassFile.FieldType)) ∈ ng_tbl := ng_t 229 rfl rfl
theorem tw_230 : (Jvm.Cond.methodLink "CeilingRows" (146 : Nat) ({ cls := "CeilingRows", name := "runs", desc := "(I)Z" } : Jvm.MethodName)) ∈ ng_tbl := ng_t 230 rfl rfl
theorem tw_232 : (Jvm.Cond.instanceMethod ({ cls := "CeilingRows", name := "runs", desc := "(I)Z" } : Jvm.MethodName)) ∈ ng_tbl := ng_t 232 rfl rfl
theorem tw_233 : (Jvm.Cond.code ({ cls := "CeilingRows", name := "runs", desc := "(I)Z" } : Jvm.MethodName) prog_1_method_15_code (3 : Nat) (Option.some Jvm.ClassFile.FieldType.boolean)) ∈ ng_tbl := ng_t 233 rfl rfl
theorem tw_234 : (Jvm.Cond.methodLink "CeilingRows" (118 : Nat) ({ cls := "CeilingRows$Locks", name := "spins", desc := "(I)Z" } : Jvm.MethodName)) ∈ ng_tbl := ng_t 234 rfl rfl
theorem tw_235 : (Jvm.Cond.instanceMethod ({ cls := "CeilingRows$Locks", name := "spins", desc := "(I)Z" } : Jvm.MethodName)) ∈ ng_tbl := ng_t 235 rfl rfl
theorem tw_236 : (Jvm.Cond.selects "CeilingRows$Locks" ({ cls := "CeilingRows$Locks", name := "spins", desc := "(I)Z" } : Jvm.MethodName) ({ cls := "CeilingRows$Locks", name := "spins", desc := "(I)Z" } : Jvm.MethodName)) ∈ ng_tbl := ng_t 236 rfl rfl
theorem tw_237 : (Jvm.Cond.code ({ cls := "CeilingRows$Locks", name := "spins", desc := "(I)Z" } : Jvm.MethodName) prog_3_method_2_code (2 : Nat) (Option.some Jvm.ClassFile.FieldType.boolean)) ∈ ng_tbl := ng_t 237 rfl rfl
theorem tw_238 : (Jvm.Cond.methodLink "CeilingRows" (134 : Nat) ({ cls := "CeilingRows$Board", name := "firstOn", desc := "(I)I" } : Jvm.MethodName)) ∈ ng_tbl := ng_t 238 rfl rfl
theorem tw_239 : (Jvm.Cond.instanceMethod ({ cls := "CeilingRows$Board", name := "firstOn", desc := "(I)I" } : Jvm.MethodName)) ∈ ng_tbl := ng_t 239 rfl rfl
theorem tw_240 : (Jvm.Cond.selects "CeilingRows$Board" ({ cls := "CeilingRows$Board", name := "firstOn", desc := "(I)I" } : Jvm.MethodName) ({ cls := "CeilingRows$Board", name := "firstOn", desc := "(I)I" } : Jvm.MethodName)) ∈ ng_tbl := ng_t 240 rfl rfl
theorem tw_241 : (Jvm.Cond.code ({ cls := "CeilingRows$Board", name := "firstOn", desc := "(I)I" } : Jvm.MethodName) prog_2_method_7_code (7 : Nat) (Option.some Jvm.ClassFile.FieldType.int)) ∈ ng_tbl := ng_t 241 rfl rfl
theorem tw_242 : (Jvm.Cond.methodLink "CeilingRows$Board" (64 : Nat) ({ cls := "CeilingRows$Board", name := "rankNow", desc := "(I)I" } : Jvm.MethodName)) ∈ ng_tbl := ng_t 242 rfl rfl
theorem tw_243 : (Jvm.Cond.instanceMethod ({ cls := "CeilingRows$Board", name := "rankNow", desc := "(I)I" } : Jvm.MethodName)) ∈ ng_tbl := ng_t 243 rfl rfl
theorem tw_244 : (Jvm.Cond.selects "CeilingRows$Board" ({ cls := "CeilingRows$Board", name := "rankNow", desc := "(I)I" } : Jvm.MethodName) ({ cls := "CeilingRows$Board", name := "rankNow", desc := "(I)I" } : Jvm.MethodName)) ∈ ng_tbl := ng_t 244 rfl rfl
theorem tw_245 : (Jvm.Cond.code ({ cls := "CeilingRows$Board", name := "rankNow", desc := "(I)I" } : Jvm.MethodName) prog_2_method_6_code (4 : Nat) (Option.some Jvm.ClassFile.FieldType.int)) ∈ ng_tbl := ng_t 245 rfl rfl
theorem tw_246 : (Jvm.Cond.methodLink "CeilingRows$Board" (58 : Nat) ({ cls := "java/lang/Math", name := "max", desc := "(II)I" } : Jvm.MethodName)) ∈ ng_tbl := ng_t 246 rfl rfl
theorem tw_247 : (Jvm.Cond.methodLink "CeilingRows" (140 : Nat) ({ cls := "CeilingRows", name := "sendEvent", desc := "(I)I" } : Jvm.MethodName)) ∈ ng_tbl := ng_t 247 rfl rfl
theorem tw_249 : (Jvm.Cond.instanceMethod ({ cls := "CeilingRows", name := "sendEvent", desc := "(I)I" } : Jvm.MethodName)) ∈ ng_tbl := ng_t 249 rfl rfl
theorem tw_250 : (Jvm.Cond.code ({ cls := "CeilingRows", name := "sendEvent", desc := "(I)I" } : Jvm.MethodName) prog_1_method_18_code (2 : Nat) (Option.some Jvm.ClassFile.FieldType.int)) ∈ ng_tbl := ng_t 250 rfl rfl
theorem tw_251 : (Jvm.Cond.methodLink "CeilingRows" (149 : Nat) ({ cls := "CeilingRows", name := "takeResource", desc := "(II)I" } : Jvm.MethodName)) ∈ ng_tbl := ng_t 251 rfl rfl
theorem tw_253 : (Jvm.Cond.instanceMethod ({ cls := "CeilingRows", name := "takeResource", desc := "(II)I" } : Jvm.MethodName)) ∈ ng_tbl := ng_t 253 rfl rfl
theorem tw_254 : (Jvm.Cond.code ({ cls := "CeilingRows", name := "takeResource", desc := "(II)I" } : Jvm.MethodName) prog_1_method_19_code (3 : Nat) (Option.some Jvm.ClassFile.FieldType.int)) ∈ ng_tbl := ng_t 254 rfl rfl
theorem tw_255 : (Jvm.Cond.methodLink "CeilingRows" (165 : Nat) ({ cls := "CeilingRows$Board", name := "take", desc := "(II)V" } : Jvm.MethodName)) ∈ ng_tbl := ng_t 255 rfl rfl
theorem tw_256 : (Jvm.Cond.instanceMethod ({ cls := "CeilingRows$Board", name := "take", desc := "(II)V" } : Jvm.MethodName)) ∈ ng_tbl := ng_t 256 rfl rfl
theorem tw_257 : (Jvm.Cond.selects "CeilingRows$Board" ({ cls := "CeilingRows$Board", name := "take", desc := "(II)V" } : Jvm.MethodName) ({ cls := "CeilingRows$Board", name := "take", desc := "(II)V" } : Jvm.MethodName)) ∈ ng_tbl := ng_t 257 rfl rfl
theorem tw_258 : (Jvm.Cond.code ({ cls := "CeilingRows$Board", name := "take", desc := "(II)V" } : Jvm.MethodName) prog_2_method_8_code (3 : Nat) (Option.none : Option Jvm.ClassFile.FieldType)) ∈ ng_tbl := ng_t 258 rfl rfl
theorem tw_259 : (Jvm.Cond.methodLink "CeilingRows" (152 : Nat) ({ cls := "CeilingRows", name := "giveBackResource", desc := "(II)I" } : Jvm.MethodName)) ∈ ng_tbl := ng_t 259 rfl rfl
theorem tw_261 : (Jvm.Cond.instanceMethod ({ cls := "CeilingRows", name := "giveBackResource", desc := "(II)I" } : Jvm.MethodName)) ∈ ng_tbl := ng_t 261 rfl rfl
theorem tw_262 : (Jvm.Cond.code ({ cls := "CeilingRows", name := "giveBackResource", desc := "(II)I" } : Jvm.MethodName) prog_1_method_20_code (3 : Nat) (Option.some Jvm.ClassFile.FieldType.int)) ∈ ng_tbl := ng_t 262 rfl rfl
theorem tw_263 : (Jvm.Cond.methodLink "CeilingRows" (172 : Nat) ({ cls := "CeilingRows$Board", name := "giveBackLast", desc := "(I)V" } : Jvm.MethodName)) ∈ ng_tbl := ng_t 263 rfl rfl
theorem tw_264 : (Jvm.Cond.instanceMethod ({ cls := "CeilingRows$Board", name := "giveBackLast", desc := "(I)V" } : Jvm.MethodName)) ∈ ng_tbl := ng_t 264 rfl rfl
theorem tw_265 : (Jvm.Cond.selects "CeilingRows$Board" ({ cls := "CeilingRows$Board", name := "giveBackLast", desc := "(I)V" } : Jvm.MethodName) ({ cls := "CeilingRows$Board", name := "giveBackLast", desc := "(I)V" } : Jvm.MethodName)) ∈ ng_tbl := ng_t 265 rfl rfl
theorem tw_266 : (Jvm.Cond.code ({ cls := "CeilingRows$Board", name := "giveBackLast", desc := "(I)V" } : Jvm.MethodName) prog_2_method_9_code (3 : Nat) (Option.none : Option Jvm.ClassFile.FieldType)) ∈ ng_tbl := ng_t 266 rfl rfl
theorem tw_267 : (Jvm.Cond.methodLink "CeilingRows" (155 : Nat) ({ cls := "CeilingRows", name := "endTask", desc := "(I)I" } : Jvm.MethodName)) ∈ ng_tbl := ng_t 267 rfl rfl
theorem tw_269 : (Jvm.Cond.instanceMethod ({ cls := "CeilingRows", name := "endTask", desc := "(I)I" } : Jvm.MethodName)) ∈ ng_tbl := ng_t 269 rfl rfl
theorem tw_270 : (Jvm.Cond.code ({ cls := "CeilingRows", name := "endTask", desc := "(I)I" } : Jvm.MethodName) prog_1_method_21_code (3 : Nat) (Option.some Jvm.ClassFile.FieldType.int)) ∈ ng_tbl := ng_t 270 rfl rfl
theorem tw_271 : (Jvm.Cond.methodLink "CeilingRows" (175 : Nat) ({ cls := "CeilingRows$Board", name := "holdsAny", desc := "(I)Z" } : Jvm.MethodName)) ∈ ng_tbl := ng_t 271 rfl rfl
theorem tw_272 : (Jvm.Cond.instanceMethod ({ cls := "CeilingRows$Board", name := "holdsAny", desc := "(I)Z" } : Jvm.MethodName)) ∈ ng_tbl := ng_t 272 rfl rfl
theorem tw_273 : (Jvm.Cond.selects "CeilingRows$Board" ({ cls := "CeilingRows$Board", name := "holdsAny", desc := "(I)Z" } : Jvm.MethodName) ({ cls := "CeilingRows$Board", name := "holdsAny", desc := "(I)Z" } : Jvm.MethodName)) ∈ ng_tbl := ng_t 273 rfl rfl
theorem tw_274 : (Jvm.Cond.code ({ cls := "CeilingRows$Board", name := "holdsAny", desc := "(I)Z" } : Jvm.MethodName) prog_2_method_5_code (2 : Nat) (Option.some Jvm.ClassFile.FieldType.boolean)) ∈ ng_tbl := ng_t 274 rfl rfl
theorem tw_275 : (Jvm.Cond.methodLink "CeilingRows" (178 : Nat) ({ cls := "CeilingRows$Board", name := "putToSleep", desc := "(I)V" } : Jvm.MethodName)) ∈ ng_tbl := ng_t 275 rfl rfl
theorem tw_276 : (Jvm.Cond.instanceMethod ({ cls := "CeilingRows$Board", name := "putToSleep", desc := "(I)V" } : Jvm.MethodName)) ∈ ng_tbl := ng_t 276 rfl rfl
theorem tw_277 : (Jvm.Cond.selects "CeilingRows$Board" ({ cls := "CeilingRows$Board", name := "putToSleep", desc := "(I)V" } : Jvm.MethodName) ({ cls := "CeilingRows$Board", name := "putToSleep", desc := "(I)V" } : Jvm.MethodName)) ∈ ng_tbl := ng_t 277 rfl rfl
theorem tw_278 : (Jvm.Cond.code ({ cls := "CeilingRows$Board", name := "putToSleep", desc := "(I)V" } : Jvm.MethodName) prog_2_method_10_code (3 : Nat) (Option.none : Option Jvm.ClassFile.FieldType)) ∈ ng_tbl := ng_t 278 rfl rfl
theorem tw_279 : (Jvm.Cond.methodLink "CeilingRows$Board" (68 : Nat) ({ cls := "CeilingRows$Board", name := "holdsAny", desc := "(I)Z" } : Jvm.MethodName)) ∈ ng_tbl := ng_t 279 rfl rfl
theorem tw_280 : (Jvm.Cond.methodLink "CeilingRows$Board" (72 : Nat) ({ cls := "CeilingRows$Board", name := "giveBackLast", desc := "(I)V" } : Jvm.MethodName)) ∈ ng_tbl := ng_t 280 rfl rfl
theorem tw_281 : (Jvm.Cond.methodLink "CeilingRows" (158 : Nat) ({ cls := "CeilingRows", name := "waitForEvent", desc := "(I)I" } : Jvm.MethodName)) ∈ ng_tbl := ng_t 281 rfl rfl
theorem tw_283 : (Jvm.Cond.instanceMethod ({ cls := "CeilingRows", name := "waitForEvent", desc := "(I)I" } : Jvm.MethodName)) ∈ ng_tbl := ng_t 283 rfl rfl
theorem tw_284 : (Jvm.Cond.code ({ cls := "CeilingRows", name := "waitForEvent", desc := "(I)I" } : Jvm.MethodName) prog_1_method_22_code (2 : Nat) (Option.some Jvm.ClassFile.FieldType.int)) ∈ ng_tbl := ng_t 284 rfl rfl
theorem tw_289 : (Jvm.Cond.methodLink "CeilingRows" (101 : Nat) ({ cls := "CeilingRows$Board", name := "rankNow", desc := "(I)I" } : Jvm.MethodName)) ∈ ng_tbl := ng_t 289 rfl rfl
theorem tw_298 : (Jvm.Cond.constantLong "CeilingRows" (108 : Nat) (-1 : Int64)) ∈ ng_tbl := ng_t 298 rfl rfl
theorem tw_299 : (Jvm.Cond.methodLink "CeilingRows" (110 : Nat) ({ cls := "CeilingRows$Plan", name := "longestDelay", desc := "(II)I" } : Jvm.MethodName)) ∈ ng_tbl := ng_t 299 rfl rfl
theorem tw_300 : (Jvm.Cond.instanceMethod ({ cls := "CeilingRows$Plan", name := "longestDelay", desc := "(II)I" } : Jvm.MethodName)) ∈ ng_tbl := ng_t 300 rfl rfl
theorem tw_301 : (Jvm.Cond.selects "CeilingRows$Plan" ({ cls := "CeilingRows$Plan", name := "longestDelay", desc := "(II)I" } : Jvm.MethodName) ({ cls := "CeilingRows$Plan", name := "longestDelay", desc := "(II)I" } : Jvm.MethodName)) ∈ ng_tbl := ng_t 301 rfl rfl
theorem tw_302 : (Jvm.Cond.code ({ cls := "CeilingRows$Plan", name := "longestDelay", desc := "(II)I" } : Jvm.MethodName) prog_4_method_10_code (5 : Nat) (Option.some Jvm.ClassFile.FieldType.int)) ∈ ng_tbl := ng_t 302 rfl rfl
theorem tw_303 : (Jvm.Cond.methodLink "CeilingRows$Plan" (42 : Nat) ({ cls := "CeilingRows$Plan", name := "isBelow", desc := "(II)Z" } : Jvm.MethodName)) ∈ ng_tbl := ng_t 303 rfl rfl
theorem tw_304 : (Jvm.Cond.instanceMethod ({ cls := "CeilingRows$Plan", name := "isBelow", desc := "(II)Z" } : Jvm.MethodName)) ∈ ng_tbl := ng_t 304 rfl rfl
theorem tw_305 : (Jvm.Cond.selects "CeilingRows$Plan" ({ cls := "CeilingRows$Plan", name := "isBelow", desc := "(II)Z" } : Jvm.MethodName) ({ cls := "CeilingRows$Plan", name := "isBelow", desc := "(II)Z" } : Jvm.MethodName)) ∈ ng_tbl := ng_t 305 rfl rfl
theorem tw_306 : (Jvm.Cond.code ({ cls := "CeilingRows$Plan", name := "isBelow", desc := "(II)Z" } : Jvm.MethodName) prog_4_method_9_code (3 : Nat) (Option.some Jvm.ClassFile.FieldType.boolean)) ∈ ng_tbl := ng_t 306 rfl rfl
theorem tw_307 : (Jvm.Cond.methodLink "CeilingRows" (113 : Nat) ({ cls := "java/lang/Math", name := "max", desc := "(II)I" } : Jvm.MethodName)) ∈ ng_tbl := ng_t 307 rfl rfl
theorem tw_312 : (Jvm.Cond.methodLink "CeilingRows" (121 : Nat) ({ cls := "CeilingRows$Locks", name := "acquire", desc := "(II)I" } : Jvm.MethodName)) ∈ ng_tbl := ng_t 312 rfl rfl
theorem tw_313 : (Jvm.Cond.instanceMethod ({ cls := "CeilingRows$Locks", name := "acquire", desc := "(II)I" } : Jvm.MethodName)) ∈ ng_tbl := ng_t 313 rfl rfl
theorem tw_314 : (Jvm.Cond.selects "CeilingRows$Locks" ({ cls := "CeilingRows$Locks", name := "acquire", desc := "(II)I" } : Jvm.MethodName) ({ cls := "CeilingRows$Locks", name := "acquire", desc := "(II)I" } : Jvm.MethodName)) ∈ ng_tbl := ng_t 314 rfl rfl
theorem tw_315 : (Jvm.Cond.code ({ cls := "CeilingRows$Locks", name := "acquire", desc := "(II)I" } : Jvm.MethodName) prog_3_method_4_code (3 : Nat) (Option.some Jvm.ClassFile.FieldType.int)) ∈ ng_tbl := ng_t 315 rfl rfl
theorem tw_316 : (Jvm.Cond.methodLink "CeilingRows$Locks" (21 : Nat) ({ cls := "CeilingRows$Locks", name := "lastTakenBy", desc := "(I)I" } : Jvm.MethodName)) ∈ ng_tbl := ng_t 316 rfl rfl
theorem tw_318 : (Jvm.Cond.instanceMethod ({ cls := "CeilingRows$Locks", name := "lastTakenBy", desc := "(I)I" } : Jvm.MethodName)) ∈ ng_tbl := ng_t 318 rfl rfl
theorem tw_319 : (Jvm.Cond.code ({ cls := "CeilingRows$Locks", name := "lastTakenBy", desc := "(I)I" } : Jvm.MethodName) prog_3_method_3_code (3 : Nat) (Option.some Jvm.ClassFile.FieldType.int)) ∈ ng_tbl := ng_t 319 rfl rfl
theorem tw_320 : (Jvm.Cond.methodLink "CeilingRows" (124 : Nat) ({ cls := "CeilingRows$Locks", name := "release", desc := "(II)I" } : Jvm.MethodName)) ∈ ng_tbl := ng_t 320 rfl rfl
theorem tw_321 : (Jvm.Cond.instanceMethod ({ cls := "CeilingRows$Locks", name := "release", desc := "(II)I" } : Jvm.MethodName)) ∈ ng_tbl := ng_t 321 rfl rfl
theorem tw_322 : (Jvm.Cond.selects "CeilingRows$Locks" ({ cls := "CeilingRows$Locks", name := "release", desc := "(II)I" } : Jvm.MethodName) ({ cls := "CeilingRows$Locks", name := "release", desc := "(II)I" } : Jvm.MethodName)) ∈ ng_tbl := ng_t 322 rfl rfl
theorem tw_323 : (Jvm.Cond.code ({ cls := "CeilingRows$Locks", name := "release", desc := "(II)I" } : Jvm.MethodName) prog_3_method_5_code (4 : Nat) (Option.some Jvm.ClassFile.FieldType.int)) ∈ ng_tbl := ng_t 323 rfl rfl
theorem tw_324 : (Jvm.Cond.methodLink "CeilingRows$Locks" (29 : Nat) ({ cls := "CeilingRows$Locks", name := "longestSpinnerFor", desc := "(I)I" } : Jvm.MethodName)) ∈ ng_tbl := ng_t 324 rfl rfl
theorem tw_326 : (Jvm.Cond.instanceMethod ({ cls := "CeilingRows$Locks", name := "longestSpinnerFor", desc := "(I)I" } : Jvm.MethodName)) ∈ ng_tbl := ng_t 326 rfl rfl
theorem tw_327 : (Jvm.Cond.code ({ cls := "CeilingRows$Locks", name := "longestSpinnerFor", desc := "(I)I" } : Jvm.MethodName) prog_3_method_6_code (5 : Nat) (Option.some Jvm.ClassFile.FieldType.int)) ∈ ng_tbl := ng_t 327 rfl rfl
theorem tw_332 : (Jvm.Cond.methodLink "CeilingRows" (127 : Nat) ({ cls := "CeilingRows$Locks", name := "waitsForItself", desc := "(I)Z" } : Jvm.MethodName)) ∈ ng_tbl := ng_t 332 rfl rfl
theorem tw_333 : (Jvm.Cond.instanceMethod ({ cls := "CeilingRows$Locks", name := "waitsForItself", desc := "(I)Z" } : Jvm.MethodName)) ∈ ng_tbl := ng_t 333 rfl rfl
theorem tw_334 : (Jvm.Cond.selects "CeilingRows$Locks" ({ cls := "CeilingRows$Locks", name := "waitsForItself", desc := "(I)Z" } : Jvm.MethodName) ({ cls := "CeilingRows$Locks", name := "waitsForItself", desc := "(I)Z" } : Jvm.MethodName)) ∈ ng_tbl := ng_t 334 rfl rfl
theorem tw_335 : (Jvm.Cond.code ({ cls := "CeilingRows$Locks", name := "waitsForItself", desc := "(I)Z" } : Jvm.MethodName) prog_3_method_7_code (4 : Nat) (Option.some Jvm.ClassFile.FieldType.boolean)) ∈ ng_tbl := ng_t 335 rfl rfl
theorem tw_336 : (Jvm.Cond.methodLink "CeilingRows$Locks" (32 : Nat) ({ cls := "CeilingRows$Locks", name := "spins", desc := "(I)Z" } : Jvm.MethodName)) ∈ ng_tbl := ng_t 336 rfl rfl
theorem tw_345 : (Jvm.Cond.methodLink "CeilingRows" (130 : Nat) ({ cls := "CeilingRows$Trial", name := "mostDelays", desc := "(J)I" } : Jvm.MethodName)) ∈ ng_tbl := ng_t 345 rfl rfl
theorem tw_346 : (Jvm.Cond.instanceMethod ({ cls := "CeilingRows$Trial", name := "mostDelays", desc := "(J)I" } : Jvm.MethodName)) ∈ ng_tbl := ng_t 346 rfl rfl
theorem tw_347 : (Jvm.Cond.selects "CeilingRows$Trial" ({ cls := "CeilingRows$Trial", name := "mostDelays", desc := "(J)I" } : Jvm.MethodName) ({ cls := "CeilingRows$Trial", name := "mostDelays", desc := "(J)I" } : Jvm.MethodName)) ∈ ng_tbl := ng_t 347 rfl rfl
theorem tw_348 : (Jvm.Cond.code ({ cls := "CeilingRows$Trial", name := "mostDelays", desc := "(J)I" } : Jvm.MethodName) prog_5_method_2_code (6 : Nat) (Option.some Jvm.ClassFile.FieldType.int)) ∈ ng_tbl := ng_t 348 rfl rfl
theorem tw_349 : (Jvm.Cond.methodLink "CeilingRows$Trial" (33 : Nat) ({ cls := "CeilingRows$Trial", name := "clear", desc := "()V" } : Jvm.MethodName)) ∈ ng_tbl := ng_t 349 rfl rfl
theorem tw_351 : (Jvm.Cond.instanceMethod ({ cls := "CeilingRows$Trial", name := "clear", desc := "()V" } : Jvm.MethodName)) ∈ ng_tbl := ng_t 351 rfl rfl
theorem tw_352 : (Jvm.Cond.code ({ cls := "CeilingRows$Trial", name := "clear", desc := "()V" } : Jvm.MethodName) prog_5_method_3_code (2 : Nat) (Option.none : Option Jvm.ClassFile.FieldType)) ∈ ng_tbl := ng_t 352 rfl rfl
theorem tw_353 : (Jvm.Cond.methodLink "CeilingRows$Trial" (66 : Nat) ({ cls := "CeilingRows$Board", name := "clear", desc := "()V" } : Jvm.MethodName)) ∈ ng_tbl := ng_t 353 rfl rfl
theorem tw_354 : (Jvm.Cond.instanceMethod ({ cls := "CeilingRows$Board", name := "clear", desc := "()V" } : Jvm.MethodName)) ∈ ng_tbl := ng_t 354 rfl rfl
theorem tw_355 : (Jvm.Cond.selects "CeilingRows$Board" ({ cls := "CeilingRows$Board", name := "clear", desc := "()V" } : Jvm.MethodName) ({ cls := "CeilingRows$Board", name := "clear", desc := "()V" } : Jvm.MethodName)) ∈ ng_tbl := ng_t 355 rfl rfl
theorem tw_356 : (Jvm.Cond.code ({ cls := "CeilingRows$Board", name := "clear", desc := "()V" } : Jvm.MethodName) prog_2_method_2_code (1 : Nat) (Option.none : Option Jvm.ClassFile.FieldType)) ∈ ng_tbl := ng_t 356 rfl rfl
theorem tw_357 : (Jvm.Cond.methodLink "CeilingRows$Board" (31 : Nat) ({ cls := "java/util/Arrays", name := "fill", desc := "([II)V" } : Jvm.MethodName)) ∈ ng_tbl := ng_t 357 rfl rfl
theorem tw_358 : (Jvm.Cond.static ({ cls := "java/util/Arrays", name := "fill", desc := "([II)V" } : Jvm.MethodName)) ∈ ng_tbl := ng_t 358 rfl rfl
theorem tw_359 : (Jvm.Cond.code ({ cls := "java/util/Arrays", name := "fill", desc := "([II)V" } : Jvm.MethodName) prog_10_method_103_code (4 : Nat) (Option.none : Option Jvm.ClassFile.FieldType)) ∈ ng_tbl := ng_t 359 rfl rfl
theorem tw_360 : (Jvm.Cond.methodLink "CeilingRows$Trial" (67 : Nat) ({ cls := "java/util/Arrays", name := "fill", desc := "([II)V" } : Jvm.MethodName)) ∈ ng_tbl := ng_t 360 rfl rfl
theorem tw_361 : (Jvm.Cond.methodLink "CeilingRows$Trial" (45 : Nat) ({ cls := "CeilingRows$Trial", name := "startThoseDue", desc := "(JI)V" } : Jvm.MethodName)) ∈ ng_tbl := ng_t 361 rfl rfl
theorem tw_363 : (Jvm.Cond.instanceMethod ({ cls := "CeilingRows$Trial", name := "startThoseDue", desc := "(JI)V" } : Jvm.MethodName)) ∈ ng_tbl := ng_t 363 rfl rfl
theorem tw_364 : (Jvm.Cond.code ({ cls := "CeilingRows$Trial", name := "startThoseDue", desc := "(JI)V" } : Jvm.MethodName) prog_5_method_4_code (7 : Nat) (Option.none : Option Jvm.ClassFile.FieldType)) ∈ ng_tbl := ng_t 364 rfl rfl
theorem tw_365 : (Jvm.Cond.constantLong "CeilingRows$Trial" (73 : Nat) (7 : Int64)) ∈ ng_tbl := ng_t 365 rfl rfl
theorem tw_366 : (Jvm.Cond.methodLink "CeilingRows$Trial" (75 : Nat) ({ cls := "CeilingRows$Board", name := "makeReady", desc := "(I)V" } : Jvm.MethodName)) ∈ ng_tbl := ng_t 366 rfl rfl
theorem tw_367 : (Jvm.Cond.methodLink "CeilingRows$Trial" (49 : Nat) ({ cls := "CeilingRows$Board", name := "firstOn", desc := "(I)I" } : Jvm.MethodName)) ∈ ng_tbl := ng_t 367 rfl rfl
theorem tw_368 : (Jvm.Cond.methodLink "CeilingRows$Trial" (53 : Nat) ({ cls := "CeilingRows$Trial", name := "haveTick", desc := "(I)V" } : Jvm.MethodName)) ∈ ng_tbl := ng_t 368 rfl rfl
theorem tw_370 : (Jvm.Cond.instanceMethod ({ cls := "CeilingRows$Trial", name := "haveTick", desc := "(I)V" } : Jvm.MethodName)) ∈ ng_tbl := ng_t 370 rfl rfl
theorem tw_371 : (Jvm.Cond.code ({ cls := "CeilingRows$Trial", name := "haveTick", desc := "(I)V" } : Jvm.MethodName) prog_5_method_5_code (3 : Nat) (Option.none : Option Jvm.ClassFile.FieldType)) ∈ ng_tbl := ng_t 371 rfl rfl
theorem tw_372 : (Jvm.Cond.methodLink "CeilingRows$Trial" (78 : Nat) ({ cls := "CeilingRows$Trial", name := "resourceAt", desc := "(II)I" } : Jvm.MethodName)) ∈ ng_tbl := ng_t 372 rfl rfl
theorem tw_374 : (Jvm.Cond.instanceMethod ({ cls := "CeilingRows$Trial", name := "resourceAt", desc := "(II)I" } : Jvm.MethodName)) ∈ ng_tbl := ng_t 374 rfl rfl
theorem tw_375 : (Jvm.Cond.code ({ cls := "CeilingRows$Trial", name := "resourceAt", desc := "(II)I" } : Jvm.MethodName) prog_5_method_10_code (6 : Nat) (Option.some Jvm.ClassFile.FieldType.int)) ∈ ng_tbl := ng_t 375 rfl rfl
theorem tw_376 : (Jvm.Cond.methodLink "CeilingRows$Trial" (121 : Nat) ({ cls := "CeilingRows$Plan", name := "isUsedBy", desc := "(II)Z" } : Jvm.MethodName)) ∈ ng_tbl := ng_t 376 rfl rfl
theorem tw_377 : (Jvm.Cond.methodLink "CeilingRows$Trial" (124 : Nat) ({ cls := "CeilingRows$Trial", name := "ticksWith", desc := "(II)I" } : Jvm.MethodName)) ∈ ng_tbl := ng_t 377 rfl rfl
theorem tw_379 : (Jvm.Cond.instanceMethod ({ cls := "CeilingRows$Trial", name := "ticksWith", desc := "(II)I" } : Jvm.MethodName)) ∈ ng_tbl := ng_t 379 rfl rfl
theorem tw_380 : (Jvm.Cond.code ({ cls := "CeilingRows$Trial", name := "ticksWith", desc := "(II)I" } : Jvm.MethodName) prog_5_method_8_code (3 : Nat) (Option.some Jvm.ClassFile.FieldType.int)) ∈ ng_tbl := ng_t 380 rfl rfl
theorem tw_381 : (Jvm.Cond.methodLink "CeilingRows$Trial" (115 : Nat) ({ cls := "java/lang/Math", name := "min", desc := "(II)I" } : Jvm.MethodName)) ∈ ng_tbl := ng_t 381 rfl rfl
theorem tw_382 : (Jvm.Cond.static ({ cls := "java/lang/Math", name := "min", desc := "(II)I" } : Jvm.MethodName)) ∈ ng_tbl := ng_t 382 rfl rfl
theorem tw_383 : (Jvm.Cond.code ({ cls := "java/lang/Math", name := "min", desc := "(II)I" } : Jvm.MethodName) prog_9_method_69_code (2 : Nat) (Option.some Jvm.ClassFile.FieldType.int)) ∈ ng_tbl := ng_t 383 rfl rfl
theorem tw_384 : (Jvm.Cond.methodLink "CeilingRows$Trial" (84 : Nat) ({ cls := "CeilingRows$Board", name := "take", desc := "(II)V" } : Jvm.MethodName)) ∈ ng_tbl := ng_t 384 rfl rfl
theorem tw_385 : (Jvm.Cond.methodLink "CeilingRows$Trial" (88 : Nat) ({ cls := "CeilingRows$Trial", name := "noteDelays", desc := "(II)V" } : Jvm.MethodName)) ∈ ng_tbl := ng_t 385 rfl rfl
theorem tw_387 : (Jvm.Cond.instanceMethod ({ cls := "CeilingRows$Trial", name := "noteDelays", desc := "(II)V" } : Jvm.MethodName)) ∈ ng_tbl := ng_t 387 rfl rfl
theorem tw_388 : (Jvm.Cond.code ({ cls := "CeilingRows$Trial", name := "noteDelays", desc := "(II)V" } : Jvm.MethodName) prog_5_method_6_code (4 : Nat) (Option.none : Option Jvm.ClassFile.FieldType)) ∈ ng_tbl := ng_t 388 rfl rfl
theorem tw_389 : (Jvm.Cond.methodLink "CeilingRows$Trial" (103 : Nat) ({ cls := "CeilingRows$Plan", name := "isBelow", desc := "(II)Z" } : Jvm.MethodName)) ∈ ng_tbl := ng_t 389 rfl rfl
theorem tw_390 : (Jvm.Cond.methodLink "CeilingRows$Trial" (91 : Nat) ({ cls := "CeilingRows$Board", name := "giveBackLast", desc := "(I)V" } : Jvm.MethodName)) ∈ ng_tbl := ng_t 390 rfl rfl
theorem tw_391 : (Jvm.Cond.methodLink "CeilingRows$Trial" (94 : Nat) ({ cls := "CeilingRows$Trial", name := "ticksOf", desc := "(I)I" } : Jvm.MethodName)) ∈ ng_tbl := ng_t 391 rfl rfl
theorem tw_393 : (Jvm.Cond.instanceMethod ({ cls := "CeilingRows$Trial", name := "ticksOf", desc := "(I)I" } : Jvm.MethodName)) ∈ ng_tbl := ng_t 393 rfl rfl
theorem tw_394 : (Jvm.Cond.code ({ cls := "CeilingRows$Trial", name := "ticksOf", desc := "(I)I" } : Jvm.MethodName) prog_5_method_9_code (4 : Nat) (Option.some Jvm.ClassFile.FieldType.int)) ∈ ng_tbl := ng_t 394 rfl rfl
theorem tw_395 : (Jvm.Cond.methodLink "CeilingRows$Trial" (97 : Nat) ({ cls := "CeilingRows$Board", name := "putToSleep", desc := "(I)V" } : Jvm.MethodName)) ∈ ng_tbl := ng_t 395 rfl rfl
theorem tw_396 : (Jvm.Cond.methodLink "CeilingRows$Trial" (57 : Nat) ({ cls := "CeilingRows$Trial", name := "countDelays", desc := "(I)I" } : Jvm.MethodName)) ∈ ng_tbl := ng_t 396 rfl rfl
theorem tw_398 : (Jvm.Cond.instanceMethod ({ cls := "CeilingRows$Trial", name := "countDelays", desc := "(I)I" } : Jvm.MethodName)) ∈ ng_tbl := ng_t 398 rfl rfl
theorem tw_399 : (Jvm.Cond.code ({ cls := "CeilingRows$Trial", name := "countDelays", desc := "(I)I" } : Jvm.MethodName) prog_5_method_7_code (4 : Nat) (Option.some Jvm.ClassFile.FieldType.int)) ∈ ng_tbl := ng_t 399 rfl rfl
theorem tw_400 : (Jvm.Cond.methodLink "CeilingRows$Trial" (107 : Nat) ({ cls := "java/lang/Integer", name := "bitCount", desc := "(I)I" } : Jvm.MethodName)) ∈ ng_tbl := ng_t 400 rfl rfl
theorem tw_401 : (Jvm.Cond.static ({ cls := "java/lang/Integer", name := "bitCount", desc := "(I)I" } : Jvm.MethodName)) ∈ ng_tbl := ng_t 401 rfl rfl
theorem tw_402 : (Jvm.Cond.code ({ cls := "java/lang/Integer", name := "bitCount", desc := "(I)I" } : Jvm.MethodName) prog_8_method_49_code (1 : Nat) (Option.some Jvm.ClassFile.FieldType.int)) ∈ ng_tbl := ng_t 402 rfl rfl
theorem tw_403 : (Jvm.Cond.constant "java/lang/Integer" (265 : Nat) (1431655765 : Int32)) ∈ ng_tbl := ng_t 403 rfl rfl
theorem tw_404 : (Jvm.Cond.constant "java/lang/Integer" (266 : Nat) (858993459 : Int32)) ∈ ng_tbl := ng_t 404 rfl rfl
theorem tw_405 : (Jvm.Cond.constant "java/lang/Integer" (267 : Nat) (252645135 : Int32)) ∈ ng_tbl := ng_t 405 rfl rfl
theorem tw_406 : (Jvm.Cond.methodLink "CeilingRows$Trial" (60 : Nat) ({ cls := "java/lang/Math", name := "max", desc := "(II)I" } : Jvm.MethodName)) ∈ ng_tbl := ng_t 406 rfl rfl
end
section
theorem cr_mulL (k : Int) {x y : Int32} (hx : x.toInt = k) (h : -2147483648 ≤ k * y.toInt ∧ k * y.toInt < 2147483648) : (x * y).toInt = k * y.toInt := by
  rw [Int32.toInt_mul, hx]; exact cr_bmod h
end
section
theorem nd_Arrays_fill_0 : decode prog_10_method_103_code 0 = .ok (.iconst 0, 1) := by decide +kernel
theorem nd_Arrays_fill_1 : decode prog_10_method_103_code 1 = .ok (.istore_n 2, 1) := by decide +kernel
theorem nd_Arrays_fill_2 : decode prog_10_method_103_code 2 = .ok (.aload_n 0, 1) := by decide +kernel
theorem nd_Arrays_fill_3 : decode prog_10_method_103_code 3 = .ok (.arraylength, 1) := by decide +kernel
theorem nd_Arrays_fill_4 : decode prog_10_method_103_code 4 = .ok (.istore_n 3, 1) := by decide +kernel
theorem nd_Arrays_fill_5 : decode prog_10_method_103_code 5 = .ok (.iload_n 2, 1) := by decide +kernel
theorem nd_Arrays_fill_6 : decode prog_10_method_103_code 6 = .ok (.iload_n 3, 1) := by decide +kernel
theorem nd_Arrays_fill_7 : decode prog_10_method_103_code 7 = .ok (.if_icmp .ge (13), 3) := by decide +kernel
theorem nd_Arrays_fill_10 : decode prog_10_method_103_code 10 = .ok (.aload_n 0, 1) := by decide +kernel
theorem nd_Arrays_fill_11 : decode prog_10_method_103_code 11 = .ok (.iload_n 2, 1) := by decide +kernel
theorem nd_Arrays_fill_12 : decode prog_10_method_103_code 12 = .ok (.iload_n 1, 1) := by decide +kernel
theorem nd_Arrays_fill_13 : decode prog_10_method_103_code 13 = .ok (.iastore, 1) := by decide +kernel
theorem nd_Arrays_fill_14 : decode prog_10_method_103_code 14 = .ok (.iinc 2 1, 3) := by decide +kernel
theorem nd_Arrays_fill_17 : decode prog_10_method_103_code 17 = .ok (.goto (-12), 3) := by decide +kernel
theorem nd_Arrays_fill_20 : decode prog_10_method_103_code 20 = .ok (.return_, 1) := by decide +kernel
theorem cr_fl0 (f : Nat → Int32) (x : Int32) : cr_fl f 0 x = f := by
  funext j
  unfold cr_fl
  rw [if_neg (Nat.not_lt_zero j)]
theorem cr_fls (f : Nat → Int32) (k : Nat) (x : Int32) (hk : k < 2 ^ 31) : upd (cr_fl f k x) (nI k).toNatClampNeg x = cr_fl f (k + 1) x := by
  funext j
  rw [nI_clamp hk]
  unfold upd cr_fl
  by_cases e : j = k
  · subst e
    rw [if_pos rfl, if_pos (Nat.lt_succ_self j)]
  · rw [if_neg e]
    by_cases h : j < k
    · rw [if_pos h, if_pos (by omega)]
    · rw [if_neg h, if_neg (by omega)]
set_option maxHeartbeats 4000000 in
set_option maxRecDepth 100000 in
/-- Arrays.fill(int[], int) -/
theorem ct_fill (l : Launch) (dC : Nat → ClassId) (dI : Nat → Nat → Nat) (cI cZ cO : ClassId) (a sz n : Nat) (f : Nat → Int32) (x : Int32) (hn : n ≤ 1000000) : Met l ny_Arrays_fill nw_Arrays_fill ({ frames := 0, cells := 0, slots := 0, locals := 0 } : Room) (va_Pc [.ref a, .int x] (fun U => U.heap.size = sz ∧ va_P (dC, dI) vwCl [(a, .inl (cI, n, .inl f))] U.heap ∧ va_K (dC, dI) vwCl [(cI, .int), (cZ, .boolean), (cO, .array .int)] U ∧ va_D (fun _ => True) [(a, .inl (cI, n, .inl f))]))
    (va_Qv (fun g : Nat → Int32 => g = cr_fl f n x) (fun g t => va_P (dC, dI) vwCl [(a, .inl (cI, n, .inl g))] t.heap ∧ va_K (dC, dI) vwCl [(cI, .int), (cZ, .boolean), (cO, .array .int)] t ∧ va_D (va_A [(a, .inl (cI, n, .inl f))] sz) [(a, .inl (cI, n, .inl g))]) (va_A [(a, .inl (cI, n, .inl f))] sz)) 0 0 (va_A [(a, .inl (cI, n, .inl f))] sz) := by
  refine Met.ofW (cc := prog_10_method_103_code) (maxL := 4) (ret := none) (by decide) rfl ?_
  intro p e s m args below meth c s₁ B hml hv
  obtain ⟨rfl, hsz, hP, hK, hD0⟩ := hv
  have hx := B.exec
  have hb := B.bytes
  have hr := B.returns
  have hlocks := B.notSynchronized
  subst hsz
  have hD := hD0.self (sz := s.heap.size)
  generalize hAe : va_A [(a, .inl (cI, n, .inl f))] s.heap.size = A at hD ⊢
  have hS : va_S A s.heap s.heap [] := va_S.rf
  have hl := lv_entry ([.ref a, .int x]) (n := 4) (Nat.le_of_ble_eq_true rfl)
  rw [lg_entry_eq]
  generalize (lg_sl ([.ref a, .int x]) ++ List.replicate (4 - (lg_sl ([.ref a, .int x])).length) Slot.unset).toArray = ls at hl ⊢
  have hl : lv_has ls 4 [(0, .ref a), (1, .int x)] := hl
  refine lv_iconst (v := 0) hx hb nd_Arrays_fill_0 (by decide) ?_
  refine lv_istore_n (lv' := [(2, .int 0), (0, .ref a), (1, .int x)]) hx hb nd_Arrays_fill_1 rfl hl (by decide) rfl (fun ls hl => ?_)
  refine lv_aload_n hx hb nd_Arrays_fill_2 rfl (lv_at hl 1 rfl) ?_
  refine va_alen hx hb hK hP 0 0 rfl rfl (v := nI n) rfl nd_Arrays_fill_3 ?_
  refine lv_istore_n (lv' := [(3, .int (nI n)), (2, .int 0), (0, .ref a), (1, .int x)]) hx hb nd_Arrays_fill_4 rfl hl (by decide) rfl (fun ls hl => ?_)
  have lp : ∀ (d k : Nat), k + d = n → ∀ (H : Heap) (locs : List Loc), va_P (dC, dI) vwCl [(a, .inl (cI, n, .inl (cr_fl f k x)))] H → va_D A [(a, .inl (cI, n, .inl (cr_fl f k x)))] → va_S A s.heap H locs → ∀ ls : Array Slot, lv_has ls 4 [(0, .ref a), (1, .int x), (2, .int (nI k)), (3, .int (nI n))] → W p l e (headSpec nw_Arrays_fill ({ frames := 0, cells := 0, slots := 0, locals := 0 } : Room)).room s m ([.ref a, .int x] : List Value).toArray below meth c H locs 0 0 (MQ below (va_Qv (fun g : Nat → Int32 => g = cr_fl f n x) (fun g t => va_P (dC, dI) vwCl [(a, .inl (cI, n, .inl g))] t.heap ∧ va_K (dC, dI) vwCl [(cI, .int), (cZ, .boolean), (cO, .array .int)] t ∧ va_D A [(a, .inl (cI, n, .inl g))]) A) ([.ref a, .int x] : List Value).toArray s 0 0 A) (F0 m 5 ls []) := by
    intro d
    induction d with
    | zero =>
      intro k hk H locs hP hD hS ls hl
      have hk : k = n := by omega
      subst hk
      refine lv_iload_n hx hb nd_Arrays_fill_5 rfl (lv_at hl 2 rfl) ?_
      refine lv_iload_n hx hb nd_Arrays_fill_6 rfl (lv_at hl 3 rfl) ?_
      refine lv_icmp_ge (tgt := 20) hx hb nd_Arrays_fill_7 (by decide) (fun c_1 => ?_) (fun c_1 => ?_)
      · exact W.vret hx hb hr (fun t ht hW => ⟨⟨_, rfl, rfl, by rw [ht]; exact hP, va_K.moved hW.alike hK, hD⟩, hS.F ht⟩) hS.2.2 nd_Arrays_fill_20
      · exact absurd (nI_le (Nat.le_refl k) (by omega)) c_1
    | succ d ih =>
      intro k hk H locs hP hD hS ls hl
      refine lv_iload_n hx hb nd_Arrays_fill_5 rfl (lv_at hl 2 rfl) ?_
      refine lv_iload_n hx hb nd_Arrays_fill_6 rfl (lv_at hl 3 rfl) ?_
      refine lv_icmp_ge (tgt := 20) hx hb nd_Arrays_fill_7 (by decide) (fun c_1 => ?_) (fun c_1 => ?_)
      · exact absurd c_1 (nI_ge (by omega) (by omega))
      · refine lv_aload_n hx hb nd_Arrays_fill_10 rfl (lv_at hl 0 rfl) ?_
        refine lv_iload_n hx hb nd_Arrays_fill_11 rfl (lv_at hl 2 rfl) ?_
        refine lv_iload_n hx hb nd_Arrays_fill_12 rfl (lv_at hl 1 rfl) ?_
        refine va_iast hx hb hK hP hD hS 0 0 rfl rfl (vp_in_nI (by omega) (by omega)) nd_Arrays_fill_13 (fun H locs hP hD hS => ?_)
        rw [cr_fls f k x (by omega)] at hP hD
        refine lv_iinc (v := nI (k + 1)) (lv' := [(2, .int (nI (k + 1))), (0, .ref a), (1, .int x), (3, .int (nI n))]) hx hb nd_Arrays_fill_14 hl (k := 2) rfl (nI_1 k) (by decide) rfl (fun ls hl => ?_)
        refine lv_goto (tgt := 5) hx hb nd_Arrays_fill_17 (by decide) ?_
        exact ih (k + 1) (by omega) _ _ hP hD hS _ (lv_sub hl [1, 2, 0, 3] rfl)
  exact lp n 0 (by omega) _ _ (by rw [cr_fl0]; exact hP) (by rw [cr_fl0]; exact hD) hS _ (lv_sub hl [2, 3, 1, 0] rfl)
theorem nd_Integer_bitCount_0 : decode prog_8_method_49_code 0 = .ok (.iload_n 0, 1) := by decide +kernel
theorem nd_Integer_bitCount_1 : decode prog_8_method_49_code 1 = .ok (.iload_n 0, 1) := by decide +kernel
theorem nd_Integer_bitCount_2 : decode prog_8_method_49_code 2 = .ok (.iconst 1, 1) := by decide +kernel
theorem nd_Integer_bitCount_3 : decode prog_8_method_49_code 3 = .ok (.iushr, 1) := by decide +kernel
theorem nd_Integer_bitCount_4 : decode prog_8_method_49_code 4 = .ok (.ldc_w 265, 3) := by decide +kernel
theorem nd_Integer_bitCount_7 : decode prog_8_method_49_code 7 = .ok (.iand, 1) := by decide +kernel
theorem nd_Integer_bitCount_8 : decode prog_8_method_49_code 8 = .ok (.isub, 1) := by decide +kernel
theorem nd_Integer_bitCount_9 : decode prog_8_method_49_code 9 = .ok (.istore_n 0, 1) := by decide +kernel
theorem nd_Integer_bitCount_10 : decode prog_8_method_49_code 10 = .ok (.iload_n 0, 1) := by decide +kernel
theorem nd_Integer_bitCount_11 : decode prog_8_method_49_code 11 = .ok (.ldc_w 266, 3) := by decide +kernel
theorem nd_Integer_bitCount_14 : decode prog_8_method_49_code 14 = .ok (.iand, 1) := by decide +kernel
theorem nd_Integer_bitCount_15 : decode prog_8_method_49_code 15 = .ok (.iload_n 0, 1) := by decide +kernel
theorem nd_Integer_bitCount_16 : decode prog_8_method_49_code 16 = .ok (.iconst 2, 1) := by decide +kernel
theorem nd_Integer_bitCount_17 : decode prog_8_method_49_code 17 = .ok (.iushr, 1) := by decide +kernel
theorem nd_Integer_bitCount_18 : decode prog_8_method_49_code 18 = .ok (.ldc_w 266, 3) := by decide +kernel
theorem nd_Integer_bitCount_21 : decode prog_8_method_49_code 21 = .ok (.iand, 1) := by decide +kernel
theorem nd_Integer_bitCount_22 : decode prog_8_method_49_code 22 = .ok (.iadd, 1) := by decide +kernel
theorem nd_Integer_bitCount_23 : decode prog_8_method_49_code 23 = .ok (.istore_n 0, 1) := by decide +kernel
theorem nd_Integer_bitCount_24 : decode prog_8_method_49_code 24 = .ok (.iload_n 0, 1) := by decide +kernel
theorem nd_Integer_bitCount_25 : decode prog_8_method_49_code 25 = .ok (.iload_n 0, 1) := by decide +kernel
theorem nd_Integer_bitCount_26 : decode prog_8_method_49_code 26 = .ok (.iconst 4, 1) := by decide +kernel
theorem nd_Integer_bitCount_27 : decode prog_8_method_49_code 27 = .ok (.iushr, 1) := by decide +kernel
theorem nd_Integer_bitCount_28 : decode prog_8_method_49_code 28 = .ok (.iadd, 1) := by decide +kernel
theorem nd_Integer_bitCount_29 : decode prog_8_method_49_code 29 = .ok (.ldc_w 267, 3) := by decide +kernel
theorem nd_Integer_bitCount_32 : decode prog_8_method_49_code 32 = .ok (.iand, 1) := by decide +kernel
theorem nd_Integer_bitCount_33 : decode prog_8_method_49_code 33 = .ok (.istore_n 0, 1) := by decide +kernel
theorem nd_Integer_bitCount_34 : decode prog_8_method_49_code 34 = .ok (.iload_n 0, 1) := by decide +kernel
theorem nd_Integer_bitCount_35 : decode prog_8_method_49_code 35 = .ok (.iload_n 0, 1) := by decide +kernel
theorem nd_Integer_bitCount_36 : decode prog_8_method_49_code 36 = .ok (.bipush 8, 2) := by decide +kernel
theorem nd_Integer_bitCount_38 : decode prog_8_method_49_code 38 = .ok (.iushr, 1) := by decide +kernel
theorem nd_Integer_bitCount_39 : decode prog_8_method_49_code 39 = .ok (.iadd, 1) := by decide +kernel
theorem nd_Integer_bitCount_40 : decode prog_8_method_49_code 40 = .ok (.istore_n 0, 1) := by decide +kernel
theorem nd_Integer_bitCount_41 : decode prog_8_method_49_code 41 = .ok (.iload_n 0, 1) := by decide +kernel
theorem nd_Integer_bitCount_42 : decode prog_8_method_49_code 42 = .ok (.iload_n 0, 1) := by decide +kernel
theorem nd_Integer_bitCount_43 : decode prog_8_method_49_code 43 = .ok (.bipush 16, 2) := by decide +kernel
theorem nd_Integer_bitCount_45 : decode prog_8_method_49_code 45 = .ok (.iushr, 1) := by decide +kernel
theorem nd_Integer_bitCount_46 : decode prog_8_method_49_code 46 = .ok (.iadd, 1) := by decide +kernel
theorem nd_Integer_bitCount_47 : decode prog_8_method_49_code 47 = .ok (.istore_n 0, 1) := by decide +kernel
theorem nd_Integer_bitCount_48 : decode prog_8_method_49_code 48 = .ok (.iload_n 0, 1) := by decide +kernel
theorem nd_Integer_bitCount_49 : decode prog_8_method_49_code 49 = .ok (.bipush 63, 2) := by decide +kernel
theorem nd_Integer_bitCount_51 : decode prog_8_method_49_code 51 = .ok (.iand, 1) := by decide +kernel
theorem nd_Integer_bitCount_52 : decode prog_8_method_49_code 52 = .ok (.ireturn, 1) := by decide +kernel
def md_Integer_bitCount  (x0 : Int32) : Int32 :=
  ((((((((x0 - ((x0.toUInt32 >>> ((1 : Int32).toUInt32 &&& Int32.toUInt32 31)).toInt32 &&& (1431655765 : Int32))) &&& (858993459 : Int32)) + (((x0 - ((x0.toUInt32 >>> ((1 : Int32).toUInt32 &&& Int32.toUInt32 31)).toInt32 &&& (1431655765 : Int32))).toUInt32 >>> ((2 : Int32).toUInt32 &&& Int32.toUInt32 31)).toInt32 &&& (858993459 : Int32))) + ((((x0 - ((x0.toUInt32 >>> ((1 : Int32).toUInt32 &&& Int32.toUInt32 31)).toInt32 &&& (1431655765 : Int32))) &&& (858993459 : Int32)) + (((x0 - ((x0.toUInt32 >>> ((1 : Int32).toUInt32 &&& Int32.toUInt32 31)).toInt32 &&& (1431655765 : Int32))).toUInt32 >>> ((2 : Int32).toUInt32 &&& Int32.toUInt32 31)).toInt32 &&& (858993459 : Int32))).toUInt32 >>> ((4 : Int32).toUInt32 &&& Int32.toUInt32 31)).toInt32) &&& (252645135 : Int32)) + ((((((x0 - ((x0.toUInt32 >>> ((1 : Int32).toUInt32 &&& Int32.toUInt32 31)).toInt32 &&& (1431655765 : Int32))) &&& (858993459 : Int32)) + (((x0 - ((x0.toUInt32 >>> ((1 : Int32).toUInt32 &&& Int32.toUInt32 31)).toInt32 &&& (1431655765 : Int32))).toUInt32 >>> ((2 : Int32).toUInt32 &&& Int32.toUInt32 31)).toInt32 &&& (858993459 : Int32))) + ((((x0 - ((x0.toUInt32 >>> ((1 : Int32).toUInt32 &&& Int32.toUInt32 31)).toInt32 &&& (1431655765 : Int32))) &&& (858993459 : Int32)) + (((x0 - ((x0.toUInt32 >>> ((1 : Int32).toUInt32 &&& Int32.toUInt32 31)).toInt32 &&& (1431655765 : Int32))).toUInt32 >>> ((2 : Int32).toUInt32 &&& Int32.toUInt32 31)).toInt32 &&& (858993459 : Int32))).toUInt32 >>> ((4 : Int32).toUInt32 &&& Int32.toUInt32 31)).toInt32) &&& (252645135 : Int32)).toUInt32 >>> ((8 : Int32).toUInt32 &&& Int32.toUInt32 31)).toInt32) + (((((((x0 - ((x0.toUInt32 >>> ((1 : Int32).toUInt32 &&& Int32.toUInt32 31)).toInt32 &&& (1431655765 : Int32))) &&& (858993459 : Int32)) + (((x0 - ((x0.toUInt32 >>> ((1 : Int32).toUInt32 &&& Int32.toUInt32 31)).toInt32 &&& (1431655765 : Int32))).toUInt32 >>> ((2 : Int32).toUInt32 &&& Int32.toUInt32 31)).toInt32 &&& (858993459 : Int32))) + ((((x0 - ((x0.toUInt32 >>> ((1 : Int32).toUInt32 &&& Int32.toUInt32 31)).toInt32 &&& (1431655765 : Int32))) &&& (858993459 : Int32)) + (((x0 - ((x0.toUInt32 >>> ((1 : Int32).toUInt32 &&& Int32.toUInt32 31)).toInt32 &&& (1431655765 : Int32))).toUInt32 >>> ((2 : Int32).toUInt32 &&& Int32.toUInt32 31)).toInt32 &&& (858993459 : Int32))).toUInt32 >>> ((4 : Int32).toUInt32 &&& Int32.toUInt32 31)).toInt32) &&& (252645135 : Int32)) + ((((((x0 - ((x0.toUInt32 >>> ((1 : Int32).toUInt32 &&& Int32.toUInt32 31)).toInt32 &&& (1431655765 : Int32))) &&& (858993459 : Int32)) + (((x0 - ((x0.toUInt32 >>> ((1 : Int32).toUInt32 &&& Int32.toUInt32 31)).toInt32 &&& (1431655765 : Int32))).toUInt32 >>> ((2 : Int32).toUInt32 &&& Int32.toUInt32 31)).toInt32 &&& (858993459 : Int32))) + ((((x0 - ((x0.toUInt32 >>> ((1 : Int32).toUInt32 &&& Int32.toUInt32 31)).toInt32 &&& (1431655765 : Int32))) &&& (858993459 : Int32)) + (((x0 - ((x0.toUInt32 >>> ((1 : Int32).toUInt32 &&& Int32.toUInt32 31)).toInt32 &&& (1431655765 : Int32))).toUInt32 >>> ((2 : Int32).toUInt32 &&& Int32.toUInt32 31)).toInt32 &&& (858993459 : Int32))).toUInt32 >>> ((4 : Int32).toUInt32 &&& Int32.toUInt32 31)).toInt32) &&& (252645135 : Int32)).toUInt32 >>> ((8 : Int32).toUInt32 &&& Int32.toUInt32 31)).toInt32).toUInt32 >>> ((16 : Int32).toUInt32 &&& Int32.toUInt32 31)).toInt32) &&& (63 : Int32))
abbrev pq_Integer_bitCount (dC : Nat → ClassId) (dI : Nat → Nat → Nat) (cI cZ cO : ClassId)   (x0 : Int32) (A : Nat → Prop) : Array Value → State → Outcome → State → Prop :=
  va_Qi (fun (r : Int32) (_ : Unit) => r = md_Integer_bitCount  x0) (fun (_ : Unit) t => va_P (dC, dI) vwCl ([]) t.heap ∧ va_K (dC, dI) vwCl [(cI, .int), (cZ, .boolean), (cO, .array .int)] t ∧ va_D A ([])) A
set_option maxHeartbeats 4000000 in
set_option maxRecDepth 100000 in
theorem ct_Integer_bitCount (l : Launch) (dC : Nat → ClassId) (dI : Nat → Nat → Nat) (cI cZ cO : ClassId)  (sz : Nat)  (x0 : Int32)  : Met l ny_Integer_bitCount nw_Integer_bitCount ({ frames := 0, cells := 0, slots := 0, locals := 0 } : Room) (va_Pc [.int x0] (fun U => U.heap.size = sz ∧ va_P (dC, dI) vwCl ([]) U.heap ∧ va_K (dC, dI) vwCl [(cI, .int), (cZ, .boolean), (cO, .array .int)] U ∧ va_D (fun _ => True) ([]))) (pq_Integer_bitCount dC dI cI cZ cO  x0 (va_A ([]) sz)) 0 0 (va_A ([]) sz) := by
  refine Met.ofW (cc := prog_8_method_49_code) (maxL := 1) (ret := (some .int)) (by decide) rfl ?_
  intro p e s m args below meth c s₁ B hml hv
  obtain ⟨rfl, hsz, hP, hK, hD0⟩ := hv
  have hx := B.exec
  have hb := B.bytes
  have hr := B.returns
  have hts0 := atoms_spec (ws := nw_Integer_bitCount) B.pre
  have hts : ∀ w ∈ ng_tbl, w.before ([.int x0] : List Value).toArray s = true := fun w h => hts0 w (List.mem_cons_of_mem _ h)
  have hown : s.vm.findClass "java/lang/Integer" = some m.cls := findClass_of_methodNamed B.named
  have hlocks := B.notSynchronized
  subst hsz
  have hD := hD0.self (sz := s.heap.size)
  generalize hAe : va_A ([]) s.heap.size = A at hD ⊢
  have hA : ∀ q : Nat, s.heap.size ≤ q → A q := fun q h => by rw [← hAe]; exact Or.inr h
  have hS : va_S A s.heap s.heap [] := va_S.rf
  have hP : va_P (dC, dI) vwCl ([]) s.heap := hP
  have hl := lv_entry ([.int x0]) (n := 1) (Nat.le_of_ble_eq_true rfl)
  rw [lg_entry_eq]
  generalize (lg_sl ([.int x0]) ++ List.replicate (1 - (lg_sl ([.int x0])).length) Slot.unset).toArray = ls at hl ⊢
  have hl : lv_has ls 1 [(0, .int x0)] := hl
  have k_1 : (1 : Int32).toInt = 1 := by decide
  have k_2 : (2 : Int32).toInt = 2 := by decide
  have k_4 : (4 : Int32).toInt = 4 := by decide
  have k_8 : (8 : Int32).toInt = 8 := by decide
  have k_16 : (16 : Int32).toInt = 16 := by decide
  have k_63 : (63 : Int32).toInt = 63 := by decide
  have k_252645135 : (252645135 : Int32).toInt = 252645135 := by decide
  have k_858993459 : (858993459 : Int32).toInt = 858993459 := by decide
  have k_1431655765 : (1431655765 : Int32).toInt = 1431655765 := by decide
  obtain ⟨tgt, hT⟩ : ∃ z, md_Integer_bitCount  x0 = z := ⟨_, rfl⟩
  have hM := hT
  unfold md_Integer_bitCount at hM
  refine lv_iload_n hx hb nd_Integer_bitCount_0 rfl (lv_at hl 0 rfl) ?_
  refine lv_iload_n hx hb nd_Integer_bitCount_1 rfl (lv_at hl 0 rfl) ?_
  refine lv_iconst (v := 1) hx hb nd_Integer_bitCount_2 (by decide) ?_
  refine lv_iushr (v := (x0.toUInt32 >>> ((1 : Int32).toUInt32 &&& Int32.toUInt32 31)).toInt32) hx hb nd_Integer_bitCount_3 rfl ?_
  refine lv_ldcw (v := 1431655765) hx hb hown (hts _ tw_403) nd_Integer_bitCount_4 ?_
  refine lv_iand hx hb nd_Integer_bitCount_7 ?_
  refine lv_isub hx hb nd_Integer_bitCount_8 ?_
  refine lv_istore_n (lv' := [(0, .int (x0 - ((x0.toUInt32 >>> ((1 : Int32).toUInt32 &&& Int32.toUInt32 31)).toInt32 &&& (1431655765 : Int32))))]) hx hb nd_Integer_bitCount_9 rfl hl (by decide) rfl (fun ls hl => ?_)
  refine lv_iload_n hx hb nd_Integer_bitCount_10 rfl (lv_at hl 0 rfl) ?_
  refine lv_ldcw (v := 858993459) hx hb hown (hts _ tw_404) nd_Integer_bitCount_11 ?_
  refine lv_iand hx hb nd_Integer_bitCount_14 ?_
  refine lv_iload_n hx hb nd_Integer_bitCount_15 rfl (lv_at hl 0 rfl) ?_
  refine lv_iconst (v := 2) hx hb nd_Integer_bitCount_16 (by decide) ?_
  refine lv_iushr (v := ((x0 - ((x0.toUInt32 >>> ((1 : Int32).toUInt32 &&& Int32.toUInt32 31)).toInt32 &&& (1431655765 : Int32))).toUInt32 >>> ((2 : Int32).toUInt32 &&& Int32.toUInt32 31)).toInt32) hx hb nd_Integer_bitCount_17 rfl ?_
  refine lv_ldcw (v := 858993459) hx hb hown (hts _ tw_404) nd_Integer_bitCount_18 ?_
  refine lv_iand hx hb nd_Integer_bitCount_21 ?_
  refine lv_iadd hx hb nd_Integer_bitCount_22 ?_
  refine lv_istore_n (lv' := [(0, .int (((x0 - ((x0.toUInt32 >>> ((1 : Int32).toUInt32 &&& Int32.toUInt32 31)).toInt32 &&& (1431655765 : Int32))) &&& (858993459 : Int32)) + (((x0 - ((x0.toUInt32 >>> ((1 : Int32).toUInt32 &&& Int32.toUInt32 31)).toInt32 &&& (1431655765 : Int32))).toUInt32 >>> ((2 : Int32).toUInt32 &&& Int32.toUInt32 31)).toInt32 &&& (858993459 : Int32))))]) hx hb nd_Integer_bitCount_23 rfl hl (by decide) rfl (fun ls hl => ?_)
  refine lv_iload_n hx hb nd_Integer_bitCount_24 rfl (lv_at hl 0 rfl) ?_
  refine lv_iload_n hx hb nd_Integer_bitCount_25 rfl (lv_at hl 0 rfl) ?_
  refine lv_iconst (v := 4) hx hb nd_Integer_bitCount_26 (by decide) ?_
  refine lv_iushr (v := ((((x0 - ((x0.toUInt32 >>> ((1 : Int32).toUInt32 &&& Int32.toUInt32 31)).toInt32 &&& (1431655765 : Int32))) &&& (858993459 : Int32)) + (((x0 - ((x0.toUInt32 >>> ((1 : Int32).toUInt32 &&& Int32.toUInt32 31)).toInt32 &&& (1431655765 : Int32))).toUInt32 >>> ((2 : Int32).toUInt32 &&& Int32.toUInt32 31)).toInt32 &&& (858993459 : Int32))).toUInt32 >>> ((4 : Int32).toUInt32 &&& Int32.toUInt32 31)).toInt32) hx hb nd_Integer_bitCount_27 rfl ?_
  refine lv_iadd hx hb nd_Integer_bitCount_28 ?_
  refine lv_ldcw (v := 252645135) hx hb hown (hts _ tw_405) nd_Integer_bitCount_29 ?_
  refine lv_iand hx hb nd_Integer_bitCount_32 ?_
  refine lv_istore_n (lv' := [(0, .int (((((x0 - ((x0.toUInt32 >>> ((1 : Int32).toUInt32 &&& Int32.toUInt32 31)).toInt32 &&& (1431655765 : Int32))) &&& (858993459 : Int32)) + (((x0 - ((x0.toUInt32 >>> ((1 : Int32).toUInt32 &&& Int32.toUInt32 31)).toInt32 &&& (1431655765 : Int32))).toUInt32 >>> ((2 : Int32).toUInt32 &&& Int32.toUInt32 31)).toInt32 &&& (858993459 : Int32))) + ((((x0 - ((x0.toUInt32 >>> ((1 : Int32).toUInt32 &&& Int32.toUInt32 31)).toInt32 &&& (1431655765 : Int32))) &&& (858993459 : Int32)) + (((x0 - ((x0.toUInt32 >>> ((1 : Int32).toUInt32 &&& Int32.toUInt32 31)).toInt32 &&& (1431655765 : Int32))).toUInt32 >>> ((2 : Int32).toUInt32 &&& Int32.toUInt32 31)).toInt32 &&& (858993459 : Int32))).toUInt32 >>> ((4 : Int32).toUInt32 &&& Int32.toUInt32 31)).toInt32) &&& (252645135 : Int32)))]) hx hb nd_Integer_bitCount_33 rfl hl (by decide) rfl (fun ls hl => ?_)
  refine lv_iload_n hx hb nd_Integer_bitCount_34 rfl (lv_at hl 0 rfl) ?_
  refine lv_iload_n hx hb nd_Integer_bitCount_35 rfl (lv_at hl 0 rfl) ?_
  refine lv_bipush (v := 8) hx hb nd_Integer_bitCount_36 (by decide) ?_
  refine lv_iushr (v := ((((((x0 - ((x0.toUInt32 >>> ((1 : Int32).toUInt32 &&& Int32.toUInt32 31)).toInt32 &&& (1431655765 : Int32))) &&& (858993459 : Int32)) + (((x0 - ((x0.toUInt32 >>> ((1 : Int32).toUInt32 &&& Int32.toUInt32 31)).toInt32 &&& (1431655765 : Int32))).toUInt32 >>> ((2 : Int32).toUInt32 &&& Int32.toUInt32 31)).toInt32 &&& (858993459 : Int32))) + ((((x0 - ((x0.toUInt32 >>> ((1 : Int32).toUInt32 &&& Int32.toUInt32 31)).toInt32 &&& (1431655765 : Int32))) &&& (858993459 : Int32)) + (((x0 - ((x0.toUInt32 >>> ((1 : Int32).toUInt32 &&& Int32.toUInt32 31)).toInt32 &&& (1431655765 : Int32))).toUInt32 >>> ((2 : Int32).toUInt32 &&& Int32.toUInt32 31)).toInt32 &&& (858993459 : Int32))).toUInt32 >>> ((4 : Int32).toUInt32 &&& Int32.toUInt32 31)).toInt32) &&& (252645135 : Int32)).toUInt32 >>> ((8 : Int32).toUInt32 &&& Int32.toUInt32 31)).toInt32) hx hb nd_Integer_bitCount_38 rfl ?_
  refine lv_iadd hx hb nd_Integer_bitCount_39 ?_
  refine lv_istore_n (lv' := [(0, .int ((((((x0 - ((x0.toUInt32 >>> ((1 : Int32).toUInt32 &&& Int32.toUInt32 31)).toInt32 &&& (1431655765 : Int32))) &&& (858993459 : Int32)) + (((x0 - ((x0.toUInt32 >>> ((1 : Int32).toUInt32 &&& Int32.toUInt32 31)).toInt32 &&& (1431655765 : Int32))).toUInt32 >>> ((2 : Int32).toUInt32 &&& Int32.toUInt32 31)).toInt32 &&& (858993459 : Int32))) + ((((x0 - ((x0.toUInt32 >>> ((1 : Int32).toUInt32 &&& Int32.toUInt32 31)).toInt32 &&& (1431655765 : Int32))) &&& (858993459 : Int32)) + (((x0 - ((x0.toUInt32 >>> ((1 : Int32).toUInt32 &&& Int32.toUInt32 31)).toInt32 &&& (1431655765 : Int32))).toUInt32 >>> ((2 : Int32).toUInt32 &&& Int32.toUInt32 31)).toInt32 &&& (858993459 : Int32))).toUInt32 >>> ((4 : Int32).toUInt32 &&& Int32.toUInt32 31)).toInt32) &&& (252645135 : Int32)) + ((((((x0 - ((x0.toUInt32 >>> ((1 : Int32).toUInt32 &&& Int32.toUInt32 31)).toInt32 &&& (1431655765 : Int32))) &&& (858993459 : Int32)) + (((x0 - ((x0.toUInt32 >>> ((1 : Int32).toUInt32 &&& Int32.toUInt32 31)).toInt32 &&& (1431655765 : Int32))).toUInt32 >>> ((2 : Int32).toUInt32 &&& Int32.toUInt32 31)).toInt32 &&& (858993459 : Int32))) + ((((x0 - ((x0.toUInt32 >>> ((1 : Int32).toUInt32 &&& Int32.toUInt32 31)).toInt32 &&& (1431655765 : Int32))) &&& (858993459 : Int32)) + (((x0 - ((x0.toUInt32 >>> ((1 : Int32).toUInt32 &&& Int32.toUInt32 31)).toInt32 &&& (1431655765 : Int32))).toUInt32 >>> ((2 : Int32).toUInt32 &&& Int32.toUInt32 31)).toInt32 &&& (858993459 : Int32))).toUInt32 >>> ((4 : Int32).toUInt32 &&& Int32.toUInt32 31)).toInt32) &&& (252645135 : Int32)).toUInt32 >>> ((8 : Int32).toUInt32 &&& Int32.toUInt32 31)).toInt32))]) hx hb nd_Integer_bitCount_40 rfl hl (by decide) rfl (fun ls hl => ?_)
  refine lv_iload_n hx hb nd_Integer_bitCount_41 rfl (lv_at hl 0 rfl) ?_
  refine lv_iload_n hx hb nd_Integer_bitCount_42 rfl (lv_at hl 0 rfl) ?_
  refine lv_bipush (v := 16) hx hb nd_Integer_bitCount_43 (by decide) ?_
  refine lv_iushr (v := (((((((x0 - ((x0.toUInt32 >>> ((1 : Int32).toUInt32 &&& Int32.toUInt32 31)).toInt32 &&& (1431655765 : Int32))) &&& (858993459 : Int32)) + (((x0 - ((x0.toUInt32 >>> ((1 : Int32).toUInt32 &&& Int32.toUInt32 31)).toInt32 &&& (1431655765 : Int32))).toUInt32 >>> ((2 : Int32).toUInt32 &&& Int32.toUInt32 31)).toInt32 &&& (858993459 : Int32))) + ((((x0 - ((x0.toUInt32 >>> ((1 : Int32).toUInt32 &&& Int32.toUInt32 31)).toInt32 &&& (1431655765 : Int32))) &&& (858993459 : Int32)) + (((x0 - ((x0.toUInt32 >>> ((1 : Int32).toUInt32 &&& Int32.toUInt32 31)).toInt32 &&& (1431655765 : Int32))).toUInt32 >>> ((2 : Int32).toUInt32 &&& Int32.toUInt32 31)).toInt32 &&& (858993459 : Int32))).toUInt32 >>> ((4 : Int32).toUInt32 &&& Int32.toUInt32 31)).toInt32) &&& (252645135 : Int32)) + ((((((x0 - ((x0.toUInt32 >>> ((1 : Int32).toUInt32 &&& Int32.toUInt32 31)).toInt32 &&& (1431655765 : Int32))) &&& (858993459 : Int32)) + (((x0 - ((x0.toUInt32 >>> ((1 : Int32).toUInt32 &&& Int32.toUInt32 31)).toInt32 &&& (1431655765 : Int32))).toUInt32 >>> ((2 : Int32).toUInt32 &&& Int32.toUInt32 31)).toInt32 &&& (858993459 : Int32))) + ((((x0 - ((x0.toUInt32 >>> ((1 : Int32).toUInt32 &&& Int32.toUInt32 31)).toInt32 &&& (1431655765 : Int32))) &&& (858993459 : Int32)) + (((x0 - ((x0.toUInt32 >>> ((1 : Int32).toUInt32 &&& Int32.toUInt32 31)).toInt32 &&& (1431655765 : Int32))).toUInt32 >>> ((2 : Int32).toUInt32 &&& Int32.toUInt32 31)).toInt32 &&& (858993459 : Int32))).toUInt32 >>> ((4 : Int32).toUInt32 &&& Int32.toUInt32 31)).toInt32) &&& (252645135 : Int32)).toUInt32 >>> ((8 : Int32).toUInt32 &&& Int32.toUInt32 31)).toInt32).toUInt32 >>> ((16 : Int32).toUInt32 &&& Int32.toUInt32 31)).toInt32) hx hb nd_Integer_bitCount_45 rfl ?_
  refine lv_iadd hx hb nd_Integer_bitCount_46 ?_
  refine lv_istore_n (lv' := [(0, .int (((((((x0 - ((x0.toUInt32 >>> ((1 : Int32).toUInt32 &&& Int32.toUInt32 31)).toInt32 &&& (1431655765 : Int32))) &&& (858993459 : Int32)) + (((x0 - ((x0.toUInt32 >>> ((1 : Int32).toUInt32 &&& Int32.toUInt32 31)).toInt32 &&& (1431655765 : Int32))).toUInt32 >>> ((2 : Int32).toUInt32 &&& Int32.toUInt32 31)).toInt32 &&& (858993459 : Int32))) + ((((x0 - ((x0.toUInt32 >>> ((1 : Int32).toUInt32 &&& Int32.toUInt32 31)).toInt32 &&& (1431655765 : Int32))) &&& (858993459 : Int32)) + (((x0 - ((x0.toUInt32 >>> ((1 : Int32).toUInt32 &&& Int32.toUInt32 31)).toInt32 &&& (1431655765 : Int32))).toUInt32 >>> ((2 : Int32).toUInt32 &&& Int32.toUInt32 31)).toInt32 &&& (858993459 : Int32))).toUInt32 >>> ((4 : Int32).toUInt32 &&& Int32.toUInt32 31)).toInt32) &&& (252645135 : Int32)) + ((((((x0 - ((x0.toUInt32 >>> ((1 : Int32).toUInt32 &&& Int32.toUInt32 31)).toInt32 &&& (1431655765 : Int32))) &&& (858993459 : Int32)) + (((x0 - ((x0.toUInt32 >>> ((1 : Int32).toUInt32 &&& Int32.toUInt32 31)).toInt32 &&& (1431655765 : Int32))).toUInt32 >>> ((2 : Int32).toUInt32 &&& Int32.toUInt32 31)).toInt32 &&& (858993459 : Int32))) + ((((x0 - ((x0.toUInt32 >>> ((1 : Int32).toUInt32 &&& Int32.toUInt32 31)).toInt32 &&& (1431655765 : Int32))) &&& (858993459 : Int32)) + (((x0 - ((x0.toUInt32 >>> ((1 : Int32).toUInt32 &&& Int32.toUInt32 31)).toInt32 &&& (1431655765 : Int32))).toUInt32 >>> ((2 : Int32).toUInt32 &&& Int32.toUInt32 31)).toInt32 &&& (858993459 : Int32))).toUInt32 >>> ((4 : Int32).toUInt32 &&& Int32.toUInt32 31)).toInt32) &&& (252645135 : Int32)).toUInt32 >>> ((8 : Int32).toUInt32 &&& Int32.toUInt32 31)).toInt32) + (((((((x0 - ((x0.toUInt32 >>> ((1 : Int32).toUInt32 &&& Int32.toUInt32 31)).toInt32 &&& (1431655765 : Int32))) &&& (858993459 : Int32)) + (((x0 - ((x0.toUInt32 >>> ((1 : Int32).toUInt32 &&& Int32.toUInt32 31)).toInt32 &&& (1431655765 : Int32))).toUInt32 >>> ((2 : Int32).toUInt32 &&& Int32.toUInt32 31)).toInt32 &&& (858993459 : Int32))) + ((((x0 - ((x0.toUInt32 >>> ((1 : Int32).toUInt32 &&& Int32.toUInt32 31)).toInt32 &&& (1431655765 : Int32))) &&& (858993459 : Int32)) + (((x0 - ((x0.toUInt32 >>> ((1 : Int32).toUInt32 &&& Int32.toUInt32 31)).toInt32 &&& (1431655765 : Int32))).toUInt32 >>> ((2 : Int32).toUInt32 &&& Int32.toUInt32 31)).toInt32 &&& (858993459 : Int32))).toUInt32 >>> ((4 : Int32).toUInt32 &&& Int32.toUInt32 31)).toInt32) &&& (252645135 : Int32)) + ((((((x0 - ((x0.toUInt32 >>> ((1 : Int32).toUInt32 &&& Int32.toUInt32 31)).toInt32 &&& (1431655765 : Int32))) &&& (858993459 : Int32)) + (((x0 - ((x0.toUInt32 >>> ((1 : Int32).toUInt32 &&& Int32.toUInt32 31)).toInt32 &&& (1431655765 : Int32))).toUInt32 >>> ((2 : Int32).toUInt32 &&& Int32.toUInt32 31)).toInt32 &&& (858993459 : Int32))) + ((((x0 - ((x0.toUInt32 >>> ((1 : Int32).toUInt32 &&& Int32.toUInt32 31)).toInt32 &&& (1431655765 : Int32))) &&& (858993459 : Int32)) + (((x0 - ((x0.toUInt32 >>> ((1 : Int32).toUInt32 &&& Int32.toUInt32 31)).toInt32 &&& (1431655765 : Int32))).toUInt32 >>> ((2 : Int32).toUInt32 &&& Int32.toUInt32 31)).toInt32 &&& (858993459 : Int32))).toUInt32 >>> ((4 : Int32).toUInt32 &&& Int32.toUInt32 31)).toInt32) &&& (252645135 : Int32)).toUInt32 >>> ((8 : Int32).toUInt32 &&& Int32.toUInt32 31)).toInt32).toUInt32 >>> ((16 : Int32).toUInt32 &&& Int32.toUInt32 31)).toInt32))]) hx hb nd_Integer_bitCount_47 rfl hl (by decide) rfl (fun ls hl => ?_)
  refine lv_iload_n hx hb nd_Integer_bitCount_48 rfl (lv_at hl 0 rfl) ?_
  refine lv_bipush (v := 63) hx hb nd_Integer_bitCount_49 (by decide) ?_
  refine lv_iand hx hb nd_Integer_bitCount_51 ?_
  exact W.iret (v := ((((((((x0 - ((x0.toUInt32 >>> ((1 : Int32).toUInt32 &&& Int32.toUInt32 31)).toInt32 &&& (1431655765 : Int32))) &&& (858993459 : Int32)) + (((x0 - ((x0.toUInt32 >>> ((1 : Int32).toUInt32 &&& Int32.toUInt32 31)).toInt32 &&& (1431655765 : Int32))).toUInt32 >>> ((2 : Int32).toUInt32 &&& Int32.toUInt32 31)).toInt32 &&& (858993459 : Int32))) + ((((x0 - ((x0.toUInt32 >>> ((1 : Int32).toUInt32 &&& Int32.toUInt32 31)).toInt32 &&& (1431655765 : Int32))) &&& (858993459 : Int32)) + (((x0 - ((x0.toUInt32 >>> ((1 : Int32).toUInt32 &&& Int32.toUInt32 31)).toInt32 &&& (1431655765 : Int32))).toUInt32 >>> ((2 : Int32).toUInt32 &&& Int32.toUInt32 31)).toInt32 &&& (858993459 : Int32))).toUInt32 >>> ((4 : Int32).toUInt32 &&& Int32.toUInt32 31)).toInt32) &&& (252645135 : Int32)) + ((((((x0 - ((x0.toUInt32 >>> ((1 : Int32).toUInt32 &&& Int32.toUInt32 31)).toInt32 &&& (1431655765 : Int32))) &&& (858993459 : Int32)) + (((x0 - ((x0.toUInt32 >>> ((1 : Int32).toUInt32 &&& Int32.toUInt32 31)).toInt32 &&& (1431655765 : Int32))).toUInt32 >>> ((2 : Int32).toUInt32 &&& Int32.toUInt32 31)).toInt32 &&& (858993459 : Int32))) + ((((x0 - ((x0.toUInt32 >>> ((1 : Int32).toUInt32 &&& Int32.toUInt32 31)).toInt32 &&& (1431655765 : Int32))) &&& (858993459 : Int32)) + (((x0 - ((x0.toUInt32 >>> ((1 : Int32).toUInt32 &&& Int32.toUInt32 31)).toInt32 &&& (1431655765 : Int32))).toUInt32 >>> ((2 : Int32).toUInt32 &&& Int32.toUInt32 31)).toInt32 &&& (858993459 : Int32))).toUInt32 >>> ((4 : Int32).toUInt32 &&& Int32.toUInt32 31)).toInt32) &&& (252645135 : Int32)).toUInt32 >>> ((8 : Int32).toUInt32 &&& Int32.toUInt32 31)).toInt32) + (((((((x0 - ((x0.toUInt32 >>> ((1 : Int32).toUInt32 &&& Int32.toUInt32 31)).toInt32 &&& (1431655765 : Int32))) &&& (858993459 : Int32)) + (((x0 - ((x0.toUInt32 >>> ((1 : Int32).toUInt32 &&& Int32.toUInt32 31)).toInt32 &&& (1431655765 : Int32))).toUInt32 >>> ((2 : Int32).toUInt32 &&& Int32.toUInt32 31)).toInt32 &&& (858993459 : Int32))) + ((((x0 - ((x0.toUInt32 >>> ((1 : Int32).toUInt32 &&& Int32.toUInt32 31)).toInt32 &&& (1431655765 : Int32))) &&& (858993459 : Int32)) + (((x0 - ((x0.toUInt32 >>> ((1 : Int32).toUInt32 &&& Int32.toUInt32 31)).toInt32 &&& (1431655765 : Int32))).toUInt32 >>> ((2 : Int32).toUInt32 &&& Int32.toUInt32 31)).toInt32 &&& (858993459 : Int32))).toUInt32 >>> ((4 : Int32).toUInt32 &&& Int32.toUInt32 31)).toInt32) &&& (252645135 : Int32)) + ((((((x0 - ((x0.toUInt32 >>> ((1 : Int32).toUInt32 &&& Int32.toUInt32 31)).toInt32 &&& (1431655765 : Int32))) &&& (858993459 : Int32)) + (((x0 - ((x0.toUInt32 >>> ((1 : Int32).toUInt32 &&& Int32.toUInt32 31)).toInt32 &&& (1431655765 : Int32))).toUInt32 >>> ((2 : Int32).toUInt32 &&& Int32.toUInt32 31)).toInt32 &&& (858993459 : Int32))) + ((((x0 - ((x0.toUInt32 >>> ((1 : Int32).toUInt32 &&& Int32.toUInt32 31)).toInt32 &&& (1431655765 : Int32))) &&& (858993459 : Int32)) + (((x0 - ((x0.toUInt32 >>> ((1 : Int32).toUInt32 &&& Int32.toUInt32 31)).toInt32 &&& (1431655765 : Int32))).toUInt32 >>> ((2 : Int32).toUInt32 &&& Int32.toUInt32 31)).toInt32 &&& (858993459 : Int32))).toUInt32 >>> ((4 : Int32).toUInt32 &&& Int32.toUInt32 31)).toInt32) &&& (252645135 : Int32)).toUInt32 >>> ((8 : Int32).toUInt32 &&& Int32.toUInt32 31)).toInt32).toUInt32 >>> ((16 : Int32).toUInt32 &&& Int32.toUInt32 31)).toInt32) &&& (63 : Int32))) hx hb hr (fun t ht hW => ⟨⟨((((((((x0 - ((x0.toUInt32 >>> ((1 : Int32).toUInt32 &&& Int32.toUInt32 31)).toInt32 &&& (1431655765 : Int32))) &&& (858993459 : Int32)) + (((x0 - ((x0.toUInt32 >>> ((1 : Int32).toUInt32 &&& Int32.toUInt32 31)).toInt32 &&& (1431655765 : Int32))).toUInt32 >>> ((2 : Int32).toUInt32 &&& Int32.toUInt32 31)).toInt32 &&& (858993459 : Int32))) + ((((x0 - ((x0.toUInt32 >>> ((1 : Int32).toUInt32 &&& Int32.toUInt32 31)).toInt32 &&& (1431655765 : Int32))) &&& (858993459 : Int32)) + (((x0 - ((x0.toUInt32 >>> ((1 : Int32).toUInt32 &&& Int32.toUInt32 31)).toInt32 &&& (1431655765 : Int32))).toUInt32 >>> ((2 : Int32).toUInt32 &&& Int32.toUInt32 31)).toInt32 &&& (858993459 : Int32))).toUInt32 >>> ((4 : Int32).toUInt32 &&& Int32.toUInt32 31)).toInt32) &&& (252645135 : Int32)) + ((((((x0 - ((x0.toUInt32 >>> ((1 : Int32).toUInt32 &&& Int32.toUInt32 31)).toInt32 &&& (1431655765 : Int32))) &&& (858993459 : Int32)) + (((x0 - ((x0.toUInt32 >>> ((1 : Int32).toUInt32 &&& Int32.toUInt32 31)).toInt32 &&& (1431655765 : Int32))).toUInt32 >>> ((2 : Int32).toUInt32 &&& Int32.toUInt32 31)).toInt32 &&& (858993459 : Int32))) + ((((x0 - ((x0.toUInt32 >>> ((1 : Int32).toUInt32 &&& Int32.toUInt32 31)).toInt32 &&& (1431655765 : Int32))) &&& (858993459 : Int32)) + (((x0 - ((x0.toUInt32 >>> ((1 : Int32).toUInt32 &&& Int32.toUInt32 31)).toInt32 &&& (1431655765 : Int32))).toUInt32 >>> ((2 : Int32).toUInt32 &&& Int32.toUInt32 31)).toInt32 &&& (858993459 : Int32))).toUInt32 >>> ((4 : Int32).toUInt32 &&& Int32.toUInt32 31)).toInt32) &&& (252645135 : Int32)).toUInt32 >>> ((8 : Int32).toUInt32 &&& Int32.toUInt32 31)).toInt32) + (((((((x0 - ((x0.toUInt32 >>> ((1 : Int32).toUInt32 &&& Int32.toUInt32 31)).toInt32 &&& (1431655765 : Int32))) &&& (858993459 : Int32)) + (((x0 - ((x0.toUInt32 >>> ((1 : Int32).toUInt32 &&& Int32.toUInt32 31)).toInt32 &&& (1431655765 : Int32))).toUInt32 >>> ((2 : Int32).toUInt32 &&& Int32.toUInt32 31)).toInt32 &&& (858993459 : Int32))) + ((((x0 - ((x0.toUInt32 >>> ((1 : Int32).toUInt32 &&& Int32.toUInt32 31)).toInt32 &&& (1431655765 : Int32))) &&& (858993459 : Int32)) + (((x0 - ((x0.toUInt32 >>> ((1 : Int32).toUInt32 &&& Int32.toUInt32 31)).toInt32 &&& (1431655765 : Int32))).toUInt32 >>> ((2 : Int32).toUInt32 &&& Int32.toUInt32 31)).toInt32 &&& (858993459 : Int32))).toUInt32 >>> ((4 : Int32).toUInt32 &&& Int32.toUInt32 31)).toInt32) &&& (252645135 : Int32)) + ((((((x0 - ((x0.toUInt32 >>> ((1 : Int32).toUInt32 &&& Int32.toUInt32 31)).toInt32 &&& (1431655765 : Int32))) &&& (858993459 : Int32)) + (((x0 - ((x0.toUInt32 >>> ((1 : Int32).toUInt32 &&& Int32.toUInt32 31)).toInt32 &&& (1431655765 : Int32))).toUInt32 >>> ((2 : Int32).toUInt32 &&& Int32.toUInt32 31)).toInt32 &&& (858993459 : Int32))) + ((((x0 - ((x0.toUInt32 >>> ((1 : Int32).toUInt32 &&& Int32.toUInt32 31)).toInt32 &&& (1431655765 : Int32))) &&& (858993459 : Int32)) + (((x0 - ((x0.toUInt32 >>> ((1 : Int32).toUInt32 &&& Int32.toUInt32 31)).toInt32 &&& (1431655765 : Int32))).toUInt32 >>> ((2 : Int32).toUInt32 &&& Int32.toUInt32 31)).toInt32 &&& (858993459 : Int32))).toUInt32 >>> ((4 : Int32).toUInt32 &&& Int32.toUInt32 31)).toInt32) &&& (252645135 : Int32)).toUInt32 >>> ((8 : Int32).toUInt32 &&& Int32.toUInt32 31)).toInt32).toUInt32 >>> ((16 : Int32).toUInt32 &&& Int32.toUInt32 31)).toInt32) &&& (63 : Int32)), (), rfl, by rw [hT, ← hM], by rw [ht]; exact hP, va_K.moved hW.alike hK, hD⟩, hS.F ht⟩) hS.2.2 nd_Integer_bitCount_52
end
section
theorem nd_Plan_hasTask_0 : decode prog_4_method_2_code 0 = .ok (.iload_n 1, 1) := by decide +kernel
theorem nd_Plan_hasTask_1 : decode prog_4_method_2_code 1 = .ok (.iconst 1, 1) := by decide +kernel
theorem nd_Plan_hasTask_2 : decode prog_4_method_2_code 2 = .ok (.if_icmp .lt (15), 3) := by decide +kernel
theorem nd_Plan_hasTask_5 : decode prog_4_method_2_code 5 = .ok (.iload_n 1, 1) := by decide +kernel
theorem nd_Plan_hasTask_6 : decode prog_4_method_2_code 6 = .ok (.aload_n 0, 1) := by decide +kernel
theorem nd_Plan_hasTask_7 : decode prog_4_method_2_code 7 = .ok (.getfield 29, 3) := by decide +kernel
theorem nd_Plan_hasTask_10 : decode prog_4_method_2_code 10 = .ok (.if_icmp .gt (7), 3) := by decide +kernel
theorem nd_Plan_hasTask_13 : decode prog_4_method_2_code 13 = .ok (.iconst 1, 1) := by decide +kernel
theorem nd_Plan_hasTask_14 : decode prog_4_method_2_code 14 = .ok (.goto (4), 3) := by decide +kernel
theorem nd_Plan_hasTask_17 : decode prog_4_method_2_code 17 = .ok (.iconst 0, 1) := by decide +kernel
theorem nd_Plan_hasTask_18 : decode prog_4_method_2_code 18 = .ok (.ireturn, 1) := by decide +kernel
def md_Plan_hasTask (pl : cr_S) (x1 : Int32) : Int32 :=
  (if x1 < (1 : Int32) then (0 : Int32) else (if (pl 0 0) < x1 then (0 : Int32) else (1 : Int32)))
abbrev pq_Plan_hasTask (dC : Nat → ClassId) (dI : Nat → Nat → Nat) (cI cZ cO : ClassId) (apl : Nat → Nat) (pl : cr_S) (x1 : Int32) (A : Nat → Prop) : Array Value → State → Outcome → State → Prop :=
  va_Qi (fun (r : Int32) (_ : Unit) => r = md_Plan_hasTask pl x1 ∧ (r.toInt = 0 ∨ (1 ≤ x1.toInt ∧ x1.toInt ≤ (pl 0 0).toInt))) (fun (_ : Unit) t => va_P (dC, dI) vwCl (cw_Plan cI cZ cO apl pl) t.heap ∧ va_K (dC, dI) vwCl [(cI, .int), (cZ, .boolean), (cO, .array .int)] t ∧ va_D A (cw_Plan cI cZ cO apl pl)) A
set_option maxHeartbeats 4000000 in
set_option maxRecDepth 100000 in
theorem ct_Plan_hasTask (l : Launch) (dC : Nat → ClassId) (dI : Nat → Nat → Nat) (cI cZ cO : ClassId) (apl : Nat → Nat) (sz : Nat) (pl : cr_S) (x1 : Int32) (hR_pl : cr_RPlan pl) : Met l ny_Plan_hasTask nw_Plan_hasTask ({ frames := 0, cells := 0, slots := 0, locals := 0 } : Room) (va_Pc [.ref (apl 0), .int x1] (fun U => U.heap.size = sz ∧ va_P (dC, dI) vwCl (cw_Plan cI cZ cO apl pl) U.heap ∧ va_K (dC, dI) vwCl [(cI, .int), (cZ, .boolean), (cO, .array .int)] U ∧ va_D (fun _ => True) (cw_Plan cI cZ cO apl pl))) (pq_Plan_hasTask dC dI cI cZ cO apl pl x1 (va_A (cw_Plan cI cZ cO apl pl) sz)) 0 0 (va_A (cw_Plan cI cZ cO apl pl) sz) := by
  refine Met.ofW (cc := prog_4_method_2_code) (maxL := 2) (ret := (some .boolean)) (by decide) rfl ?_
  intro p e s m args below meth c s₁ B hml hv
  obtain ⟨rfl, hsz, hP, hK, hD0⟩ := hv
  have hx := B.exec
  have hb := B.bytes
  have hr := B.returns
  have hts0 := atoms_spec (ws := nw_Plan_hasTask) B.pre
  have hts : ∀ w ∈ ng_tbl, w.before ([.ref (apl 0), .int x1] : List Value).toArray s = true := fun w h => hts0 w (List.mem_cons_of_mem _ h)
  have hown : s.vm.findClass "CeilingRows$Plan" = some m.cls := findClass_of_methodNamed B.named
  have hlocks := B.notSynchronized
  subst hsz
  have hD := hD0.self (sz := s.heap.size)
  generalize hAe : va_A (cw_Plan cI cZ cO apl pl) s.heap.size = A at hD ⊢
  have hA : ∀ q : Nat, s.heap.size ≤ q → A q := fun q h => by rw [← hAe]; exact Or.inr h
  have hS : va_S A s.heap s.heap [] := va_S.rf
  have hP : va_P (dC, dI) vwCl (cw_Plan cI cZ cO apl pl) s.heap := hP
  have hl := lv_entry ([.ref (apl 0), .int x1]) (n := 2) (Nat.le_of_ble_eq_true rfl)
  rw [lg_entry_eq]
  generalize (lg_sl ([.ref (apl 0), .int x1]) ++ List.replicate (2 - (lg_sl ([.ref (apl 0), .int x1])).length) Slot.unset).toArray = ls at hl ⊢
  have hl : lv_has ls 2 [(0, .ref (apl 0)), (1, .int x1)] := hl
  have k_0 : (0 : Int32).toInt = 0 := by decide
  have k_1 : (1 : Int32).toInt = 1 := by decide
  obtain ⟨tgt, hT⟩ : ∃ z, md_Plan_hasTask pl x1 = z := ⟨_, rfl⟩
  have hM := hT
  unfold md_Plan_hasTask at hM
  refine lv_iload_n hx hb nd_Plan_hasTask_0 rfl (lv_at hl 1 rfl) ?_
  refine lv_iconst (v := 1) hx hb nd_Plan_hasTask_1 (by decide) ?_
  refine lv_icmp_lt (tgt := 17) hx hb nd_Plan_hasTask_2 (by decide) (fun c_1 => ?_) (fun c_1 => ?_)
  · have c_1t := cr_lt c_1
    rw [if_pos c_1] at hM
    refine lv_iconst (v := 0) hx hb nd_Plan_hasTask_17 (by decide) ?_
    exact W.zret (v := (0 : Int32)) (ty := .boolean) hx hb hr (by decide) (fun t ht hW => ⟨⟨(0 : Int32), (), rfl, ⟨by rw [hT, ← hM], by omega⟩, by rw [ht]; exact hP, va_K.moved hW.alike hK, hD⟩, hS.F ht⟩) hS.2.2 nd_Plan_hasTask_18
  · have c_1t := cr_nlt c_1
    rw [if_neg c_1] at hM
    refine lv_iload_n hx hb nd_Plan_hasTask_5 rfl (lv_at hl 1 rfl) ?_
    refine lv_aload_n hx hb nd_Plan_hasTask_6 rfl (lv_at hl 0 rfl) ?_
    refine va_get (D := (dC, dI)) (ci := 0) (v := .int (pl 0 0)) (C := "CeilingRows$Plan") (T := nf_Plan) (N := 7) hx hb hts nin_Plan hown hK hP 0 rfl rfl 0 (by decide) (hts _ tw_26) (fun _ h9 => h9) rfl nd_Plan_hasTask_7 ?_
    have f_2 := cr_rfo hR_pl.1
    refine lv_icmp_gt (tgt := 17) hx hb nd_Plan_hasTask_10 (by decide) (fun c_3 => ?_) (fun c_3 => ?_)
    · have c_3t := cr_lt c_3
      rw [if_pos c_3] at hM
      refine lv_iconst (v := 0) hx hb nd_Plan_hasTask_17 (by decide) ?_
      exact W.zret (v := (0 : Int32)) (ty := .boolean) hx hb hr (by decide) (fun t ht hW => ⟨⟨(0 : Int32), (), rfl, ⟨by rw [hT, ← hM], by omega⟩, by rw [ht]; exact hP, va_K.moved hW.alike hK, hD⟩, hS.F ht⟩) hS.2.2 nd_Plan_hasTask_18
    · have c_3t := cr_nlt c_3
      rw [if_neg c_3] at hM
      refine lv_iconst (v := 1) hx hb nd_Plan_hasTask_13 (by decide) ?_
      refine lv_goto (tgt := 18) hx hb nd_Plan_hasTask_14 (by decide) ?_
      exact W.zret (v := (1 : Int32)) (ty := .boolean) hx hb hr (by decide) (fun t ht hW => ⟨⟨(1 : Int32), (), rfl, ⟨by rw [hT, ← hM], by omega⟩, by rw [ht]; exact hP, va_K.moved hW.alike hK, hD⟩, hS.F ht⟩) hS.2.2 nd_Plan_hasTask_18

theorem nd_Plan_hasResource_0 : decode prog_4_method_3_code 0 = .ok (.iload_n 1, 1) := by decide +kernel
theorem nd_Plan_hasResource_1 : decode prog_4_method_3_code 1 = .ok (.iconst 1, 1) := by decide +kernel
theorem nd_Plan_hasResource_2 : decode prog_4_method_3_code 2 = .ok (.if_icmp .lt (15), 3) := by decide +kernel
theorem nd_Plan_hasResource_5 : decode prog_4_method_3_code 5 = .ok (.iload_n 1, 1) := by decide +kernel
theorem nd_Plan_hasResource_6 : decode prog_4_method_3_code 6 = .ok (.aload_n 0, 1) := by decide +kernel
theorem nd_Plan_hasResource_7 : decode prog_4_method_3_code 7 = .ok (.getfield 33, 3) := by decide +kernel
theorem nd_Plan_hasResource_10 : decode prog_4_method_3_code 10 = .ok (.if_icmp .gt (7), 3) := by decide +kernel
theorem nd_Plan_hasResource_13 : decode prog_4_method_3_code 13 = .ok (.iconst 1, 1) := by decide +kernel
theorem nd_Plan_hasResource_14 : decode prog_4_method_3_code 14 = .ok (.goto (4), 3) := by decide +kernel
theorem nd_Plan_hasResource_17 : decode prog_4_method_3_code 17 = .ok (.iconst 0, 1) := by decide +kernel
theorem nd_Plan_hasResource_18 : decode prog_4_method_3_code 18 = .ok (.ireturn, 1) := by decide +kernel
def md_Plan_hasResource (pl : cr_S) (x1 : Int32) : Int32 :=
  (if x1 < (1 : Int32) then (0 : Int32) else (if (pl 0 1) < x1 then (0 : Int32) else (1 : Int32)))
abbrev pq_Plan_hasResource (dC : Nat → ClassId) (dI : Nat → Nat → Nat) (cI cZ cO : ClassId) (apl : Nat → Nat) (pl : cr_S) (x1 : Int32) (A : Nat → Prop) : Array Value → State → Outcome → State → Prop :=
  va_Qi (fun (r : Int32) (_ : Unit) => r = md_Plan_hasResource pl x1 ∧ (r.toInt = 0 ∨ (1 ≤ x1.toInt ∧ x1.toInt ≤ (pl 0 1).toInt))) (fun (_ : Unit) t => va_P (dC, dI) vwCl (cw_Plan cI cZ cO apl pl) t.heap ∧ va_K (dC, dI) vwCl [(cI, .int), (cZ, .boolean), (cO, .array .int)] t ∧ va_D A (cw_Plan cI cZ cO apl pl)) A
set_option maxHeartbeats 4000000 in
set_option maxRecDepth 100000 in
theorem ct_Plan_hasResource (l : Launch) (dC : Nat → ClassId) (dI : Nat → Nat → Nat) (cI cZ cO : ClassId) (apl : Nat → Nat) (sz : Nat) (pl : cr_S) (x1 : Int32) (hR_pl : cr_RPlan pl) : Met l ny_Plan_hasResource nw_Plan_hasResource ({ frames := 0, cells := 0, slots := 0, locals := 0 } : Room) (va_Pc [.ref (apl 0), .int x1] (fun U => U.heap.size = sz ∧ va_P (dC, dI) vwCl (cw_Plan cI cZ cO apl pl) U.heap ∧ va_K (dC, dI) vwCl [(cI, .int), (cZ, .boolean), (cO, .array .int)] U ∧ va_D (fun _ => True) (cw_Plan cI cZ cO apl pl))) (pq_Plan_hasResource dC dI cI cZ cO apl pl x1 (va_A (cw_Plan cI cZ cO apl pl) sz)) 0 0 (va_A (cw_Plan cI cZ cO apl pl) sz) := by
  refine Met.ofW (cc := prog_4_method_3_code) (maxL := 2) (ret := (some .boolean)) (by decide) rfl ?_
  intro p e s m args below meth c s₁ B hml hv
  obtain ⟨rfl, hsz, hP, hK, hD0⟩ := hv
  have hx := B.exec
  have hb := B.bytes
  have hr := B.returns
  have hts0 := atoms_spec (ws := nw_Plan_hasResource) B.pre
  have hts : ∀ w ∈ ng_tbl, w.before ([.ref (apl 0), .int x1] : List Value).toArray s = true := fun w h => hts0 w (List.mem_cons_of_mem _ h)
  have hown : s.vm.findClass "CeilingRows$Plan" = some m.cls := findClass_of_methodNamed B.named
  have hlocks := B.notSynchronized
  subst hsz
  have hD := hD0.self (sz := s.heap.size)
  generalize hAe : va_A (cw_Plan cI cZ cO apl pl) s.heap.size = A at hD ⊢
  have hA : ∀ q : Nat, s.heap.size ≤ q → A q := fun q h => by rw [← hAe]; exact Or.inr h
  have hS : va_S A s.heap s.heap [] := va_S.rf
  have hP : va_P (dC, dI) vwCl (cw_Plan cI cZ cO apl pl) s.heap := hP
  have hl := lv_entry ([.ref (apl 0), .int x1]) (n := 2) (Nat.le_of_ble_eq_true rfl)
  rw [lg_entry_eq]
  generalize (lg_sl ([.ref (apl 0), .int x1]) ++ List.replicate (2 - (lg_sl ([.ref (apl 0), .int x1])).length) Slot.unset).toArray = ls at hl ⊢
  have hl : lv_has ls 2 [(0, .ref (apl 0)), (1, .int x1)] := hl
  have k_0 : (0 : Int32).toInt = 0 := by decide
  have k_1 : (1 : Int32).toInt = 1 := by decide
  obtain ⟨tgt, hT⟩ : ∃ z, md_Plan_hasResource pl x1 = z := ⟨_, rfl⟩
  have hM := hT
  unfold md_Plan_hasResource at hM
  refine lv_iload_n hx hb nd_Plan_hasResource_0 rfl (lv_at hl 1 rfl) ?_
  refine lv_iconst (v := 1) hx hb nd_Plan_hasResource_1 (by decide) ?_
  refine lv_icmp_lt (tgt := 17) hx hb nd_Plan_hasResource_2 (by decide) (fun c_1 => ?_) (fun c_1 => ?_)
  · have c_1t := cr_lt c_1
    rw [if_pos c_1] at hM
    refine lv_iconst (v := 0) hx hb nd_Plan_hasResource_17 (by decide) ?_
    exact W.zret (v := (0 : Int32)) (ty := .boolean) hx hb hr (by decide) (fun t ht hW => ⟨⟨(0 : Int32), (), rfl, ⟨by rw [hT, ← hM], by omega⟩, by rw [ht]; exact hP, va_K.moved hW.alike hK, hD⟩, hS.F ht⟩) hS.2.2 nd_Plan_hasResource_18
  · have c_1t := cr_nlt c_1
    rw [if_neg c_1] at hM
    refine lv_iload_n hx hb nd_Plan_hasResource_5 rfl (lv_at hl 1 rfl) ?_
    refine lv_aload_n hx hb nd_Plan_hasResource_6 rfl (lv_at hl 0 rfl) ?_
    refine va_get (D := (dC, dI)) (ci := 0) (v := .int (pl 0 1)) (C := "CeilingRows$Plan") (T := nf_Plan) (N := 7) hx hb hts nin_Plan hown hK hP 0 rfl rfl 1 (by decide) (hts _ tw_31) (fun _ h9 => h9) rfl nd_Plan_hasResource_7 ?_
    have f_2 := cr_rfo hR_pl.2.1
    refine lv_icmp_gt (tgt := 17) hx hb nd_Plan_hasResource_10 (by decide) (fun c_3 => ?_) (fun c_3 => ?_)
    · have c_3t := cr_lt c_3
      rw [if_pos c_3] at hM
      refine lv_iconst (v := 0) hx hb nd_Plan_hasResource_17 (by decide) ?_
      exact W.zret (v := (0 : Int32)) (ty := .boolean) hx hb hr (by decide) (fun t ht hW => ⟨⟨(0 : Int32), (), rfl, ⟨by rw [hT, ← hM], by omega⟩, by rw [ht]; exact hP, va_K.moved hW.alike hK, hD⟩, hS.F ht⟩) hS.2.2 nd_Plan_hasResource_18
    · have c_3t := cr_nlt c_3
      rw [if_neg c_3] at hM
      refine lv_iconst (v := 1) hx hb nd_Plan_hasResource_13 (by decide) ?_
      refine lv_goto (tgt := 18) hx hb nd_Plan_hasResource_14 (by decide) ?_
      exact W.zret (v := (1 : Int32)) (ty := .boolean) hx hb hr (by decide) (fun t ht hW => ⟨⟨(1 : Int32), (), rfl, ⟨by rw [hT, ← hM], by omega⟩, by rw [ht]; exact hP, va_K.moved hW.alike hK, hD⟩, hS.F ht⟩) hS.2.2 nd_Plan_hasResource_18

theorem nd_Plan_addTask_0 : decode prog_4_method_4_code 0 = .ok (.aload_n 0, 1) := by decide +kernel
theorem nd_Plan_addTask_1 : decode prog_4_method_4_code 1 = .ok (.dup, 1) := by decide +kernel
theorem nd_Plan_addTask_2 : decode prog_4_method_4_code 2 = .ok (.getfield 29, 3) := by decide +kernel
theorem nd_Plan_addTask_5 : decode prog_4_method_4_code 5 = .ok (.iconst 1, 1) := by decide +kernel
theorem nd_Plan_addTask_6 : decode prog_4_method_4_code 6 = .ok (.iadd, 1) := by decide +kernel
theorem nd_Plan_addTask_7 : decode prog_4_method_4_code 7 = .ok (.putfield 29, 3) := by decide +kernel
theorem nd_Plan_addTask_10 : decode prog_4_method_4_code 10 = .ok (.aload_n 0, 1) := by decide +kernel
theorem nd_Plan_addTask_11 : decode prog_4_method_4_code 11 = .ok (.getfield 9, 3) := by decide +kernel
theorem nd_Plan_addTask_14 : decode prog_4_method_4_code 14 = .ok (.aload_n 0, 1) := by decide +kernel
theorem nd_Plan_addTask_15 : decode prog_4_method_4_code 15 = .ok (.getfield 29, 3) := by decide +kernel
theorem nd_Plan_addTask_18 : decode prog_4_method_4_code 18 = .ok (.iload_n 1, 1) := by decide +kernel
theorem nd_Plan_addTask_19 : decode prog_4_method_4_code 19 = .ok (.iastore, 1) := by decide +kernel
theorem nd_Plan_addTask_20 : decode prog_4_method_4_code 20 = .ok (.aload_n 0, 1) := by decide +kernel
theorem nd_Plan_addTask_21 : decode prog_4_method_4_code 21 = .ok (.getfield 15, 3) := by decide +kernel
theorem nd_Plan_addTask_24 : decode prog_4_method_4_code 24 = .ok (.aload_n 0, 1) := by decide +kernel
theorem nd_Plan_addTask_25 : decode prog_4_method_4_code 25 = .ok (.getfield 29, 3) := by decide +kernel
theorem nd_Plan_addTask_28 : decode prog_4_method_4_code 28 = .ok (.iload_n 2, 1) := by decide +kernel
theorem nd_Plan_addTask_29 : decode prog_4_method_4_code 29 = .ok (.iastore, 1) := by decide +kernel
theorem nd_Plan_addTask_30 : decode prog_4_method_4_code 30 = .ok (.aload_n 0, 1) := by decide +kernel
theorem nd_Plan_addTask_31 : decode prog_4_method_4_code 31 = .ok (.getfield 29, 3) := by decide +kernel
theorem nd_Plan_addTask_34 : decode prog_4_method_4_code 34 = .ok (.ireturn, 1) := by decide +kernel
def md_Plan_addTask (pl : cr_S) (x1 : Int32) (x2 : Int32) : Int32 × cr_S :=
  (((cr_up (cr_up (cr_up pl 0 0 ((pl 0 0) + (1 : Int32))) 1 ((cr_up pl 0 0 ((pl 0 0) + (1 : Int32))) 0 0).toNatClampNeg x1) 2 ((cr_up (cr_up pl 0 0 ((pl 0 0) + (1 : Int32))) 1 ((cr_up pl 0 0 ((pl 0 0) + (1 : Int32))) 0 0).toNatClampNeg x1) 0 0).toNatClampNeg x2) 0 0), (cr_up (cr_up (cr_up pl 0 0 ((pl 0 0) + (1 : Int32))) 1 ((cr_up pl 0 0 ((pl 0 0) + (1 : Int32))) 0 0).toNatClampNeg x1) 2 ((cr_up (cr_up pl 0 0 ((pl 0 0) + (1 : Int32))) 1 ((cr_up pl 0 0 ((pl 0 0) + (1 : Int32))) 0 0).toNatClampNeg x1) 0 0).toNatClampNeg x2))
abbrev pq_Plan_addTask (dC : Nat → ClassId) (dI : Nat → Nat → Nat) (cI cZ cO : ClassId) (apl : Nat → Nat) (pl : cr_S) (x1 : Int32) (x2 : Int32) (A : Nat → Prop) : Array Value → State → Outcome → State → Prop :=
  va_Qi (fun (r : Int32) (pl' : cr_S) => r = (md_Plan_addTask pl x1 x2).1 ∧ pl' = (md_Plan_addTask pl x1 x2).2 ∧ cr_RPlan pl') (fun (pl' : cr_S) t => va_P (dC, dI) vwCl (cw_Plan cI cZ cO apl pl') t.heap ∧ va_K (dC, dI) vwCl [(cI, .int), (cZ, .boolean), (cO, .array .int)] t ∧ va_D A (cw_Plan cI cZ cO apl pl')) A
set_option maxHeartbeats 4000000 in
set_option maxRecDepth 100000 in
theorem ct_Plan_addTask (l : Launch) (dC : Nat → ClassId) (dI : Nat → Nat → Nat) (cI cZ cO : ClassId) (apl : Nat → Nat) (sz : Nat) (pl : cr_S) (x1 : Int32) (x2 : Int32) (hR_pl : cr_RPlan pl) (hx2 : 1 ≤ x2.toInt ∧ x2.toInt ≤ 3) (hq : (pl 0 0).toInt ≤ 9) : Met l ny_Plan_addTask nw_Plan_addTask ({ frames := 0, cells := 0, slots := 0, locals := 0 } : Room) (va_Pc [.ref (apl 0), .int x1, .int x2] (fun U => U.heap.size = sz ∧ va_P (dC, dI) vwCl (cw_Plan cI cZ cO apl pl) U.heap ∧ va_K (dC, dI) vwCl [(cI, .int), (cZ, .boolean), (cO, .array .int)] U ∧ va_D (fun _ => True) (cw_Plan cI cZ cO apl pl))) (pq_Plan_addTask dC dI cI cZ cO apl pl x1 x2 (va_A (cw_Plan cI cZ cO apl pl) sz)) 0 0 (va_A (cw_Plan cI cZ cO apl pl) sz) := by
  refine Met.ofW (cc := prog_4_method_4_code) (maxL := 3) (ret := (some .int)) (by decide) rfl ?_
  intro p e s m args below meth c s₁ B hml hv
  obtain ⟨rfl, hsz, hP, hK, hD0⟩ := hv
  have hx := B.exec
  have hb := B.bytes
  have hr := B.returns
  have hts0 := atoms_spec (ws := nw_Plan_addTask) B.pre
  have hts : ∀ w ∈ ng_tbl, w.before ([.ref (apl 0), .int x1, .int x2] : List Value).toArray s = true := fun w h => hts0 w (List.mem_cons_of_mem _ h)
  have hown : s.vm.findClass "CeilingRows$Plan" = some m.cls := findClass_of_methodNamed B.named
  have hlocks := B.notSynchronized
  subst hsz
  have hD := hD0.self (sz := s.heap.size)
  generalize hAe : va_A (cw_Plan cI cZ cO apl pl) s.heap.size = A at hD ⊢
  have hA : ∀ q : Nat, s.heap.size ≤ q → A q := fun q h => by rw [← hAe]; exact Or.inr h
  have hS : va_S A s.heap s.heap [] := va_S.rf
  have hP : va_P (dC, dI) vwCl (cw_Plan cI cZ cO apl pl) s.heap := hP
  have hl := lv_entry ([.ref (apl 0), .int x1, .int x2]) (n := 3) (Nat.le_of_ble_eq_true rfl)
  rw [lg_entry_eq]
  generalize (lg_sl ([.ref (apl 0), .int x1, .int x2]) ++ List.replicate (3 - (lg_sl ([.ref (apl 0), .int x1, .int x2])).length) Slot.unset).toArray = ls at hl ⊢
  have hl : lv_has ls 3 [(0, .ref (apl 0)), (1, .int x1), (2, .int x2)] := hl
  have k_1 : (1 : Int32).toInt = 1 := by decide
  obtain ⟨tgt, hT⟩ : ∃ z, md_Plan_addTask pl x1 x2 = z := ⟨_, rfl⟩
  have hM := hT
  unfold md_Plan_addTask at hM
  refine lv_aload_n hx hb nd_Plan_addTask_0 rfl (lv_at hl 0 rfl) ?_
  refine lv_dup hx hb nd_Plan_addTask_1 rfl ?_
  refine va_get (D := (dC, dI)) (ci := 0) (v := .int (pl 0 0)) (C := "CeilingRows$Plan") (T := nf_Plan) (N := 7) hx hb hts nin_Plan hown hK hP 0 rfl rfl 0 (by decide) (hts _ tw_26) (fun _ h9 => h9) rfl nd_Plan_addTask_2 ?_
  have f_1 := cr_rfo hR_pl.1
  refine lv_iconst (v := 1) hx hb nd_Plan_addTask_5 (by decide) ?_
  refine lv_iadd hx hb nd_Plan_addTask_6 ?_
  have e_2 : ((pl 0 0) + (1 : Int32)).toInt = (pl 0 0).toInt + (1 : Int32).toInt := cr_add (by omega)
  refine va_put (D := (dC, dI)) (ci := 0) (v := .int ((pl 0 0) + (1 : Int32))) (ty := .int) (C := "CeilingRows$Plan") (T := nf_Plan) (N := 7) hx hb hts nin_Plan nt_Plan nto_Plan nno_Plan hown hK hP hD hS 0 rfl rfl 0 (by decide) (hts _ tw_26) (fun _ h9 => h9) rfl (by decide +kernel) rfl rfl (Nat.le_of_ble_eq_true rfl) nd_Plan_addTask_7 (fun H locs hP hD hS => ?_)
  have hP : va_P (dC, dI) vwCl (cw_Plan cI cZ cO apl (cr_up pl 0 0 ((pl 0 0) + (1 : Int32)))) H := hP
  have hD : va_D A (cw_Plan cI cZ cO apl (cr_up pl 0 0 ((pl 0 0) + (1 : Int32)))) := hD
  have hR_3 : cr_RPlan (cr_up pl 0 0 ((pl 0 0) + (1 : Int32))) := ⟨cr_rf_up hR_pl.1 (fun _ _ => by omega), cr_rf_up hR_pl.2.1 (fun _ e => absurd e (by decide)), cr_rg_up hR_pl.2.2 (fun e => absurd e (by decide))⟩
  obtain ⟨plq_4, hplq_4⟩ : ∃ z, (cr_up pl 0 0 ((pl 0 0) + (1 : Int32))) = z := ⟨_, rfl⟩
  rw [hplq_4] at hP hD hR_3
  try rw [hplq_4] at hM
  refine lv_aload_n hx hb nd_Plan_addTask_10 rfl (lv_at hl 0 rfl) ?_
  refine va_get (D := (dC, dI)) (ci := 0) (v := .ref (apl 1)) (C := "CeilingRows$Plan") (T := nf_Plan) (N := 7) hx hb hts nin_Plan hown hK hP 0 rfl rfl 2 (by decide) (hts _ tw_34) (fun _ h9 => h9) rfl nd_Plan_addTask_11 ?_
  refine lv_aload_n hx hb nd_Plan_addTask_14 rfl (lv_at hl 0 rfl) ?_
  refine va_get (D := (dC, dI)) (ci := 0) (v := .int (plq_4 0 0)) (C := "CeilingRows$Plan") (T := nf_Plan) (N := 7) hx hb hts nin_Plan hown hK hP 0 rfl rfl 0 (by decide) (hts _ tw_26) (fun _ h9 => h9) rfl nd_Plan_addTask_15 ?_
  have f_5 := cr_rfo hR_3.1
  refine lv_iload_n hx hb nd_Plan_addTask_18 rfl (lv_at hl 1 rfl) ?_
  have b_6 : vp_in (plq_4 0 0) 11 := vp_in_iff.mpr (by omega)
  refine va_iast hx hb hK hP hD hS 1 0 rfl rfl b_6 nd_Plan_addTask_19 (fun H locs hP hD hS => ?_)
  have hP : va_P (dC, dI) vwCl (cw_Plan cI cZ cO apl (cr_up plq_4 1 (plq_4 0 0).toNatClampNeg x1)) H := hP
  have hD : va_D A (cw_Plan cI cZ cO apl (cr_up plq_4 1 (plq_4 0 0).toNatClampNeg x1)) := hD
  have hR_7 : cr_RPlan (cr_up plq_4 1 (plq_4 0 0).toNatClampNeg x1) := ⟨cr_rf_up hR_3.1 (fun e _ => absurd e (by decide)), cr_rf_up hR_3.2.1 (fun e _ => absurd e (by decide)), cr_rg_up hR_3.2.2 (fun e => absurd e (by decide))⟩
  obtain ⟨plq_8, hplq_8⟩ : ∃ z, (cr_up plq_4 1 (plq_4 0 0).toNatClampNeg x1) = z := ⟨_, rfl⟩
  rw [hplq_8] at hP hD hR_7
  try rw [hplq_8] at hM
  refine lv_aload_n hx hb nd_Plan_addTask_20 rfl (lv_at hl 0 rfl) ?_
  refine va_get (D := (dC, dI)) (ci := 0) (v := .ref (apl 2)) (C := "CeilingRows$Plan") (T := nf_Plan) (N := 7) hx hb hts nin_Plan hown hK hP 0 rfl rfl 3 (by decide) (hts _ tw_36) (fun _ h9 => h9) rfl nd_Plan_addTask_21 ?_
  refine lv_aload_n hx hb nd_Plan_addTask_24 rfl (lv_at hl 0 rfl) ?_
  refine va_get (D := (dC, dI)) (ci := 0) (v := .int (plq_8 0 0)) (C := "CeilingRows$Plan") (T := nf_Plan) (N := 7) hx hb hts nin_Plan hown hK hP 0 rfl rfl 0 (by decide) (hts _ tw_26) (fun _ h9 => h9) rfl nd_Plan_addTask_25 ?_
  have f_9 := cr_rfo hR_7.1
  refine lv_iload_n hx hb nd_Plan_addTask_28 rfl (lv_at hl 2 rfl) ?_
  have b_10 : vp_in (plq_8 0 0) 11 := vp_in_iff.mpr (by omega)
  refine va_iast hx hb hK hP hD hS 2 0 rfl rfl b_10 nd_Plan_addTask_29 (fun H locs hP hD hS => ?_)
  have hP : va_P (dC, dI) vwCl (cw_Plan cI cZ cO apl (cr_up plq_8 2 (plq_8 0 0).toNatClampNeg x2)) H := hP
  have hD : va_D A (cw_Plan cI cZ cO apl (cr_up plq_8 2 (plq_8 0 0).toNatClampNeg x2)) := hD
  have hR_11 : cr_RPlan (cr_up plq_8 2 (plq_8 0 0).toNatClampNeg x2) := ⟨cr_rf_up hR_7.1 (fun e _ => absurd e (by decide)), cr_rf_up hR_7.2.1 (fun e _ => absurd e (by decide)), cr_rg_up hR_7.2.2 (fun _ => by omega)⟩
  obtain ⟨plq_12, hplq_12⟩ : ∃ z, (cr_up plq_8 2 (plq_8 0 0).toNatClampNeg x2) = z := ⟨_, rfl⟩
  rw [hplq_12] at hP hD hR_11
  try rw [hplq_12] at hM
  refine lv_aload_n hx hb nd_Plan_addTask_30 rfl (lv_at hl 0 rfl) ?_
  refine va_get (D := (dC, dI)) (ci := 0) (v := .int (plq_12 0 0)) (C := "CeilingRows$Plan") (T := nf_Plan) (N := 7) hx hb hts nin_Plan hown hK hP 0 rfl rfl 0 (by decide) (hts _ tw_26) (fun _ h9 => h9) rfl nd_Plan_addTask_31 ?_
  have f_13 := cr_rfo hR_11.1
  exact W.iret (v := (plq_12 0 0)) hx hb hr (fun t ht hW => ⟨⟨(plq_12 0 0), plq_12, rfl, ⟨by rw [hT, ← hM], by rw [hT, ← hM], hR_11⟩, by rw [ht]; exact hP, va_K.moved hW.alike hK, hD⟩, hS.F ht⟩) hS.2.2 nd_Plan_addTask_34

theorem nd_Plan_addResource_0 : decode prog_4_method_5_code 0 = .ok (.aload_n 0, 1) := by decide +kernel
theorem nd_Plan_addResource_1 : decode prog_4_method_5_code 1 = .ok (.dup, 1) := by decide +kernel
theorem nd_Plan_addResource_2 : decode prog_4_method_5_code 2 = .ok (.getfield 33, 3) := by decide +kernel
theorem nd_Plan_addResource_5 : decode prog_4_method_5_code 5 = .ok (.iconst 1, 1) := by decide +kernel
theorem nd_Plan_addResource_6 : decode prog_4_method_5_code 6 = .ok (.iadd, 1) := by decide +kernel
theorem nd_Plan_addResource_7 : decode prog_4_method_5_code 7 = .ok (.putfield 33, 3) := by decide +kernel
theorem nd_Plan_addResource_10 : decode prog_4_method_5_code 10 = .ok (.aload_n 0, 1) := by decide +kernel
theorem nd_Plan_addResource_11 : decode prog_4_method_5_code 11 = .ok (.getfield 33, 3) := by decide +kernel
theorem nd_Plan_addResource_14 : decode prog_4_method_5_code 14 = .ok (.ireturn, 1) := by decide +kernel
def md_Plan_addResource (pl : cr_S) : Int32 × cr_S :=
  (((cr_up pl 0 1 ((pl 0 1) + (1 : Int32))) 0 1), (cr_up pl 0 1 ((pl 0 1) + (1 : Int32))))
abbrev pq_Plan_addResource (dC : Nat → ClassId) (dI : Nat → Nat → Nat) (cI cZ cO : ClassId) (apl : Nat → Nat) (pl : cr_S)  (A : Nat → Prop) : Array Value → State → Outcome → State → Prop :=
  va_Qi (fun (r : Int32) (pl' : cr_S) => r = (md_Plan_addResource pl).1 ∧ pl' = (md_Plan_addResource pl).2 ∧ cr_RPlan pl') (fun (pl' : cr_S) t => va_P (dC, dI) vwCl (cw_Plan cI cZ cO apl pl') t.heap ∧ va_K (dC, dI) vwCl [(cI, .int), (cZ, .boolean), (cO, .array .int)] t ∧ va_D A (cw_Plan cI cZ cO apl pl')) A
set_option maxHeartbeats 4000000 in
set_option maxRecDepth 100000 in
theorem ct_Plan_addResource (l : Launch) (dC : Nat → ClassId) (dI : Nat → Nat → Nat) (cI cZ cO : ClassId) (apl : Nat → Nat) (sz : Nat) (pl : cr_S)  (hR_pl : cr_RPlan pl) (hq : (pl 0 1).toInt ≤ 7) : Met l ny_Plan_addResource nw_Plan_addResource ({ frames := 0, cells := 0, slots := 0, locals := 0 } : Room) (va_Pc [.ref (apl 0)] (fun U => U.heap.size = sz ∧ va_P (dC, dI) vwCl (cw_Plan cI cZ cO apl pl) U.heap ∧ va_K (dC, dI) vwCl [(cI, .int), (cZ, .boolean), (cO, .array .int)] U ∧ va_D (fun _ => True) (cw_Plan cI cZ cO apl pl))) (pq_Plan_addResource dC dI cI cZ cO apl pl  (va_A (cw_Plan cI cZ cO apl pl) sz)) 0 0 (va_A (cw_Plan cI cZ cO apl pl) sz) := by
  refine Met.ofW (cc := prog_4_method_5_code) (maxL := 1) (ret := (some .int)) (by decide) rfl ?_
  intro p e s m args below meth c s₁ B hml hv
  obtain ⟨rfl, hsz, hP, hK, hD0⟩ := hv
  have hx := B.exec
  have hb := B.bytes
  have hr := B.returns
  have hts0 := atoms_spec (ws := nw_Plan_addResource) B.pre
  have hts : ∀ w ∈ ng_tbl, w.before ([.ref (apl 0)] : List Value).toArray s = true := fun w h => hts0 w (List.mem_cons_of_mem _ h)
  have hown : s.vm.findClass "CeilingRows$Plan" = some m.cls := findClass_of_methodNamed B.named
  have hlocks := B.notSynchronized
  subst hsz
  have hD := hD0.self (sz := s.heap.size)
  generalize hAe : va_A (cw_Plan cI cZ cO apl pl) s.heap.size = A at hD ⊢
  have hA : ∀ q : Nat, s.heap.size ≤ q → A q := fun q h => by rw [← hAe]; exact Or.inr h
  have hS : va_S A s.heap s.heap [] := va_S.rf
  have hP : va_P (dC, dI) vwCl (cw_Plan cI cZ cO apl pl) s.heap := hP
  have hl := lv_entry ([.ref (apl 0)]) (n := 1) (Nat.le_of_ble_eq_true rfl)
  rw [lg_entry_eq]
  generalize (lg_sl ([.ref (apl 0)]) ++ List.replicate (1 - (lg_sl ([.ref (apl 0)])).length) Slot.unset).toArray = ls at hl ⊢
  have hl : lv_has ls 1 [(0, .ref (apl 0))] := hl
  have k_1 : (1 : Int32).toInt = 1 := by decide
  obtain ⟨tgt, hT⟩ : ∃ z, md_Plan_addResource pl = z := ⟨_, rfl⟩
  have hM := hT
  unfold md_Plan_addResource at hM
  refine lv_aload_n hx hb nd_Plan_addResource_0 rfl (lv_at hl 0 rfl) ?_
  refine lv_dup hx hb nd_Plan_addResource_1 rfl ?_
  refine va_get (D := (dC, dI)) (ci := 0) (v := .int (pl 0 1)) (C := "CeilingRows$Plan") (T := nf_Plan) (N := 7) hx hb hts nin_Plan hown hK hP 0 rfl rfl 1 (by decide) (hts _ tw_31) (fun _ h9 => h9) rfl nd_Plan_addResource_2 ?_
  have f_1 := cr_rfo hR_pl.2.1
  refine lv_iconst (v := 1) hx hb nd_Plan_addResource_5 (by decide) ?_
  refine lv_iadd hx hb nd_Plan_addResource_6 ?_
  have e_2 : ((pl 0 1) + (1 : Int32)).toInt = (pl 0 1).toInt + (1 : Int32).toInt := cr_add (by omega)
  refine va_put (D := (dC, dI)) (ci := 0) (v := .int ((pl 0 1) + (1 : Int32))) (ty := .int) (C := "CeilingRows$Plan") (T := nf_Plan) (N := 7) hx hb hts nin_Plan nt_Plan nto_Plan nno_Plan hown hK hP hD hS 0 rfl rfl 1 (by decide) (hts _ tw_31) (fun _ h9 => h9) rfl (by decide +kernel) rfl rfl (Nat.le_of_ble_eq_true rfl) nd_Plan_addResource_7 (fun H locs hP hD hS => ?_)
  have hP : va_P (dC, dI) vwCl (cw_Plan cI cZ cO apl (cr_up pl 0 1 ((pl 0 1) + (1 : Int32)))) H := hP
  have hD : va_D A (cw_Plan cI cZ cO apl (cr_up pl 0 1 ((pl 0 1) + (1 : Int32)))) := hD
  have hR_3 : cr_RPlan (cr_up pl 0 1 ((pl 0 1) + (1 : Int32))) := ⟨cr_rf_up hR_pl.1 (fun _ e => absurd e (by decide)), cr_rf_up hR_pl.2.1 (fun _ _ => by omega), cr_rg_up hR_pl.2.2 (fun e => absurd e (by decide))⟩
  obtain ⟨plq_4, hplq_4⟩ : ∃ z, (cr_up pl 0 1 ((pl 0 1) + (1 : Int32))) = z := ⟨_, rfl⟩
  rw [hplq_4] at hP hD hR_3
  try rw [hplq_4] at hM
  refine lv_aload_n hx hb nd_Plan_addResource_10 rfl (lv_at hl 0 rfl) ?_
  refine va_get (D := (dC, dI)) (ci := 0) (v := .int (plq_4 0 1)) (C := "CeilingRows$Plan") (T := nf_Plan) (N := 7) hx hb hts nin_Plan hown hK hP 0 rfl rfl 1 (by decide) (hts _ tw_31) (fun _ h9 => h9) rfl nd_Plan_addResource_11 ?_
  have f_5 := cr_rfo hR_3.2.1
  exact W.iret (v := (plq_4 0 1)) hx hb hr (fun t ht hW => ⟨⟨(plq_4 0 1), plq_4, rfl, ⟨by rw [hT, ← hM], by rw [hT, ← hM], hR_3⟩, by rw [ht]; exact hP, va_K.moved hW.alike hK, hD⟩, hS.F ht⟩) hS.2.2 nd_Plan_addResource_14

theorem nd_Plan_isUsedBy_0 : decode prog_4_method_6_code 0 = .ok (.aload_n 0, 1) := by decide +kernel
theorem nd_Plan_isUsedBy_1 : decode prog_4_method_6_code 1 = .ok (.getfield 26, 3) := by decide +kernel
theorem nd_Plan_isUsedBy_4 : decode prog_4_method_6_code 4 = .ok (.iload_n 1, 1) := by decide +kernel
theorem nd_Plan_isUsedBy_5 : decode prog_4_method_6_code 5 = .ok (.aaload, 1) := by decide +kernel
theorem nd_Plan_isUsedBy_6 : decode prog_4_method_6_code 6 = .ok (.iload_n 2, 1) := by decide +kernel
theorem nd_Plan_isUsedBy_7 : decode prog_4_method_6_code 7 = .ok (.iaload, 1) := by decide +kernel
theorem nd_Plan_isUsedBy_8 : decode prog_4_method_6_code 8 = .ok (.ifCond .le (7), 3) := by decide +kernel
theorem nd_Plan_isUsedBy_11 : decode prog_4_method_6_code 11 = .ok (.iconst 1, 1) := by decide +kernel
theorem nd_Plan_isUsedBy_12 : decode prog_4_method_6_code 12 = .ok (.goto (4), 3) := by decide +kernel
theorem nd_Plan_isUsedBy_15 : decode prog_4_method_6_code 15 = .ok (.iconst 0, 1) := by decide +kernel
theorem nd_Plan_isUsedBy_16 : decode prog_4_method_6_code 16 = .ok (.ireturn, 1) := by decide +kernel
def md_Plan_isUsedBy (pl : cr_S) (x1 : Int32) (x2 : Int32) : Int32 :=
  (if (pl (6 + x1.toNatClampNeg) x2.toNatClampNeg) ≤ 0 then (0 : Int32) else (1 : Int32))
abbrev pq_Plan_isUsedBy (dC : Nat → ClassId) (dI : Nat → Nat → Nat) (cI cZ cO : ClassId) (apl : Nat → Nat) (pl : cr_S) (x1 : Int32) (x2 : Int32) (A : Nat → Prop) : Array Value → State → Outcome → State → Prop :=
  va_Qi (fun (r : Int32) (_ : Unit) => r = md_Plan_isUsedBy pl x1 x2) (fun (_ : Unit) t => va_P (dC, dI) vwCl (cw_Plan cI cZ cO apl pl) t.heap ∧ va_K (dC, dI) vwCl [(cI, .int), (cZ, .boolean), (cO, .array .int)] t ∧ va_D A (cw_Plan cI cZ cO apl pl)) A
set_option maxHeartbeats 4000000 in
set_option maxRecDepth 100000 in
theorem ct_Plan_isUsedBy (l : Launch) (dC : Nat → ClassId) (dI : Nat → Nat → Nat) (cI cZ cO : ClassId) (apl : Nat → Nat) (sz : Nat) (pl : cr_S) (x1 : Int32) (x2 : Int32) (hR_pl : cr_RPlan pl) (hx1 : 0 ≤ x1.toInt ∧ x1.toInt ≤ 10) (hx2 : 0 ≤ x2.toInt ∧ x2.toInt ≤ 8) : Met l ny_Plan_isUsedBy nw_Plan_isUsedBy ({ frames := 0, cells := 0, slots := 0, locals := 0 } : Room) (va_Pc [.ref (apl 0), .int x1, .int x2] (fun U => U.heap.size = sz ∧ va_P (dC, dI) vwCl (cw_Plan cI cZ cO apl pl) U.heap ∧ va_K (dC, dI) vwCl [(cI, .int), (cZ, .boolean), (cO, .array .int)] U ∧ va_D (fun _ => True) (cw_Plan cI cZ cO apl pl))) (pq_Plan_isUsedBy dC dI cI cZ cO apl pl x1 x2 (va_A (cw_Plan cI cZ cO apl pl) sz)) 0 0 (va_A (cw_Plan cI cZ cO apl pl) sz) := by
  refine Met.ofW (cc := prog_4_method_6_code) (maxL := 3) (ret := (some .boolean)) (by decide) rfl ?_
  intro p e s m args below meth c s₁ B hml hv
  obtain ⟨rfl, hsz, hP, hK, hD0⟩ := hv
  have hx := B.exec
  have hb := B.bytes
  have hr := B.returns
  have hts0 := atoms_spec (ws := nw_Plan_isUsedBy) B.pre
  have hts : ∀ w ∈ ng_tbl, w.before ([.ref (apl 0), .int x1, .int x2] : List Value).toArray s = true := fun w h => hts0 w (List.mem_cons_of_mem _ h)
  have hown : s.vm.findClass "CeilingRows$Plan" = some m.cls := findClass_of_methodNamed B.named
  have hlocks := B.notSynchronized
  subst hsz
  have hD := hD0.self (sz := s.heap.size)
  generalize hAe : va_A (cw_Plan cI cZ cO apl pl) s.heap.size = A at hD ⊢
  have hA : ∀ q : Nat, s.heap.size ≤ q → A q := fun q h => by rw [← hAe]; exact Or.inr h
  have hS : va_S A s.heap s.heap [] := va_S.rf
  have hP : va_P (dC, dI) vwCl (cw_Plan cI cZ cO apl pl) s.heap := hP
  have hl := lv_entry ([.ref (apl 0), .int x1, .int x2]) (n := 3) (Nat.le_of_ble_eq_true rfl)
  rw [lg_entry_eq]
  generalize (lg_sl ([.ref (apl 0), .int x1, .int x2]) ++ List.replicate (3 - (lg_sl ([.ref (apl 0), .int x1, .int x2])).length) Slot.unset).toArray = ls at hl ⊢
  have hl : lv_has ls 3 [(0, .ref (apl 0)), (1, .int x1), (2, .int x2)] := hl
  have k_0 : (0 : Int32).toInt = 0 := by decide
  have k_1 : (1 : Int32).toInt = 1 := by decide
  obtain ⟨tgt, hT⟩ : ∃ z, md_Plan_isUsedBy pl x1 x2 = z := ⟨_, rfl⟩
  have hM := hT
  unfold md_Plan_isUsedBy at hM
  refine lv_aload_n hx hb nd_Plan_isUsedBy_0 rfl (lv_at hl 0 rfl) ?_
  refine va_get (D := (dC, dI)) (ci := 0) (v := .ref (apl 5)) (C := "CeilingRows$Plan") (T := nf_Plan) (N := 7) hx hb hts nin_Plan hown hK hP 0 rfl rfl 6 (by decide) (hts _ tw_43) (fun _ h9 => h9) rfl nd_Plan_isUsedBy_1 ?_
  refine lv_iload_n hx hb nd_Plan_isUsedBy_4 rfl (lv_at hl 1 rfl) ?_
  have b_1 : vp_in x1 11 := vp_in_iff.mpr (by omega)
  have g_2 : x1.toNatClampNeg < 11 := cr_ix b_1
  refine ga_ald hx hb hK hP 5 2 rfl rfl b_1 g_2 nd_Plan_isUsedBy_5 ?_
  refine lv_iload_n hx hb nd_Plan_isUsedBy_6 rfl (lv_at hl 2 rfl) ?_
  have b_3 : vp_in x2 9 := vp_in_iff.mpr (by omega)
  refine va_iald hx hb hK hP (6 + x1.toNatClampNeg) 0 (cg_Plan_6 cI cZ cO apl pl _ g_2) rfl b_3 nd_Plan_isUsedBy_7 ?_
  refine lv_if_le (tgt := 15) hx hb nd_Plan_isUsedBy_8 (by decide) (fun c_4 => ?_) (fun c_4 => ?_)
  · have c_4t := cr_le c_4
    rw [if_pos c_4] at hM
    refine lv_iconst (v := 0) hx hb nd_Plan_isUsedBy_15 (by decide) ?_
    exact W.zret (v := (0 : Int32)) (ty := .boolean) hx hb hr (by decide) (fun t ht hW => ⟨⟨(0 : Int32), (), rfl, by rw [hT, ← hM], by rw [ht]; exact hP, va_K.moved hW.alike hK, hD⟩, hS.F ht⟩) hS.2.2 nd_Plan_isUsedBy_16
  · have c_4t := cr_nle c_4
    rw [if_neg c_4] at hM
    refine lv_iconst (v := 1) hx hb nd_Plan_isUsedBy_11 (by decide) ?_
    refine lv_goto (tgt := 16) hx hb nd_Plan_isUsedBy_12 (by decide) ?_
    exact W.zret (v := (1 : Int32)) (ty := .boolean) hx hb hr (by decide) (fun t ht hW => ⟨⟨(1 : Int32), (), rfl, by rw [hT, ← hM], by rw [ht]; exact hP, va_K.moved hW.alike hK, hD⟩, hS.F ht⟩) hS.2.2 nd_Plan_isUsedBy_16

theorem nd_Plan_isUsedByAnotherCore_0 : decode prog_4_method_7_code 0 = .ok (.aload_n 0, 1) := by decide +kernel
theorem nd_Plan_isUsedByAnotherCore_1 : decode prog_4_method_7_code 1 = .ok (.getfield 21, 3) := by decide +kernel
theorem nd_Plan_isUsedByAnotherCore_4 : decode prog_4_method_7_code 4 = .ok (.iload_n 1, 1) := by decide +kernel
theorem nd_Plan_isUsedByAnotherCore_5 : decode prog_4_method_7_code 5 = .ok (.iaload, 1) := by decide +kernel
theorem nd_Plan_isUsedByAnotherCore_6 : decode prog_4_method_7_code 6 = .ok (.ifCond .eq (17), 3) := by decide +kernel
theorem nd_Plan_isUsedByAnotherCore_9 : decode prog_4_method_7_code 9 = .ok (.aload_n 0, 1) := by decide +kernel
theorem nd_Plan_isUsedByAnotherCore_10 : decode prog_4_method_7_code 10 = .ok (.getfield 21, 3) := by decide +kernel
theorem nd_Plan_isUsedByAnotherCore_13 : decode prog_4_method_7_code 13 = .ok (.iload_n 1, 1) := by decide +kernel
theorem nd_Plan_isUsedByAnotherCore_14 : decode prog_4_method_7_code 14 = .ok (.iaload, 1) := by decide +kernel
theorem nd_Plan_isUsedByAnotherCore_15 : decode prog_4_method_7_code 15 = .ok (.iload_n 2, 1) := by decide +kernel
theorem nd_Plan_isUsedByAnotherCore_16 : decode prog_4_method_7_code 16 = .ok (.if_icmp .eq (7), 3) := by decide +kernel
theorem nd_Plan_isUsedByAnotherCore_19 : decode prog_4_method_7_code 19 = .ok (.iconst 1, 1) := by decide +kernel
theorem nd_Plan_isUsedByAnotherCore_20 : decode prog_4_method_7_code 20 = .ok (.goto (4), 3) := by decide +kernel
theorem nd_Plan_isUsedByAnotherCore_23 : decode prog_4_method_7_code 23 = .ok (.iconst 0, 1) := by decide +kernel
theorem nd_Plan_isUsedByAnotherCore_24 : decode prog_4_method_7_code 24 = .ok (.ireturn, 1) := by decide +kernel
def md_Plan_isUsedByAnotherCore (pl : cr_S) (x1 : Int32) (x2 : Int32) : Int32 :=
  (if (pl 4 x1.toNatClampNeg) = 0 then (0 : Int32) else (if (pl 4 x1.toNatClampNeg) = x2 then (0 : Int32) else (1 : Int32)))
abbrev pq_Plan_isUsedByAnotherCore (dC : Nat → ClassId) (dI : Nat → Nat → Nat) (cI cZ cO : ClassId) (apl : Nat → Nat) (pl : cr_S) (x1 : Int32) (x2 : Int32) (A : Nat → Prop) : Array Value → State → Outcome → State → Prop :=
  va_Qi (fun (r : Int32) (_ : Unit) => r = md_Plan_isUsedByAnotherCore pl x1 x2) (fun (_ : Unit) t => va_P (dC, dI) vwCl (cw_Plan cI cZ cO apl pl) t.heap ∧ va_K (dC, dI) vwCl [(cI, .int), (cZ, .boolean), (cO, .array .int)] t ∧ va_D A (cw_Plan cI cZ cO apl pl)) A
set_option maxHeartbeats 4000000 in
set_option maxRecDepth 100000 in
theorem ct_Plan_isUsedByAnotherCore (l : Launch) (dC : Nat → ClassId) (dI : Nat → Nat → Nat) (cI cZ cO : ClassId) (apl : Nat → Nat) (sz : Nat) (pl : cr_S) (x1 : Int32) (x2 : Int32) (hR_pl : cr_RPlan pl) (hx1 : 0 ≤ x1.toInt ∧ x1.toInt ≤ 8) : Met l ny_Plan_isUsedByAnotherCore nw_Plan_isUsedByAnotherCore ({ frames := 0, cells := 0, slots := 0, locals := 0 } : Room) (va_Pc [.ref (apl 0), .int x1, .int x2] (fun U => U.heap.size = sz ∧ va_P (dC, dI) vwCl (cw_Plan cI cZ cO apl pl) U.heap ∧ va_K (dC, dI) vwCl [(cI, .int), (cZ, .boolean), (cO, .array .int)] U ∧ va_D (fun _ => True) (cw_Plan cI cZ cO apl pl))) (pq_Plan_isUsedByAnotherCore dC dI cI cZ cO apl pl x1 x2 (va_A (cw_Plan cI cZ cO apl pl) sz)) 0 0 (va_A (cw_Plan cI cZ cO apl pl) sz) := by
  refine Met.ofW (cc := prog_4_method_7_code) (maxL := 3) (ret := (some .boolean)) (by decide) rfl ?_
  intro p e s m args below meth c s₁ B hml hv
  obtain ⟨rfl, hsz, hP, hK, hD0⟩ := hv
  have hx := B.exec
  have hb := B.bytes
  have hr := B.returns
  have hts0 := atoms_spec (ws := nw_Plan_isUsedByAnotherCore) B.pre
  have hts : ∀ w ∈ ng_tbl, w.before ([.ref (apl 0), .int x1, .int x2] : List Value).toArray s = true := fun w h => hts0 w (List.mem_cons_of_mem _ h)
  have hown : s.vm.findClass "CeilingRows$Plan" = some m.cls := findClass_of_methodNamed B.named
  have hlocks := B.notSynchronized
  subst hsz
  have hD := hD0.self (sz := s.heap.size)
  generalize hAe : va_A (cw_Plan cI cZ cO apl pl) s.heap.size = A at hD ⊢
  have hA : ∀ q : Nat, s.heap.size ≤ q → A q := fun q h => by rw [← hAe]; exact Or.inr h
  have hS : va_S A s.heap s.heap [] := va_S.rf
  have hP : va_P (dC, dI) vwCl (cw_Plan cI cZ cO apl pl) s.heap := hP
  have hl := lv_entry ([.ref (apl 0), .int x1, .int x2]) (n := 3) (Nat.le_of_ble_eq_true rfl)
  rw [lg_entry_eq]
  generalize (lg_sl ([.ref (apl 0), .int x1, .int x2]) ++ List.replicate (3 - (lg_sl ([.ref (apl 0), .int x1, .int x2])).length) Slot.unset).toArray = ls at hl ⊢
  have hl : lv_has ls 3 [(0, .ref (apl 0)), (1, .int x1), (2, .int x2)] := hl
  have k_0 : (0 : Int32).toInt = 0 := by decide
  have k_1 : (1 : Int32).toInt = 1 := by decide
  obtain ⟨tgt, hT⟩ : ∃ z, md_Plan_isUsedByAnotherCore pl x1 x2 = z := ⟨_, rfl⟩
  have hM := hT
  unfold md_Plan_isUsedByAnotherCore at hM
  refine lv_aload_n hx hb nd_Plan_isUsedByAnotherCore_0 rfl (lv_at hl 0 rfl) ?_
  refine va_get (D := (dC, dI)) (ci := 0) (v := .ref (apl 4)) (C := "CeilingRows$Plan") (T := nf_Plan) (N := 7) hx hb hts nin_Plan hown hK hP 0 rfl rfl 5 (by decide) (hts _ tw_42) (fun _ h9 => h9) rfl nd_Plan_isUsedByAnotherCore_1 ?_
  refine lv_iload_n hx hb nd_Plan_isUsedByAnotherCore_4 rfl (lv_at hl 1 rfl) ?_
  have b_1 : vp_in x1 9 := vp_in_iff.mpr (by omega)
  refine va_iald hx hb hK hP 4 0 rfl rfl b_1 nd_Plan_isUsedByAnotherCore_5 ?_
  refine lv_if_eq (tgt := 23) hx hb nd_Plan_isUsedByAnotherCore_6 (by decide) (fun c_2 => ?_) (fun c_2 => ?_)
  · have c_2t := cr_eq c_2
    rw [if_pos c_2] at hM
    refine lv_iconst (v := 0) hx hb nd_Plan_isUsedByAnotherCore_23 (by decide) ?_
    exact W.zret (v := (0 : Int32)) (ty := .boolean) hx hb hr (by decide) (fun t ht hW => ⟨⟨(0 : Int32), (), rfl, by rw [hT, ← hM], by rw [ht]; exact hP, va_K.moved hW.alike hK, hD⟩, hS.F ht⟩) hS.2.2 nd_Plan_isUsedByAnotherCore_24
  · have c_2t := cr_ne c_2
    rw [if_neg c_2] at hM
    refine lv_aload_n hx hb nd_Plan_isUsedByAnotherCore_9 rfl (lv_at hl 0 rfl) ?_
    refine va_get (D := (dC, dI)) (ci := 0) (v := .ref (apl 4)) (C := "CeilingRows$Plan") (T := nf_Plan) (N := 7) hx hb hts nin_Plan hown hK hP 0 rfl rfl 5 (by decide) (hts _ tw_42) (fun _ h9 => h9) rfl nd_Plan_isUsedByAnotherCore_10 ?_
    refine lv_iload_n hx hb nd_Plan_isUsedByAnotherCore_13 rfl (lv_at hl 1 rfl) ?_
    have b_3 : vp_in x1 9 := vp_in_iff.mpr (by omega)
    refine va_iald hx hb hK hP 4 0 rfl rfl b_3 nd_Plan_isUsedByAnotherCore_14 ?_
    refine lv_iload_n hx hb nd_Plan_isUsedByAnotherCore_15 rfl (lv_at hl 2 rfl) ?_
    refine lv_icmp_eq (tgt := 23) hx hb nd_Plan_isUsedByAnotherCore_16 (by decide) (fun c_4 => ?_) (fun c_4 => ?_)
    · have c_4t := cr_eq c_4
      rw [if_pos c_4] at hM
      refine lv_iconst (v := 0) hx hb nd_Plan_isUsedByAnotherCore_23 (by decide) ?_
      exact W.zret (v := (0 : Int32)) (ty := .boolean) hx hb hr (by decide) (fun t ht hW => ⟨⟨(0 : Int32), (), rfl, by rw [hT, ← hM], by rw [ht]; exact hP, va_K.moved hW.alike hK, hD⟩, hS.F ht⟩) hS.2.2 nd_Plan_isUsedByAnotherCore_24
    · have c_4t := cr_ne c_4
      rw [if_neg c_4] at hM
      refine lv_iconst (v := 1) hx hb nd_Plan_isUsedByAnotherCore_19 (by decide) ?_
      refine lv_goto (tgt := 24) hx hb nd_Plan_isUsedByAnotherCore_20 (by decide) ?_
      exact W.zret (v := (1 : Int32)) (ty := .boolean) hx hb hr (by decide) (fun t ht hW => ⟨⟨(1 : Int32), (), rfl, by rw [hT, ← hM], by rw [ht]; exact hP, va_K.moved hW.alike hK, hD⟩, hS.F ht⟩) hS.2.2 nd_Plan_isUsedByAnotherCore_24

theorem nd_Plan_setUse_0 : decode prog_4_method_8_code 0 = .ok (.aload_n 0, 1) := by decide +kernel
theorem nd_Plan_setUse_1 : decode prog_4_method_8_code 1 = .ok (.getfield 26, 3) := by decide +kernel
theorem nd_Plan_setUse_4 : decode prog_4_method_8_code 4 = .ok (.iload_n 1, 1) := by decide +kernel
theorem nd_Plan_setUse_5 : decode prog_4_method_8_code 5 = .ok (.aaload, 1) := by decide +kernel
theorem nd_Plan_setUse_6 : decode prog_4_method_8_code 6 = .ok (.iload_n 2, 1) := by decide +kernel
theorem nd_Plan_setUse_7 : decode prog_4_method_8_code 7 = .ok (.iload_n 3, 1) := by decide +kernel
theorem nd_Plan_setUse_8 : decode prog_4_method_8_code 8 = .ok (.iastore, 1) := by decide +kernel
theorem nd_Plan_setUse_9 : decode prog_4_method_8_code 9 = .ok (.aload_n 0, 1) := by decide +kernel
theorem nd_Plan_setUse_10 : decode prog_4_method_8_code 10 = .ok (.getfield 21, 3) := by decide +kernel
theorem nd_Plan_setUse_13 : decode prog_4_method_8_code 13 = .ok (.iload_n 2, 1) := by decide +kernel
theorem nd_Plan_setUse_14 : decode prog_4_method_8_code 14 = .ok (.aload_n 0, 1) := by decide +kernel
theorem nd_Plan_setUse_15 : decode prog_4_method_8_code 15 = .ok (.getfield 15, 3) := by decide +kernel
theorem nd_Plan_setUse_18 : decode prog_4_method_8_code 18 = .ok (.iload_n 1, 1) := by decide +kernel
theorem nd_Plan_setUse_19 : decode prog_4_method_8_code 19 = .ok (.iaload, 1) := by decide +kernel
theorem nd_Plan_setUse_20 : decode prog_4_method_8_code 20 = .ok (.iastore, 1) := by decide +kernel
theorem nd_Plan_setUse_21 : decode prog_4_method_8_code 21 = .ok (.aload_n 0, 1) := by decide +kernel
theorem nd_Plan_setUse_22 : decode prog_4_method_8_code 22 = .ok (.getfield 18, 3) := by decide +kernel
theorem nd_Plan_setUse_25 : decode prog_4_method_8_code 25 = .ok (.iload_n 2, 1) := by decide +kernel
theorem nd_Plan_setUse_26 : decode prog_4_method_8_code 26 = .ok (.aload_n 0, 1) := by decide +kernel
theorem nd_Plan_setUse_27 : decode prog_4_method_8_code 27 = .ok (.getfield 18, 3) := by decide +kernel
theorem nd_Plan_setUse_30 : decode prog_4_method_8_code 30 = .ok (.iload_n 2, 1) := by decide +kernel
theorem nd_Plan_setUse_31 : decode prog_4_method_8_code 31 = .ok (.iaload, 1) := by decide +kernel
theorem nd_Plan_setUse_32 : decode prog_4_method_8_code 32 = .ok (.aload_n 0, 1) := by decide +kernel
theorem nd_Plan_setUse_33 : decode prog_4_method_8_code 33 = .ok (.getfield 9, 3) := by decide +kernel
theorem nd_Plan_setUse_36 : decode prog_4_method_8_code 36 = .ok (.iload_n 1, 1) := by decide +kernel
theorem nd_Plan_setUse_37 : decode prog_4_method_8_code 37 = .ok (.iaload, 1) := by decide +kernel
theorem nd_Plan_setUse_38 : decode prog_4_method_8_code 38 = .ok (.invokestatic 36, 3) := by decide +kernel
theorem nd_Plan_setUse_41 : decode prog_4_method_8_code 41 = .ok (.iastore, 1) := by decide +kernel
theorem nd_Plan_setUse_42 : decode prog_4_method_8_code 42 = .ok (.return_, 1) := by decide +kernel
def md_Plan_setUse (pl : cr_S) (x1 : Int32) (x2 : Int32) (x3 : Int32) : cr_S :=
  (cr_up (cr_up (cr_up pl (6 + x1.toNatClampNeg) x2.toNatClampNeg x3) 4 x2.toNatClampNeg ((cr_up pl (6 + x1.toNatClampNeg) x2.toNatClampNeg x3) 2 x1.toNatClampNeg)) 3 x2.toNatClampNeg (cr_max ((cr_up (cr_up pl (6 + x1.toNatClampNeg) x2.toNatClampNeg x3) 4 x2.toNatClampNeg ((cr_up pl (6 + x1.toNatClampNeg) x2.toNatClampNeg x3) 2 x1.toNatClampNeg)) 3 x2.toNatClampNeg) ((cr_up (cr_up pl (6 + x1.toNatClampNeg) x2.toNatClampNeg x3) 4 x2.toNatClampNeg ((cr_up pl (6 + x1.toNatClampNeg) x2.toNatClampNeg x3) 2 x1.toNatClampNeg)) 1 x1.toNatClampNeg)))
abbrev pq_Plan_setUse (dC : Nat → ClassId) (dI : Nat → Nat → Nat) (cI cZ cO : ClassId) (apl : Nat → Nat) (pl : cr_S) (x1 : Int32) (x2 : Int32) (x3 : Int32) (A : Nat → Prop) : Array Value → State → Outcome → State → Prop :=
  va_Qv (fun (pl' : cr_S) => pl' = md_Plan_setUse pl x1 x2 x3 ∧ cr_RPlan pl') (fun (pl' : cr_S) t => va_P (dC, dI) vwCl (cw_Plan cI cZ cO apl pl') t.heap ∧ va_K (dC, dI) vwCl [(cI, .int), (cZ, .boolean), (cO, .array .int)] t ∧ va_D A (cw_Plan cI cZ cO apl pl')) A
set_option maxHeartbeats 4000000 in
set_option maxRecDepth 100000 in
theorem ct_Plan_setUse (l : Launch) (dC : Nat → ClassId) (dI : Nat → Nat → Nat) (cI cZ cO : ClassId) (apl : Nat → Nat) (sz : Nat) (pl : cr_S) (x1 : Int32) (x2 : Int32) (x3 : Int32) (hR_pl : cr_RPlan pl) (hx1 : 0 ≤ x1.toInt ∧ x1.toInt ≤ 10) (hx2 : 0 ≤ x2.toInt ∧ x2.toInt ≤ 8) : Met l ny_Plan_setUse nw_Plan_setUse ({ frames := 1, cells := 0, slots := 0, locals := 21 } : Room) (va_Pc [.ref (apl 0), .int x1, .int x2, .int x3] (fun U => U.heap.size = sz ∧ va_P (dC, dI) vwCl (cw_Plan cI cZ cO apl pl) U.heap ∧ va_K (dC, dI) vwCl [(cI, .int), (cZ, .boolean), (cO, .array .int)] U ∧ va_D (fun _ => True) (cw_Plan cI cZ cO apl pl))) (pq_Plan_setUse dC dI cI cZ cO apl pl x1 x2 x3 (va_A (cw_Plan cI cZ cO apl pl) sz)) 0 0 (va_A (cw_Plan cI cZ cO apl pl) sz) := by
  refine Met.ofW (cc := prog_4_method_8_code) (maxL := 4) (ret := none) (by decide) rfl ?_
  intro p e s m args below meth c s₁ B hml hv
  obtain ⟨rfl, hsz, hP, hK, hD0⟩ := hv
  have hx := B.exec
  have hb := B.bytes
  have hr := B.returns
  have hts0 := atoms_spec (ws := nw_Plan_setUse) B.pre
  have hts : ∀ w ∈ ng_tbl, w.before ([.ref (apl 0), .int x1, .int x2, .int x3] : List Value).toArray s = true := fun w h => hts0 w (List.mem_cons_of_mem _ h)
  have hown : s.vm.findClass "CeilingRows$Plan" = some m.cls := findClass_of_methodNamed B.named
  have hlocks := B.notSynchronized
  subst hsz
  have hD := hD0.self (sz := s.heap.size)
  generalize hAe : va_A (cw_Plan cI cZ cO apl pl) s.heap.size = A at hD ⊢
  have hA : ∀ q : Nat, s.heap.size ≤ q → A q := fun q h => by rw [← hAe]; exact Or.inr h
  have hS : va_S A s.heap s.heap [] := va_S.rf
  have hP : va_P (dC, dI) vwCl (cw_Plan cI cZ cO apl pl) s.heap := hP
  have hl := lv_entry ([.ref (apl 0), .int x1, .int x2, .int x3]) (n := 4) (Nat.le_of_ble_eq_true rfl)
  rw [lg_entry_eq]
  generalize (lg_sl ([.ref (apl 0), .int x1, .int x2, .int x3]) ++ List.replicate (4 - (lg_sl ([.ref (apl 0), .int x1, .int x2, .int x3])).length) Slot.unset).toArray = ls at hl ⊢
  have hl : lv_has ls 4 [(0, .ref (apl 0)), (1, .int x1), (2, .int x2), (3, .int x3)] := hl
  obtain ⟨tgt, hT⟩ : ∃ z, md_Plan_setUse pl x1 x2 x3 = z := ⟨_, rfl⟩
  have hM := hT
  unfold md_Plan_setUse at hM
  refine lv_aload_n hx hb nd_Plan_setUse_0 rfl (lv_at hl 0 rfl) ?_
  refine va_get (D := (dC, dI)) (ci := 0) (v := .ref (apl 5)) (C := "CeilingRows$Plan") (T := nf_Plan) (N := 7) hx hb hts nin_Plan hown hK hP 0 rfl rfl 6 (by decide) (hts _ tw_43) (fun _ h9 => h9) rfl nd_Plan_setUse_1 ?_
  refine lv_iload_n hx hb nd_Plan_setUse_4 rfl (lv_at hl 1 rfl) ?_
  have b_1 : vp_in x1 11 := vp_in_iff.mpr (by omega)
  have g_2 : x1.toNatClampNeg < 11 := cr_ix b_1
  refine ga_ald hx hb hK hP 5 2 rfl rfl b_1 g_2 nd_Plan_setUse_5 ?_
  refine lv_iload_n hx hb nd_Plan_setUse_6 rfl (lv_at hl 2 rfl) ?_
  refine lv_iload_n hx hb nd_Plan_setUse_7 rfl (lv_at hl 3 rfl) ?_
  have b_3 : vp_in x2 9 := vp_in_iff.mpr (by omega)
  refine va_iast hx hb hK hP hD hS (6 + x1.toNatClampNeg) 0 (cg_Plan_6 cI cZ cO apl pl _ g_2) rfl b_3 nd_Plan_setUse_8 (fun H locs hP hD hS => ?_)
  rw [(cs_Plan_6 cI cZ cO apl pl x2.toNatClampNeg x3 _ g_2)] at hP hD
  have hP : va_P (dC, dI) vwCl (cw_Plan cI cZ cO apl (cr_up pl (6 + x1.toNatClampNeg) x2.toNatClampNeg x3)) H := hP
  have hD : va_D A (cw_Plan cI cZ cO apl (cr_up pl (6 + x1.toNatClampNeg) x2.toNatClampNeg x3)) := hD
  have hR_4 : cr_RPlan (cr_up pl (6 + x1.toNatClampNeg) x2.toNatClampNeg x3) := ⟨cr_rf_up hR_pl.1 (fun e _ => absurd e (by omega)), cr_rf_up hR_pl.2.1 (fun e _ => absurd e (by omega)), cr_rg_up hR_pl.2.2 (fun e => absurd e (by omega))⟩
  obtain ⟨plq_5, hplq_5⟩ : ∃ z, (cr_up pl (6 + x1.toNatClampNeg) x2.toNatClampNeg x3) = z := ⟨_, rfl⟩
  rw [hplq_5] at hP hD hR_4
  try rw [hplq_5] at hM
  refine lv_aload_n hx hb nd_Plan_setUse_9 rfl (lv_at hl 0 rfl) ?_
  refine va_get (D := (dC, dI)) (ci := 0) (v := .ref (apl 4)) (C := "CeilingRows$Plan") (T := nf_Plan) (N := 7) hx hb hts nin_Plan hown hK hP 0 rfl rfl 5 (by decide) (hts _ tw_42) (fun _ h9 => h9) rfl nd_Plan_setUse_10 ?_
  refine lv_iload_n hx hb nd_Plan_setUse_13 rfl (lv_at hl 2 rfl) ?_
  refine lv_aload_n hx hb nd_Plan_setUse_14 rfl (lv_at hl 0 rfl) ?_
  refine va_get (D := (dC, dI)) (ci := 0) (v := .ref (apl 2)) (C := "CeilingRows$Plan") (T := nf_Plan) (N := 7) hx hb hts nin_Plan hown hK hP 0 rfl rfl 3 (by decide) (hts _ tw_36) (fun _ h9 => h9) rfl nd_Plan_setUse_15 ?_
  refine lv_iload_n hx hb nd_Plan_setUse_18 rfl (lv_at hl 1 rfl) ?_
  have b_6 : vp_in x1 11 := vp_in_iff.mpr (by omega)
  refine va_iald hx hb hK hP 2 0 rfl rfl b_6 nd_Plan_setUse_19 ?_
  have f_7 := cr_rgo hR_4.2.2 (x1.toNatClampNeg)
  have b_8 : vp_in x2 9 := vp_in_iff.mpr (by omega)
  refine va_iast hx hb hK hP hD hS 4 0 rfl rfl b_8 nd_Plan_setUse_20 (fun H locs hP hD hS => ?_)
  have hP : va_P (dC, dI) vwCl (cw_Plan cI cZ cO apl (cr_up plq_5 4 x2.toNatClampNeg (plq_5 2 x1.toNatClampNeg))) H := hP
  have hD : va_D A (cw_Plan cI cZ cO apl (cr_up plq_5 4 x2.toNatClampNeg (plq_5 2 x1.toNatClampNeg))) := hD
  have hR_9 : cr_RPlan (cr_up plq_5 4 x2.toNatClampNeg (plq_5 2 x1.toNatClampNeg)) := ⟨cr_rf_up hR_4.1 (fun e _ => absurd e (by decide)), cr_rf_up hR_4.2.1 (fun e _ => absurd e (by decide)), cr_rg_up hR_4.2.2 (fun e => absurd e (by decide))⟩
  obtain ⟨plq_10, hplq_10⟩ : ∃ z, (cr_up plq_5 4 x2.toNatClampNeg (plq_5 2 x1.toNatClampNeg)) = z := ⟨_, rfl⟩
  rw [hplq_10] at hP hD hR_9
  try rw [hplq_10] at hM
  refine lv_aload_n hx hb nd_Plan_setUse_21 rfl (lv_at hl 0 rfl) ?_
  refine va_get (D := (dC, dI)) (ci := 0) (v := .ref (apl 3)) (C := "CeilingRows$Plan") (T := nf_Plan) (N := 7) hx hb hts nin_Plan hown hK hP 0 rfl rfl 4 (by decide) (hts _ tw_39) (fun _ h9 => h9) rfl nd_Plan_setUse_22 ?_
  refine lv_iload_n hx hb nd_Plan_setUse_25 rfl (lv_at hl 2 rfl) ?_
  refine lv_aload_n hx hb nd_Plan_setUse_26 rfl (lv_at hl 0 rfl) ?_
  refine va_get (D := (dC, dI)) (ci := 0) (v := .ref (apl 3)) (C := "CeilingRows$Plan") (T := nf_Plan) (N := 7) hx hb hts nin_Plan hown hK hP 0 rfl rfl 4 (by decide) (hts _ tw_39) (fun _ h9 => h9) rfl nd_Plan_setUse_27 ?_
  refine lv_iload_n hx hb nd_Plan_setUse_30 rfl (lv_at hl 2 rfl) ?_
  have b_11 : vp_in x2 9 := vp_in_iff.mpr (by omega)
  refine va_iald hx hb hK hP 3 0 rfl rfl b_11 nd_Plan_setUse_31 ?_
  refine lv_aload_n hx hb nd_Plan_setUse_32 rfl (lv_at hl 0 rfl) ?_
  refine va_get (D := (dC, dI)) (ci := 0) (v := .ref (apl 1)) (C := "CeilingRows$Plan") (T := nf_Plan) (N := 7) hx hb hts nin_Plan hown hK hP 0 rfl rfl 2 (by decide) (hts _ tw_34) (fun _ h9 => h9) rfl nd_Plan_setUse_33 ?_
  refine lv_iload_n hx hb nd_Plan_setUse_36 rfl (lv_at hl 1 rfl) ?_
  have b_12 : vp_in x1 11 := vp_in_iff.mpr (by omega)
  refine va_iald hx hb hK hP 1 0 rfl rfl b_12 nd_Plan_setUse_37 ?_
  refine va_mmax hx hb (by rw [hml]; exact hl.1.symm) hown (hts _ tw_206) (hts _ tw_207) (hts _ tw_7) (hts _ tw_208) (Nat.le_of_ble_eq_true rfl) (Nat.le_of_ble_eq_true rfl) (Nat.zero_le _) (Nat.zero_le _) nd_Plan_setUse_38 ?_
  have b_13 : vp_in x2 9 := vp_in_iff.mpr (by omega)
  refine va_iast hx hb hK hP hD hS 3 0 rfl rfl b_13 nd_Plan_setUse_41 (fun H locs hP hD hS => ?_)
  have hP : va_P (dC, dI) vwCl (cw_Plan cI cZ cO apl (cr_up plq_10 3 x2.toNatClampNeg (cr_max (plq_10 3 x2.toNatClampNeg) (plq_10 1 x1.toNatClampNeg)))) H := hP
  have hD : va_D A (cw_Plan cI cZ cO apl (cr_up plq_10 3 x2.toNatClampNeg (cr_max (plq_10 3 x2.toNatClampNeg) (plq_10 1 x1.toNatClampNeg)))) := hD
  have hR_14 : cr_RPlan (cr_up plq_10 3 x2.toNatClampNeg (cr_max (plq_10 3 x2.toNatClampNeg) (plq_10 1 x1.toNatClampNeg))) := ⟨cr_rf_up hR_9.1 (fun e _ => absurd e (by decide)), cr_rf_up hR_9.2.1 (fun e _ => absurd e (by decide)), cr_rg_up hR_9.2.2 (fun e => absurd e (by decide))⟩
  obtain ⟨plq_15, hplq_15⟩ : ∃ z, (cr_up plq_10 3 x2.toNatClampNeg (cr_max (plq_10 3 x2.toNatClampNeg) (plq_10 1 x1.toNatClampNeg))) = z := ⟨_, rfl⟩
  rw [hplq_15] at hP hD hR_14
  try rw [hplq_15] at hM
  exact W.vret hx hb hr (fun t ht hW => ⟨⟨plq_15, rfl, ⟨by rw [hT, ← hM], hR_14⟩, by rw [ht]; exact hP, va_K.moved hW.alike hK, hD⟩, hS.F ht⟩) hS.2.2 nd_Plan_setUse_42

theorem nd_Plan_isBelow_0 : decode prog_4_method_9_code 0 = .ok (.aload_n 0, 1) := by decide +kernel
theorem nd_Plan_isBelow_1 : decode prog_4_method_9_code 1 = .ok (.getfield 15, 3) := by decide +kernel
theorem nd_Plan_isBelow_4 : decode prog_4_method_9_code 4 = .ok (.iload_n 1, 1) := by decide +kernel
theorem nd_Plan_isBelow_5 : decode prog_4_method_9_code 5 = .ok (.iaload, 1) := by decide +kernel
theorem nd_Plan_isBelow_6 : decode prog_4_method_9_code 6 = .ok (.aload_n 0, 1) := by decide +kernel
theorem nd_Plan_isBelow_7 : decode prog_4_method_9_code 7 = .ok (.getfield 15, 3) := by decide +kernel
theorem nd_Plan_isBelow_10 : decode prog_4_method_9_code 10 = .ok (.iload_n 2, 1) := by decide +kernel
theorem nd_Plan_isBelow_11 : decode prog_4_method_9_code 11 = .ok (.iaload, 1) := by decide +kernel
theorem nd_Plan_isBelow_12 : decode prog_4_method_9_code 12 = .ok (.if_icmp .ne (22), 3) := by decide +kernel
theorem nd_Plan_isBelow_15 : decode prog_4_method_9_code 15 = .ok (.aload_n 0, 1) := by decide +kernel
theorem nd_Plan_isBelow_16 : decode prog_4_method_9_code 16 = .ok (.getfield 9, 3) := by decide +kernel
theorem nd_Plan_isBelow_19 : decode prog_4_method_9_code 19 = .ok (.iload_n 1, 1) := by decide +kernel
theorem nd_Plan_isBelow_20 : decode prog_4_method_9_code 20 = .ok (.iaload, 1) := by decide +kernel
theorem nd_Plan_isBelow_21 : decode prog_4_method_9_code 21 = .ok (.aload_n 0, 1) := by decide +kernel
theorem nd_Plan_isBelow_22 : decode prog_4_method_9_code 22 = .ok (.getfield 9, 3) := by decide +kernel
theorem nd_Plan_isBelow_25 : decode prog_4_method_9_code 25 = .ok (.iload_n 2, 1) := by decide +kernel
theorem nd_Plan_isBelow_26 : decode prog_4_method_9_code 26 = .ok (.iaload, 1) := by decide +kernel
theorem nd_Plan_isBelow_27 : decode prog_4_method_9_code 27 = .ok (.if_icmp .ge (7), 3) := by decide +kernel
theorem nd_Plan_isBelow_30 : decode prog_4_method_9_code 30 = .ok (.iconst 1, 1) := by decide +kernel
theorem nd_Plan_isBelow_31 : decode prog_4_method_9_code 31 = .ok (.goto (4), 3) := by decide +kernel
theorem nd_Plan_isBelow_34 : decode prog_4_method_9_code 34 = .ok (.iconst 0, 1) := by decide +kernel
theorem nd_Plan_isBelow_35 : decode prog_4_method_9_code 35 = .ok (.ireturn, 1) := by decide +kernel
def md_Plan_isBelow (pl : cr_S) (x1 : Int32) (x2 : Int32) : Int32 :=
  (if (pl 2 x1.toNatClampNeg) = (pl 2 x2.toNatClampNeg) then (if (pl 1 x2.toNatClampNeg) ≤ (pl 1 x1.toNatClampNeg) then (0 : Int32) else (1 : Int32)) else (0 : Int32))
abbrev pq_Plan_isBelow (dC : Nat → ClassId) (dI : Nat → Nat → Nat) (cI cZ cO : ClassId) (apl : Nat → Nat) (pl : cr_S) (x1 : Int32) (x2 : Int32) (A : Nat → Prop) : Array Value → State → Outcome → State → Prop :=
  va_Qi (fun (r : Int32) (_ : Unit) => r = md_Plan_isBelow pl x1 x2) (fun (_ : Unit) t => va_P (dC, dI) vwCl (cw_Plan cI cZ cO apl pl) t.heap ∧ va_K (dC, dI) vwCl [(cI, .int), (cZ, .boolean), (cO, .array .int)] t ∧ va_D A (cw_Plan cI cZ cO apl pl)) A
set_option maxHeartbeats 4000000 in
set_option maxRecDepth 100000 in
theorem ct_Plan_isBelow (l : Launch) (dC : Nat → ClassId) (dI : Nat → Nat → Nat) (cI cZ cO : ClassId) (apl : Nat → Nat) (sz : Nat) (pl : cr_S) (x1 : Int32) (x2 : Int32) (hR_pl : cr_RPlan pl) (hx1 : 0 ≤ x1.toInt ∧ x1.toInt ≤ 10) (hx2 : 0 ≤ x2.toInt ∧ x2.toInt ≤ 10) : Met l ny_Plan_isBelow nw_Plan_isBelow ({ frames := 0, cells := 0, slots := 0, locals := 0 } : Room) (va_Pc [.ref (apl 0), .int x1, .int x2] (fun U => U.heap.size = sz ∧ va_P (dC, dI) vwCl (cw_Plan cI cZ cO apl pl) U.heap ∧ va_K (dC, dI) vwCl [(cI, .int), (cZ, .boolean), (cO, .array .int)] U ∧ va_D (fun _ => True) (cw_Plan cI cZ cO apl pl))) (pq_Plan_isBelow dC dI cI cZ cO apl pl x1 x2 (va_A (cw_Plan cI cZ cO apl pl) sz)) 0 0 (va_A (cw_Plan cI cZ cO apl pl) sz) := by
  refine Met.ofW (cc := prog_4_method_9_code) (maxL := 3) (ret := (some .boolean)) (by decide) rfl ?_
  intro p e s m args below meth c s₁ B hml hv
  obtain ⟨rfl, hsz, hP, hK, hD0⟩ := hv
  have hx := B.exec
  have hb := B.bytes
  have hr := B.returns
  have hts0 := atoms_spec (ws := nw_Plan_isBelow) B.pre
  have hts : ∀ w ∈ ng_tbl, w.before ([.ref (apl 0), .int x1, .int x2] : List Value).toArray s = true := fun w h => hts0 w (List.mem_cons_of_mem _ h)
  have hown : s.vm.findClass "CeilingRows$Plan" = some m.cls := findClass_of_methodNamed B.named
  have hlocks := B.notSynchronized
  subst hsz
  have hD := hD0.self (sz := s.heap.size)
  generalize hAe : va_A (cw_Plan cI cZ cO apl pl) s.heap.size = A at hD ⊢
  have hA : ∀ q : Nat, s.heap.size ≤ q → A q := fun q h => by rw [← hAe]; exact Or.inr h
  have hS : va_S A s.heap s.heap [] := va_S.rf
  have hP : va_P (dC, dI) vwCl (cw_Plan cI cZ cO apl pl) s.heap := hP
  have hl := lv_entry ([.ref (apl 0), .int x1, .int x2]) (n := 3) (Nat.le_of_ble_eq_true rfl)
  rw [lg_entry_eq]
  generalize (lg_sl ([.ref (apl 0), .int x1, .int x2]) ++ List.replicate (3 - (lg_sl ([.ref (apl 0), .int x1, .int x2])).length) Slot.unset).toArray = ls at hl ⊢
  have hl : lv_has ls 3 [(0, .ref (apl 0)), (1, .int x1), (2, .int x2)] := hl
  have k_0 : (0 : Int32).toInt = 0 := by decide
  have k_1 : (1 : Int32).toInt = 1 := by decide
  obtain ⟨tgt, hT⟩ : ∃ z, md_Plan_isBelow pl x1 x2 = z := ⟨_, rfl⟩
  have hM := hT
  unfold md_Plan_isBelow at hM
  refine lv_aload_n hx hb nd_Plan_isBelow_0 rfl (lv_at hl 0 rfl) ?_
  refine va_get (D := (dC, dI)) (ci := 0) (v := .ref (apl 2)) (C := "CeilingRows$Plan") (T := nf_Plan) (N := 7) hx hb hts nin_Plan hown hK hP 0 rfl rfl 3 (by decide) (hts _ tw_36) (fun _ h9 => h9) rfl nd_Plan_isBelow_1 ?_
  refine lv_iload_n hx hb nd_Plan_isBelow_4 rfl (lv_at hl 1 rfl) ?_
  have b_1 : vp_in x1 11 := vp_in_iff.mpr (by omega)
  refine va_iald hx hb hK hP 2 0 rfl rfl b_1 nd_Plan_isBelow_5 ?_
  have f_2 := cr_rgo hR_pl.2.2 (x1.toNatClampNeg)
  refine lv_aload_n hx hb nd_Plan_isBelow_6 rfl (lv_at hl 0 rfl) ?_
  refine va_get (D := (dC, dI)) (ci := 0) (v := .ref (apl 2)) (C := "CeilingRows$Plan") (T := nf_Plan) (N := 7) hx hb hts nin_Plan hown hK hP 0 rfl rfl 3 (by decide) (hts _ tw_36) (fun _ h9 => h9) rfl nd_Plan_isBelow_7 ?_
  refine lv_iload_n hx hb nd_Plan_isBelow_10 rfl (lv_at hl 2 rfl) ?_
  have b_3 : vp_in x2 11 := vp_in_iff.mpr (by omega)
  refine va_iald hx hb hK hP 2 0 rfl rfl b_3 nd_Plan_isBelow_11 ?_
  have f_4 := cr_rgo hR_pl.2.2 (x2.toNatClampNeg)
  refine lv_icmp_ne (tgt := 34) hx hb nd_Plan_isBelow_12 (by decide) (fun c_5 => ?_) (fun c_5 => ?_)
  · have c_5t := cr_ne c_5
    rw [if_neg c_5] at hM
    refine lv_iconst (v := 0) hx hb nd_Plan_isBelow_34 (by decide) ?_
    exact W.zret (v := (0 : Int32)) (ty := .boolean) hx hb hr (by decide) (fun t ht hW => ⟨⟨(0 : Int32), (), rfl, by rw [hT, ← hM], by rw [ht]; exact hP, va_K.moved hW.alike hK, hD⟩, hS.F ht⟩) hS.2.2 nd_Plan_isBelow_35
  · have c_5t := cr_eq c_5
    rw [if_pos c_5] at hM
    refine lv_aload_n hx hb nd_Plan_isBelow_15 rfl (lv_at hl 0 rfl) ?_
    refine va_get (D := (dC, dI)) (ci := 0) (v := .ref (apl 1)) (C := "CeilingRows$Plan") (T := nf_Plan) (N := 7) hx hb hts nin_Plan hown hK hP 0 rfl rfl 2 (by decide) (hts _ tw_34) (fun _ h9 => h9) rfl nd_Plan_isBelow_16 ?_
    refine lv_iload_n hx hb nd_Plan_isBelow_19 rfl (lv_at hl 1 rfl) ?_
    have b_6 : vp_in x1 11 := vp_in_iff.mpr (by omega)
    refine va_iald hx hb hK hP 1 0 rfl rfl b_6 nd_Plan_isBelow_20 ?_
    refine lv_aload_n hx hb nd_Plan_isBelow_21 rfl (lv_at hl 0 rfl) ?_
    refine va_get (D := (dC, dI)) (ci := 0) (v := .ref (apl 1)) (C := "CeilingRows$Plan") (T := nf_Plan) (N := 7) hx hb hts nin_Plan hown hK hP 0 rfl rfl 2 (by decide) (hts _ tw_34) (fun _ h9 => h9) rfl nd_Plan_isBelow_22 ?_
    refine lv_iload_n hx hb nd_Plan_isBelow_25 rfl (lv_at hl 2 rfl) ?_
    have b_7 : vp_in x2 11 := vp_in_iff.mpr (by omega)
    refine va_iald hx hb hK hP 1 0 rfl rfl b_7 nd_Plan_isBelow_26 ?_
    refine lv_icmp_ge (tgt := 34) hx hb nd_Plan_isBelow_27 (by decide) (fun c_8 => ?_) (fun c_8 => ?_)
    · have c_8t := cr_le c_8
      rw [if_pos c_8] at hM
      refine lv_iconst (v := 0) hx hb nd_Plan_isBelow_34 (by decide) ?_
      exact W.zret (v := (0 : Int32)) (ty := .boolean) hx hb hr (by decide) (fun t ht hW => ⟨⟨(0 : Int32), (), rfl, by rw [hT, ← hM], by rw [ht]; exact hP, va_K.moved hW.alike hK, hD⟩, hS.F ht⟩) hS.2.2 nd_Plan_isBelow_35
    · have c_8t := cr_nle c_8
      rw [if_neg c_8] at hM
      refine lv_iconst (v := 1) hx hb nd_Plan_isBelow_30 (by decide) ?_
      refine lv_goto (tgt := 35) hx hb nd_Plan_isBelow_31 (by decide) ?_
      exact W.zret (v := (1 : Int32)) (ty := .boolean) hx hb hr (by decide) (fun t ht hW => ⟨⟨(1 : Int32), (), rfl, by rw [hT, ← hM], by rw [ht]; exact hP, va_K.moved hW.alike hK, hD⟩, hS.F ht⟩) hS.2.2 nd_Plan_isBelow_35

theorem nd_Plan_longestDelay_0 : decode prog_4_method_10_code 0 = .ok (.aload_n 0, 1) := by decide +kernel
theorem nd_Plan_longestDelay_1 : decode prog_4_method_10_code 1 = .ok (.iload_n 2, 1) := by decide +kernel
theorem nd_Plan_longestDelay_2 : decode prog_4_method_10_code 2 = .ok (.iload_n 1, 1) := by decide +kernel
theorem nd_Plan_longestDelay_3 : decode prog_4_method_10_code 3 = .ok (.invokevirtual 42, 3) := by decide +kernel
theorem nd_Plan_longestDelay_6 : decode prog_4_method_10_code 6 = .ok (.ifCond .ne (5), 3) := by decide +kernel
theorem nd_Plan_longestDelay_9 : decode prog_4_method_10_code 9 = .ok (.iconst 0, 1) := by decide +kernel
theorem nd_Plan_longestDelay_10 : decode prog_4_method_10_code 10 = .ok (.ireturn, 1) := by decide +kernel
theorem nd_Plan_longestDelay_11 : decode prog_4_method_10_code 11 = .ok (.iconst 0, 1) := by decide +kernel
theorem nd_Plan_longestDelay_12 : decode prog_4_method_10_code 12 = .ok (.istore_n 3, 1) := by decide +kernel
theorem nd_Plan_longestDelay_13 : decode prog_4_method_10_code 13 = .ok (.iconst 1, 1) := by decide +kernel
theorem nd_Plan_longestDelay_14 : decode prog_4_method_10_code 14 = .ok (.istore 4, 2) := by decide +kernel
theorem nd_Plan_longestDelay_16 : decode prog_4_method_10_code 16 = .ok (.iload 4, 2) := by decide +kernel
theorem nd_Plan_longestDelay_18 : decode prog_4_method_10_code 18 = .ok (.aload_n 0, 1) := by decide +kernel
theorem nd_Plan_longestDelay_19 : decode prog_4_method_10_code 19 = .ok (.getfield 33, 3) := by decide +kernel
theorem nd_Plan_longestDelay_22 : decode prog_4_method_10_code 22 = .ok (.if_icmp .gt (39), 3) := by decide +kernel
theorem nd_Plan_longestDelay_25 : decode prog_4_method_10_code 25 = .ok (.aload_n 0, 1) := by decide +kernel
theorem nd_Plan_longestDelay_26 : decode prog_4_method_10_code 26 = .ok (.getfield 18, 3) := by decide +kernel
theorem nd_Plan_longestDelay_29 : decode prog_4_method_10_code 29 = .ok (.iload 4, 2) := by decide +kernel
theorem nd_Plan_longestDelay_31 : decode prog_4_method_10_code 31 = .ok (.iaload, 1) := by decide +kernel
theorem nd_Plan_longestDelay_32 : decode prog_4_method_10_code 32 = .ok (.aload_n 0, 1) := by decide +kernel
theorem nd_Plan_longestDelay_33 : decode prog_4_method_10_code 33 = .ok (.getfield 9, 3) := by decide +kernel
theorem nd_Plan_longestDelay_36 : decode prog_4_method_10_code 36 = .ok (.iload_n 1, 1) := by decide +kernel
theorem nd_Plan_longestDelay_37 : decode prog_4_method_10_code 37 = .ok (.iaload, 1) := by decide +kernel
theorem nd_Plan_longestDelay_38 : decode prog_4_method_10_code 38 = .ok (.if_icmp .lt (17), 3) := by decide +kernel
theorem nd_Plan_longestDelay_41 : decode prog_4_method_10_code 41 = .ok (.iload_n 3, 1) := by decide +kernel
theorem nd_Plan_longestDelay_42 : decode prog_4_method_10_code 42 = .ok (.aload_n 0, 1) := by decide +kernel
theorem nd_Plan_longestDelay_43 : decode prog_4_method_10_code 43 = .ok (.getfield 26, 3) := by decide +kernel
theorem nd_Plan_longestDelay_46 : decode prog_4_method_10_code 46 = .ok (.iload_n 2, 1) := by decide +kernel
theorem nd_Plan_longestDelay_47 : decode prog_4_method_10_code 47 = .ok (.aaload, 1) := by decide +kernel
theorem nd_Plan_longestDelay_48 : decode prog_4_method_10_code 48 = .ok (.iload 4, 2) := by decide +kernel
theorem nd_Plan_longestDelay_50 : decode prog_4_method_10_code 50 = .ok (.iaload, 1) := by decide +kernel
theorem nd_Plan_longestDelay_51 : decode prog_4_method_10_code 51 = .ok (.invokestatic 36, 3) := by decide +kernel
theorem nd_Plan_longestDelay_54 : decode prog_4_method_10_code 54 = .ok (.istore_n 3, 1) := by decide +kernel
theorem nd_Plan_longestDelay_55 : decode prog_4_method_10_code 55 = .ok (.iinc 4 1, 3) := by decide +kernel
theorem nd_Plan_longestDelay_58 : decode prog_4_method_10_code 58 = .ok (.goto (-42), 3) := by decide +kernel
theorem nd_Plan_longestDelay_61 : decode prog_4_method_10_code 61 = .ok (.iload_n 3, 1) := by decide +kernel
theorem nd_Plan_longestDelay_62 : decode prog_4_method_10_code 62 = .ok (.ireturn, 1) := by decide +kernel
def lo_Plan_longestDelay_16 (pl : cr_S) (x1 : Int32) (x2 : Int32) : Nat → Int32 → Int32 → Int32
  | 0, _, _ => 0
  | n_16 + 1, v3_16, v4_16 =>
    (if (pl 0 1) < v4_16 then v3_16 else (if (pl 3 v4_16.toNatClampNeg) < (pl 1 x1.toNatClampNeg) then (lo_Plan_longestDelay_16 pl x1 x2 n_16 v3_16 (v4_16 + (1 : Int32))) else (lo_Plan_longestDelay_16 pl x1 x2 n_16 (cr_max v3_16 (pl (6 + x2.toNatClampNeg) v4_16.toNatClampNeg)) (v4_16 + (1 : Int32)))))
def md_Plan_longestDelay (pl : cr_S) (x1 : Int32) (x2 : Int32) : Int32 :=
  (if (md_Plan_isBelow pl x2 x1) = 0 then (0 : Int32) else (lo_Plan_longestDelay_16 pl x1 x2 9 (0 : Int32) (1 : Int32)))
abbrev pq_Plan_longestDelay (dC : Nat → ClassId) (dI : Nat → Nat → Nat) (cI cZ cO : ClassId) (apl : Nat → Nat) (pl : cr_S) (x1 : Int32) (x2 : Int32) (A : Nat → Prop) : Array Value → State → Outcome → State → Prop :=
  va_Qi (fun (r : Int32) (_ : Unit) => r = md_Plan_longestDelay pl x1 x2) (fun (_ : Unit) t => va_P (dC, dI) vwCl (cw_Plan cI cZ cO apl pl) t.heap ∧ va_K (dC, dI) vwCl [(cI, .int), (cZ, .boolean), (cO, .array .int)] t ∧ va_D A (cw_Plan cI cZ cO apl pl)) A
set_option maxHeartbeats 4000000 in
set_option maxRecDepth 100000 in
theorem ct_Plan_longestDelay (l : Launch) (dC : Nat → ClassId) (dI : Nat → Nat → Nat) (cI cZ cO : ClassId) (apl : Nat → Nat) (sz : Nat) (pl : cr_S) (x1 : Int32) (x2 : Int32) (hR_pl : cr_RPlan pl) (hx1 : 0 ≤ x1.toInt ∧ x1.toInt ≤ 10) (hx2 : 0 ≤ x2.toInt ∧ x2.toInt ≤ 10) : Met l ny_Plan_longestDelay nw_Plan_longestDelay ({ frames := 1, cells := 0, slots := 0, locals := 22 } : Room) (va_Pc [.ref (apl 0), .int x1, .int x2] (fun U => U.heap.size = sz ∧ va_P (dC, dI) vwCl (cw_Plan cI cZ cO apl pl) U.heap ∧ va_K (dC, dI) vwCl [(cI, .int), (cZ, .boolean), (cO, .array .int)] U ∧ va_D (fun _ => True) (cw_Plan cI cZ cO apl pl))) (pq_Plan_longestDelay dC dI cI cZ cO apl pl x1 x2 (va_A (cw_Plan cI cZ cO apl pl) sz)) 0 0 (va_A (cw_Plan cI cZ cO apl pl) sz) := by
  refine Met.ofW (cc := prog_4_method_10_code) (maxL := 5) (ret := (some .int)) (by decide) rfl ?_
  intro p e s m args below meth c s₁ B hml hv
  obtain ⟨rfl, hsz, hP, hK, hD0⟩ := hv
  have hx := B.exec
  have hb := B.bytes
  have hr := B.returns
  have hts0 := atoms_spec (ws := nw_Plan_longestDelay) B.pre
  have hts : ∀ w ∈ ng_tbl, w.before ([.ref (apl 0), .int x1, .int x2] : List Value).toArray s = true := fun w h => hts0 w (List.mem_cons_of_mem _ h)
  have hown : s.vm.findClass "CeilingRows$Plan" = some m.cls := findClass_of_methodNamed B.named
  have hlocks := B.notSynchronized
  subst hsz
  have hD := hD0.self (sz := s.heap.size)
  generalize hAe : va_A (cw_Plan cI cZ cO apl pl) s.heap.size = A at hD ⊢
  have hA : ∀ q : Nat, s.heap.size ≤ q → A q := fun q h => by rw [← hAe]; exact Or.inr h
  have hS : va_S A s.heap s.heap [] := va_S.rf
  have hP : va_P (dC, dI) vwCl (cw_Plan cI cZ cO apl pl) s.heap := hP
  have hl := lv_entry ([.ref (apl 0), .int x1, .int x2]) (n := 5) (Nat.le_of_ble_eq_true rfl)
  rw [lg_entry_eq]
  generalize (lg_sl ([.ref (apl 0), .int x1, .int x2]) ++ List.replicate (5 - (lg_sl ([.ref (apl 0), .int x1, .int x2])).length) Slot.unset).toArray = ls at hl ⊢
  have hl : lv_has ls 5 [(0, .ref (apl 0)), (1, .int x1), (2, .int x2)] := hl
  have k_0 : (0 : Int32).toInt = 0 := by decide
  have k_1 : (1 : Int32).toInt = 1 := by decide
  obtain ⟨tgt, hT⟩ : ∃ z, md_Plan_longestDelay pl x1 x2 = z := ⟨_, rfl⟩
  have hM := hT
  unfold md_Plan_longestDelay at hM
  refine lv_aload_n hx hb nd_Plan_longestDelay_0 rfl (lv_at hl 0 rfl) ?_
  refine lv_iload_n hx hb nd_Plan_longestDelay_1 rfl (lv_at hl 2 rfl) ?_
  refine lv_iload_n hx hb nd_Plan_longestDelay_2 rfl (lv_at hl 1 rfl) ?_
  have hPc := hP
  have hDc := hD
  have hFc := va_free (wc := cw_Plan cI cZ cO apl pl) hD hS hA [0, 1, 2, 3, 4, 5, 6, 7, 8, 9, 10, 11, 12, 13, 14, 15, 16] rfl
  refine va_calli (va_runV (As := [.int x2, .int x1]) (rest := []) ⟨hx, hb, hml, hown, hts⟩ (ct_Plan_isBelow l dC dI cI cZ cO apl s.heap.size pl x2 x1 hR_pl (by omega) (by omega)) (cwV 2 hts (ng_V tw_303 tw_304 tw_305 tw_2 tw_306) rfl rfl rfl (by decide +kernel) ⟨Nat.le_of_ble_eq_true rfl, Nat.le_of_ble_eq_true rfl⟩) ⟨fun a U g mk q => by obtain ⟨q0, q1, qP, qK, qD⟩ := q; exact ⟨q0, q1, qP, va_K.moved (u := U) (U := U.calling g mk a) (Vm.Alike.refl U.vm) qK, qD⟩, va_recv hK hPc (ci := 0) (q0 := 0) rfl rfl, fun U hU hW => ⟨rfl, by rw [hU], by rw [hU]; exact hPc, va_K.moved hW.alike hK, hDc.weaken (fun _ _ _ _ => trivial)⟩⟩ rfl rfl hl.1 rfl (lv_room (Nat.le_of_ble_eq_true rfl)) nd_Plan_longestDelay_3 ⟨Nat.zero_le _, Nat.zero_le _⟩) hS (fun q _ h => hFc q h) hFc (fun r_1 u t H1 locs ht hvm hw hB hz1 hk1 hS => ?_)
  obtain ⟨hP1, hK1, hD1⟩ := hB
  rw [ht] at hP1
  have w_2 := hw
  try rw [← w_2] at hM
  have hP := hP1
  have hD := cr_Dw hD1 hFc
  generalize H1 = H at hP hS ⊢
  refine lv_if_ne (tgt := 11) hx hb nd_Plan_longestDelay_6 (by decide) (fun c_3 => ?_) (fun c_3 => ?_)
  · have c_3t := cr_ne c_3
    rw [if_neg c_3] at hM
    refine lv_iconst (v := 0) hx hb nd_Plan_longestDelay_11 (by decide) ?_
    refine lv_istore_n (lv' := [(3, .int (0 : Int32)), (0, .ref (apl 0)), (1, .int x1), (2, .int x2)]) hx hb nd_Plan_longestDelay_12 rfl hl (by decide) rfl (fun ls hl => ?_)
    refine lv_iconst (v := 1) hx hb nd_Plan_longestDelay_13 (by decide) ?_
    refine lv_istore (lv' := [(4, .int (1 : Int32)), (3, .int (0 : Int32)), (0, .ref (apl 0)), (1, .int x1), (2, .int x2)]) hx hb nd_Plan_longestDelay_14 hl (by decide) rfl (fun ls hl => ?_)
    have hl := lv_sub hl [2, 3, 4, 1, 0] rfl
    have lp_16 : ∀ (n_16 : Nat) (v3_16 : Int32) (v4_16 : Int32), (1 ≤ v4_16.toInt ∧ v4_16.toInt ≤ 9) → (9 < v4_16.toInt + (n_16 : Int)) → lo_Plan_longestDelay_16 pl x1 x2 n_16 v3_16 v4_16 = tgt → ∀ (H : Heap) (locs : List Loc), va_P (dC, dI) vwCl (cw_Plan cI cZ cO apl pl) H → va_D A (cw_Plan cI cZ cO apl pl) → va_S A s.heap H locs → ∀ ls : Array Slot, lv_has ls 5 [(0, .ref (apl 0)), (1, .int x1), (2, .int x2), (3, .int v3_16), (4, .int v4_16)] → W p l e (headSpec nw_Plan_longestDelay ({ frames := 1, cells := 0, slots := 0, locals := 22 } : Room)).room s m ([.ref (apl 0), .int x1, .int x2] : List Value).toArray below meth c H locs 0 0 (MQ below (pq_Plan_longestDelay dC dI cI cZ cO apl pl x1 x2 A) ([.ref (apl 0), .int x1, .int x2] : List Value).toArray s 0 0 A) (F0 m 16 ls []) := by
      intro n_16
      induction n_16 with
      | zero =>
        intro v3_16 v4_16 hv4_16 hn_16
        exfalso; omega
      | succ n_16 ih_16 =>
        intro v3_16 v4_16 hv4_16 hn_16 hM H locs hP hD hS ls hl
        have hn_16 : 9 < v4_16.toInt + ((n_16 : Int) + 1) := by omega
        rw [lo_Plan_longestDelay_16] at hM
        refine lv_iload hx hb nd_Plan_longestDelay_16 (lv_at hl 4 rfl) ?_
        refine lv_aload_n hx hb nd_Plan_longestDelay_18 rfl (lv_at hl 0 rfl) ?_
        refine va_get (D := (dC, dI)) (ci := 0) (v := .int (pl 0 1)) (C := "CeilingRows$Plan") (T := nf_Plan) (N := 7) hx hb hts nin_Plan hown hK hP 0 rfl rfl 1 (by decide) (hts _ tw_31) (fun _ h9 => h9) rfl nd_Plan_longestDelay_19 ?_
        have f_4 := cr_rfo hR_pl.2.1
        refine lv_icmp_gt (tgt := 61) hx hb nd_Plan_longestDelay_22 (by decide) (fun c_5 => ?_) (fun c_5 => ?_)
        · have c_5t := cr_lt c_5
          rw [if_pos c_5] at hM
          refine lv_iload_n hx hb nd_Plan_longestDelay_61 rfl (lv_at hl 3 rfl) ?_
          exact W.iret (v := v3_16) hx hb hr (fun t ht hW => ⟨⟨v3_16, (), rfl, by rw [hT, ← hM], by rw [ht]; exact hP, va_K.moved hW.alike hK, hD⟩, hS.F ht⟩) hS.2.2 nd_Plan_longestDelay_62
        · have c_5t := cr_nlt c_5
          rw [if_neg c_5] at hM
          refine lv_aload_n hx hb nd_Plan_longestDelay_25 rfl (lv_at hl 0 rfl) ?_
          refine va_get (D := (dC, dI)) (ci := 0) (v := .ref (apl 3)) (C := "CeilingRows$Plan") (T := nf_Plan) (N := 7) hx hb hts nin_Plan hown hK hP 0 rfl rfl 4 (by decide) (hts _ tw_39) (fun _ h9 => h9) rfl nd_Plan_longestDelay_26 ?_
          refine lv_iload hx hb nd_Plan_longestDelay_29 (lv_at hl 4 rfl) ?_
          have b_6 : vp_in v4_16 9 := vp_in_iff.mpr (by omega)
          refine va_iald hx hb hK hP 3 0 rfl rfl b_6 nd_Plan_longestDelay_31 ?_
          refine lv_aload_n hx hb nd_Plan_longestDelay_32 rfl (lv_at hl 0 rfl) ?_
          refine va_get (D := (dC, dI)) (ci := 0) (v := .ref (apl 1)) (C := "CeilingRows$Plan") (T := nf_Plan) (N := 7) hx hb hts nin_Plan hown hK hP 0 rfl rfl 2 (by decide) (hts _ tw_34) (fun _ h9 => h9) rfl nd_Plan_longestDelay_33 ?_
          refine lv_iload_n hx hb nd_Plan_longestDelay_36 rfl (lv_at hl 1 rfl) ?_
          have b_7 : vp_in x1 11 := vp_in_iff.mpr (by omega)
          refine va_iald hx hb hK hP 1 0 rfl rfl b_7 nd_Plan_longestDelay_37 ?_
          refine lv_icmp_lt (tgt := 55) hx hb nd_Plan_longestDelay_38 (by decide) (fun c_8 => ?_) (fun c_8 => ?_)
          · have c_8t := cr_lt c_8
            rw [if_pos c_8] at hM
            have e_9 : (v4_16 + (1 : Int32)).toInt = v4_16.toInt + (1 : Int32).toInt := cr_add (by omega)
            refine lv_iinc (v := (v4_16 + (1 : Int32))) (lv' := [(4, .int (v4_16 + (1 : Int32))), (0, .ref (apl 0)), (1, .int x1), (2, .int x2), (3, .int v3_16)]) hx hb nd_Plan_longestDelay_55 hl (k := 4) rfl (by rfl) (by decide) rfl (fun ls hl => ?_)
            refine lv_goto (tgt := 16) hx hb nd_Plan_longestDelay_58 (by decide) ?_
            exact ih_16 v3_16 (v4_16 + (1 : Int32)) (by omega) (by omega) hM _ _ hP hD hS _ (lv_sub hl [1, 2, 3, 4, 0] rfl)
          · have c_8t := cr_nlt c_8
            rw [if_neg c_8] at hM
            refine lv_iload_n hx hb nd_Plan_longestDelay_41 rfl (lv_at hl 3 rfl) ?_
            refine lv_aload_n hx hb nd_Plan_longestDelay_42 rfl (lv_at hl 0 rfl) ?_
            refine va_get (D := (dC, dI)) (ci := 0) (v := .ref (apl 5)) (C := "CeilingRows$Plan") (T := nf_Plan) (N := 7) hx hb hts nin_Plan hown hK hP 0 rfl rfl 6 (by decide) (hts _ tw_43) (fun _ h9 => h9) rfl nd_Plan_longestDelay_43 ?_
            refine lv_iload_n hx hb nd_Plan_longestDelay_46 rfl (lv_at hl 2 rfl) ?_
            have b_10 : vp_in x2 11 := vp_in_iff.mpr (by omega)
            have g_11 : x2.toNatClampNeg < 11 := cr_ix b_10
            refine ga_ald hx hb hK hP 5 2 rfl rfl b_10 g_11 nd_Plan_longestDelay_47 ?_
            refine lv_iload hx hb nd_Plan_longestDelay_48 (lv_at hl 4 rfl) ?_
            have b_12 : vp_in v4_16 9 := vp_in_iff.mpr (by omega)
            refine va_iald hx hb hK hP (6 + x2.toNatClampNeg) 0 (cg_Plan_6 cI cZ cO apl pl _ g_11) rfl b_12 nd_Plan_longestDelay_50 ?_
            refine va_mmax hx hb (by rw [hml]; exact hl.1.symm) hown (hts _ tw_206) (hts _ tw_207) (hts _ tw_7) (hts _ tw_208) (Nat.le_of_ble_eq_true rfl) (Nat.le_of_ble_eq_true rfl) (Nat.zero_le _) (Nat.zero_le _) nd_Plan_longestDelay_51 ?_
            refine lv_istore_n (lv' := [(3, .int (cr_max v3_16 (pl (6 + x2.toNatClampNeg) v4_16.toNatClampNeg))), (0, .ref (apl 0)), (1, .int x1), (2, .int x2), (4, .int v4_16)]) hx hb nd_Plan_longestDelay_54 rfl hl (by decide) rfl (fun ls hl => ?_)
            have e_13 : (v4_16 + (1 : Int32)).toInt = v4_16.toInt + (1 : Int32).toInt := cr_add (by omega)
            refine lv_iinc (v := (v4_16 + (1 : Int32))) (lv' := [(4, .int (v4_16 + (1 : Int32))), (3, .int (cr_max v3_16 (pl (6 + x2.toNatClampNeg) v4_16.toNatClampNeg))), (0, .ref (apl 0)), (1, .int x1), (2, .int x2)]) hx hb nd_Plan_longestDelay_55 hl (k := 4) rfl (by rfl) (by decide) rfl (fun ls hl => ?_)
            refine lv_goto (tgt := 16) hx hb nd_Plan_longestDelay_58 (by decide) ?_
            exact ih_16 (cr_max v3_16 (pl (6 + x2.toNatClampNeg) v4_16.toNatClampNeg)) (v4_16 + (1 : Int32)) (by omega) (by omega) hM _ _ hP hD hS _ (lv_sub hl [2, 3, 4, 1, 0] rfl)
    exact lp_16 9 (0 : Int32) (1 : Int32) (by omega) (by omega) hM _ _ hP hD hS _ hl
  · have c_3t := cr_eq c_3
    rw [if_pos c_3] at hM
    refine lv_iconst (v := 0) hx hb nd_Plan_longestDelay_9 (by decide) ?_
    exact W.iret (v := (0 : Int32)) hx hb hr (fun t ht hW => ⟨⟨(0 : Int32), (), rfl, by rw [hT, ← hM], by rw [ht]; exact hP, va_K.moved hW.alike hK, hD⟩, hS.F ht⟩) hS.2.2 nd_Plan_longestDelay_10
end
section
theorem nd_Board_clear_0 : decode prog_2_method_2_code 0 = .ok (.aload_n 0, 1) := by decide +kernel
theorem nd_Board_clear_1 : decode prog_2_method_2_code 1 = .ok (.getfield 9, 3) := by decide +kernel
theorem nd_Board_clear_4 : decode prog_2_method_2_code 4 = .ok (.iconst 0, 1) := by decide +kernel
theorem nd_Board_clear_5 : decode prog_2_method_2_code 5 = .ok (.invokestatic 31, 3) := by decide +kernel
theorem nd_Board_clear_8 : decode prog_2_method_2_code 8 = .ok (.aload_n 0, 1) := by decide +kernel
theorem nd_Board_clear_9 : decode prog_2_method_2_code 9 = .ok (.getfield 15, 3) := by decide +kernel
theorem nd_Board_clear_12 : decode prog_2_method_2_code 12 = .ok (.iconst 0, 1) := by decide +kernel
theorem nd_Board_clear_13 : decode prog_2_method_2_code 13 = .ok (.invokestatic 31, 3) := by decide +kernel
theorem nd_Board_clear_16 : decode prog_2_method_2_code 16 = .ok (.aload_n 0, 1) := by decide +kernel
theorem nd_Board_clear_17 : decode prog_2_method_2_code 17 = .ok (.iconst 0, 1) := by decide +kernel
theorem nd_Board_clear_18 : decode prog_2_method_2_code 18 = .ok (.putfield 37, 3) := by decide +kernel
theorem nd_Board_clear_21 : decode prog_2_method_2_code 21 = .ok (.aload_n 0, 1) := by decide +kernel
theorem nd_Board_clear_22 : decode prog_2_method_2_code 22 = .ok (.getfield 18, 3) := by decide +kernel
theorem nd_Board_clear_25 : decode prog_2_method_2_code 25 = .ok (.iconst 0, 1) := by decide +kernel
theorem nd_Board_clear_26 : decode prog_2_method_2_code 26 = .ok (.invokestatic 31, 3) := by decide +kernel
theorem nd_Board_clear_29 : decode prog_2_method_2_code 29 = .ok (.aload_n 0, 1) := by decide +kernel
theorem nd_Board_clear_30 : decode prog_2_method_2_code 30 = .ok (.getfield 21, 3) := by decide +kernel
theorem nd_Board_clear_33 : decode prog_2_method_2_code 33 = .ok (.iconst 0, 1) := by decide +kernel
theorem nd_Board_clear_34 : decode prog_2_method_2_code 34 = .ok (.invokestatic 31, 3) := by decide +kernel
theorem nd_Board_clear_37 : decode prog_2_method_2_code 37 = .ok (.aload_n 0, 1) := by decide +kernel
theorem nd_Board_clear_38 : decode prog_2_method_2_code 38 = .ok (.getfield 24, 3) := by decide +kernel
theorem nd_Board_clear_41 : decode prog_2_method_2_code 41 = .ok (.iconst 0, 1) := by decide +kernel
theorem nd_Board_clear_42 : decode prog_2_method_2_code 42 = .ok (.invokestatic 31, 3) := by decide +kernel
theorem nd_Board_clear_45 : decode prog_2_method_2_code 45 = .ok (.return_, 1) := by decide +kernel
def md_Board_clear (pl : cr_S) (bd : cr_S) : cr_S :=
  (cr_fill (cr_fill (cr_fill (cr_up (cr_fill (cr_fill bd 1 11 (0 : Int32)) 2 11 (0 : Int32)) 0 0 (0 : Int32)) 3 11 (0 : Int32)) 4 9 (0 : Int32)) 5 9 (0 : Int32))
abbrev pq_Board_clear (dC : Nat → ClassId) (dI : Nat → Nat → Nat) (cI cZ cO : ClassId) (apl abd : Nat → Nat) (pl : cr_S) (bd : cr_S)  (A : Nat → Prop) : Array Value → State → Outcome → State → Prop :=
  va_Qv (fun (bd' : cr_S) => bd' = md_Board_clear pl bd ∧ cr_RBoard bd') (fun (bd' : cr_S) t => va_P (dC, dI) vwCl (cw_Plan cI cZ cO apl pl ++ cw_Board cI cZ cO abd apl bd') t.heap ∧ va_K (dC, dI) vwCl [(cI, .int), (cZ, .boolean), (cO, .array .int)] t ∧ va_D A (cw_Plan cI cZ cO apl pl ++ cw_Board cI cZ cO abd apl bd')) A
set_option maxHeartbeats 4000000 in
set_option maxRecDepth 100000 in
theorem ct_Board_clear (l : Launch) (dC : Nat → ClassId) (dI : Nat → Nat → Nat) (cI cZ cO : ClassId) (apl abd : Nat → Nat) (sz : Nat) (pl : cr_S) (bd : cr_S)  (hR_bd : cr_RBoard bd) (hR_pl : cr_RPlan pl) : Met l ny_Board_clear nw_Board_clear ({ frames := 1, cells := 0, slots := 0, locals := 23 } : Room) (va_Pc [.ref (abd 0)] (fun U => U.heap.size = sz ∧ va_P (dC, dI) vwCl (cw_Plan cI cZ cO apl pl ++ cw_Board cI cZ cO abd apl bd) U.heap ∧ va_K (dC, dI) vwCl [(cI, .int), (cZ, .boolean), (cO, .array .int)] U ∧ va_D (fun _ => True) (cw_Plan cI cZ cO apl pl ++ cw_Board cI cZ cO abd apl bd))) (pq_Board_clear dC dI cI cZ cO apl abd pl bd  (va_A (cw_Plan cI cZ cO apl pl ++ cw_Board cI cZ cO abd apl bd) sz)) 0 0 (va_A (cw_Plan cI cZ cO apl pl ++ cw_Board cI cZ cO abd apl bd) sz) := by
  refine Met.ofW (cc := prog_2_method_2_code) (maxL := 1) (ret := none) (by decide) rfl ?_
  intro p e s m args below meth c s₁ B hml hv
  obtain ⟨rfl, hsz, hP, hK, hD0⟩ := hv
  have hx := B.exec
  have hb := B.bytes
  have hr := B.returns
  have hts0 := atoms_spec (ws := nw_Board_clear) B.pre
  have hts : ∀ w ∈ ng_tbl, w.before ([.ref (abd 0)] : List Value).toArray s = true := fun w h => hts0 w (List.mem_cons_of_mem _ h)
  have hown : s.vm.findClass "CeilingRows$Board" = some m.cls := findClass_of_methodNamed B.named
  have hlocks := B.notSynchronized
  subst hsz
  have hD := hD0.self (sz := s.heap.size)
  generalize hAe : va_A (cw_Plan cI cZ cO apl pl ++ cw_Board cI cZ cO abd apl bd) s.heap.size = A at hD ⊢
  have hA : ∀ q : Nat, s.heap.size ≤ q → A q := fun q h => by rw [← hAe]; exact Or.inr h
  have hS : va_S A s.heap s.heap [] := va_S.rf
  have hP : va_P (dC, dI) vwCl (cw_Plan cI cZ cO apl pl ++ cw_Board cI cZ cO abd apl bd) s.heap := hP
  have hl := lv_entry ([.ref (abd 0)]) (n := 1) (Nat.le_of_ble_eq_true rfl)
  rw [lg_entry_eq]
  generalize (lg_sl ([.ref (abd 0)]) ++ List.replicate (1 - (lg_sl ([.ref (abd 0)])).length) Slot.unset).toArray = ls at hl ⊢
  have hl : lv_has ls 1 [(0, .ref (abd 0))] := hl
  have k_0 : (0 : Int32).toInt = 0 := by decide
  obtain ⟨tgt, hT⟩ : ∃ z, md_Board_clear pl bd = z := ⟨_, rfl⟩
  have hM := hT
  unfold md_Board_clear at hM
  refine lv_aload_n hx hb nd_Board_clear_0 rfl (lv_at hl 0 rfl) ?_
  refine va_get (D := (dC, dI)) (ci := 1) (v := .ref (abd 1)) (C := "CeilingRows$Board") (T := nf_Board) (N := 7) hx hb hts nin_Board hown hK hP 17 rfl rfl 1 (by decide) (hts _ tw_68) (fun _ h9 => h9) rfl nd_Board_clear_1 ?_
  refine lv_iconst (v := 0) hx hb nd_Board_clear_4 (by decide) ?_
  have h_1 : (cw_Plan cI cZ cO apl pl ++ cw_Board cI cZ cO abd apl bd)[18]? = some (abd 1, (.inl (cI, 11, .inl (bd 1)) : va_E)) := rfl
  have hPc := cr_P1 hP h_1
  have hFc := cr_F1 hD hS hA h_1
  refine va_callv (va_runS (As := [.ref (abd 1), .int (0 : Int32)]) (rest := []) ⟨hx, hb, hml, hown, hts⟩ (ct_fill l dC dI cI cZ cO (abd 1) s.heap.size 11 (bd 1) (0 : Int32) (by decide)) (va_cwS 2 hts (ng_S tw_357 tw_358 tw_8 tw_359) rfl rfl rfl (by decide +kernel) ⟨Nat.le_of_ble_eq_true rfl, Nat.le_of_ble_eq_true rfl⟩) ⟨fun a U g mk q => by obtain ⟨q0, q1, qP, qK, qD⟩ := q; exact ⟨q0, q1, qP, va_K.moved (u := U) (U := U.calling g mk a) (Vm.Alike.refl U.vm) qK, qD⟩, fun U hU hW => ⟨rfl, by rw [hU], by rw [hU]; exact hPc, va_K.moved hW.alike hK, cr_D1⟩⟩ rfl rfl hl.1 rfl (lv_room (Nat.le_of_ble_eq_true rfl)) nd_Board_clear_5 ⟨Nat.zero_le _, Nat.zero_le _⟩) hS (fun q _ h => hFc q h) hFc (fun u t H1 locs ht hvm hw hB hz1 hk1 hS => ?_)
  obtain ⟨hP1, hK1, hD1⟩ := hB
  rw [ht] at hP1
  subst hw
  obtain ⟨hP, hD⟩ := cr_join1 hP hD h_1 hk1 hP1
  generalize H1 = H at hP hS ⊢
  have hP : va_P (dC, dI) vwCl (cw_Plan cI cZ cO apl pl ++ cw_Board cI cZ cO abd apl (cr_fill bd 1 11 (0 : Int32))) H := hP
  have hD : va_D A (cw_Plan cI cZ cO apl pl ++ cw_Board cI cZ cO abd apl (cr_fill bd 1 11 (0 : Int32))) := hD
  have hR_2 : cr_RBoard (cr_fill bd 1 11 (0 : Int32)) := ⟨cr_rg_fill hR_bd.1 (fun e => absurd e (by decide)), cr_rg_fill hR_bd.2 (fun e => absurd e (by decide))⟩
  obtain ⟨bdq_3, hbdq_3⟩ : ∃ z, (cr_fill bd 1 11 (0 : Int32)) = z := ⟨_, rfl⟩
  rw [hbdq_3] at hP hD hR_2
  try rw [hbdq_3] at hM
  refine lv_aload_n hx hb nd_Board_clear_8 rfl (lv_at hl 0 rfl) ?_
  refine va_get (D := (dC, dI)) (ci := 1) (v := .ref (abd 2)) (C := "CeilingRows$Board") (T := nf_Board) (N := 7) hx hb hts nin_Board hown hK hP 17 rfl rfl 2 (by decide) (hts _ tw_71) (fun _ h9 => h9) rfl nd_Board_clear_9 ?_
  refine lv_iconst (v := 0) hx hb nd_Board_clear_12 (by decide) ?_
  have h_4 : (cw_Plan cI cZ cO apl pl ++ cw_Board cI cZ cO abd apl bdq_3)[19]? = some (abd 2, (.inl (cI, 11, .inl (bdq_3 2)) : va_E)) := rfl
  have hPc := cr_P1 hP h_4
  have hFc := cr_F1 hD hS hA h_4
  refine va_callv (va_runS (As := [.ref (abd 2), .int (0 : Int32)]) (rest := []) ⟨hx, hb, hml, hown, hts⟩ (ct_fill l dC dI cI cZ cO (abd 2) H.size 11 (bdq_3 2) (0 : Int32) (by decide)) (va_cwS 2 hts (ng_S tw_357 tw_358 tw_8 tw_359) rfl rfl rfl (by decide +kernel) ⟨Nat.le_of_ble_eq_true rfl, Nat.le_of_ble_eq_true rfl⟩) ⟨fun a U g mk q => by obtain ⟨q0, q1, qP, qK, qD⟩ := q; exact ⟨q0, q1, qP, va_K.moved (u := U) (U := U.calling g mk a) (Vm.Alike.refl U.vm) qK, qD⟩, fun U hU hW => ⟨rfl, by rw [hU], by rw [hU]; exact hPc, va_K.moved hW.alike hK, cr_D1⟩⟩ rfl rfl hl.1 rfl (lv_room (Nat.le_of_ble_eq_true rfl)) nd_Board_clear_13 ⟨Nat.zero_le _, Nat.zero_le _⟩) hS (fun q _ h => hFc q h) hFc (fun u t H1 locs ht hvm hw hB hz1 hk1 hS => ?_)
  obtain ⟨hP1, hK1, hD1⟩ := hB
  rw [ht] at hP1
  subst hw
  obtain ⟨hP, hD⟩ := cr_join1 hP hD h_4 hk1 hP1
  generalize H1 = H at hP hS ⊢
  have hP : va_P (dC, dI) vwCl (cw_Plan cI cZ cO apl pl ++ cw_Board cI cZ cO abd apl (cr_fill bdq_3 2 11 (0 : Int32))) H := hP
  have hD : va_D A (cw_Plan cI cZ cO apl pl ++ cw_Board cI cZ cO abd apl (cr_fill bdq_3 2 11 (0 : Int32))) := hD
  have hR_5 : cr_RBoard (cr_fill bdq_3 2 11 (0 : Int32)) := ⟨cr_rg_fill hR_2.1 (fun e => absurd e (by decide)), cr_rg_fill hR_2.2 (fun e => absurd e (by decide))⟩
  obtain ⟨bdq_6, hbdq_6⟩ : ∃ z, (cr_fill bdq_3 2 11 (0 : Int32)) = z := ⟨_, rfl⟩
  rw [hbdq_6] at hP hD hR_5
  try rw [hbdq_6] at hM
  refine lv_aload_n hx hb nd_Board_clear_16 rfl (lv_at hl 0 rfl) ?_
  refine lv_iconst (v := 0) hx hb nd_Board_clear_17 (by decide) ?_
  refine va_put (D := (dC, dI)) (ci := 1) (v := .int (0 : Int32)) (ty := .int) (C := "CeilingRows$Board") (T := nf_Board) (N := 7) hx hb hts nin_Board nt_Board nto_Board nno_Board hown hK hP hD hS 17 rfl rfl 3 (by decide) (hts _ tw_72) (fun _ h9 => h9) rfl (by decide +kernel) rfl rfl (Nat.le_of_ble_eq_true rfl) nd_Board_clear_18 (fun H locs hP hD hS => ?_)
  have hP : va_P (dC, dI) vwCl (cw_Plan cI cZ cO apl pl ++ cw_Board cI cZ cO abd apl (cr_up bdq_6 0 0 (0 : Int32))) H := hP
  have hD : va_D A (cw_Plan cI cZ cO apl pl ++ cw_Board cI cZ cO abd apl (cr_up bdq_6 0 0 (0 : Int32))) := hD
  have hR_7 : cr_RBoard (cr_up bdq_6 0 0 (0 : Int32)) := ⟨cr_rg_up hR_5.1 (fun e => absurd e (by decide)), cr_rg_up hR_5.2 (fun e => absurd e (by decide))⟩
  obtain ⟨bdq_8, hbdq_8⟩ : ∃ z, (cr_up bdq_6 0 0 (0 : Int32)) = z := ⟨_, rfl⟩
  rw [hbdq_8] at hP hD hR_7
  try rw [hbdq_8] at hM
  refine lv_aload_n hx hb nd_Board_clear_21 rfl (lv_at hl 0 rfl) ?_
  refine va_get (D := (dC, dI)) (ci := 1) (v := .ref (abd 3)) (C := "CeilingRows$Board") (T := nf_Board) (N := 7) hx hb hts nin_Board hown hK hP 17 rfl rfl 4 (by decide) (hts _ tw_73) (fun _ h9 => h9) rfl nd_Board_clear_22 ?_
  refine lv_iconst (v := 0) hx hb nd_Board_clear_25 (by decide) ?_
  have h_9 : (cw_Plan cI cZ cO apl pl ++ cw_Board cI cZ cO abd apl bdq_8)[20]? = some (abd 3, (.inl (cI, 11, .inl (bdq_8 3)) : va_E)) := rfl
  have hPc := cr_P1 hP h_9
  have hFc := cr_F1 hD hS hA h_9
  refine va_callv (va_runS (As := [.ref (abd 3), .int (0 : Int32)]) (rest := []) ⟨hx, hb, hml, hown, hts⟩ (ct_fill l dC dI cI cZ cO (abd 3) H.size 11 (bdq_8 3) (0 : Int32) (by decide)) (va_cwS 2 hts (ng_S tw_357 tw_358 tw_8 tw_359) rfl rfl rfl (by decide +kernel) ⟨Nat.le_of_ble_eq_true rfl, Nat.le_of_ble_eq_true rfl⟩) ⟨fun a U g mk q => by obtain ⟨q0, q1, qP, qK, qD⟩ := q; exact ⟨q0, q1, qP, va_K.moved (u := U) (U := U.calling g mk a) (Vm.Alike.refl U.vm) qK, qD⟩, fun U hU hW => ⟨rfl, by rw [hU], by rw [hU]; exact hPc, va_K.moved hW.alike hK, cr_D1⟩⟩ rfl rfl hl.1 rfl (lv_room (Nat.le_of_ble_eq_true rfl)) nd_Board_clear_26 ⟨Nat.zero_le _, Nat.zero_le _⟩) hS (fun q _ h => hFc q h) hFc (fun u t H1 locs ht hvm hw hB hz1 hk1 hS => ?_)
  obtain ⟨hP1, hK1, hD1⟩ := hB
  rw [ht] at hP1
  subst hw
  obtain ⟨hP, hD⟩ := cr_join1 hP hD h_9 hk1 hP1
  generalize H1 = H at hP hS ⊢
  have hP : va_P (dC, dI) vwCl (cw_Plan cI cZ cO apl pl ++ cw_Board cI cZ cO abd apl (cr_fill bdq_8 3 11 (0 : Int32))) H := hP
  have hD : va_D A (cw_Plan cI cZ cO apl pl ++ cw_Board cI cZ cO abd apl (cr_fill bdq_8 3 11 (0 : Int32))) := hD
  have hR_10 : cr_RBoard (cr_fill bdq_8 3 11 (0 : Int32)) := ⟨cr_rg_fill hR_7.1 (fun _ => by omega), cr_rg_fill hR_7.2 (fun e => absurd e (by decide))⟩
  obtain ⟨bdq_11, hbdq_11⟩ : ∃ z, (cr_fill bdq_8 3 11 (0 : Int32)) = z := ⟨_, rfl⟩
  rw [hbdq_11] at hP hD hR_10
  try rw [hbdq_11] at hM
  refine lv_aload_n hx hb nd_Board_clear_29 rfl (lv_at hl 0 rfl) ?_
  refine va_get (D := (dC, dI)) (ci := 1) (v := .ref (abd 4)) (C := "CeilingRows$Board") (T := nf_Board) (N := 7) hx hb hts nin_Board hown hK hP 17 rfl rfl 5 (by decide) (hts _ tw_75) (fun _ h9 => h9) rfl nd_Board_clear_30 ?_
  refine lv_iconst (v := 0) hx hb nd_Board_clear_33 (by decide) ?_
  have h_12 : (cw_Plan cI cZ cO apl pl ++ cw_Board cI cZ cO abd apl bdq_11)[21]? = some (abd 4, (.inl (cI, 9, .inl (bdq_11 4)) : va_E)) := rfl
  have hPc := cr_P1 hP h_12
  have hFc := cr_F1 hD hS hA h_12
  refine va_callv (va_runS (As := [.ref (abd 4), .int (0 : Int32)]) (rest := []) ⟨hx, hb, hml, hown, hts⟩ (ct_fill l dC dI cI cZ cO (abd 4) H.size 9 (bdq_11 4) (0 : Int32) (by decide)) (va_cwS 2 hts (ng_S tw_357 tw_358 tw_8 tw_359) rfl rfl rfl (by decide +kernel) ⟨Nat.le_of_ble_eq_true rfl, Nat.le_of_ble_eq_true rfl⟩) ⟨fun a U g mk q => by obtain ⟨q0, q1, qP, qK, qD⟩ := q; exact ⟨q0, q1, qP, va_K.moved (u := U) (U := U.calling g mk a) (Vm.Alike.refl U.vm) qK, qD⟩, fun U hU hW => ⟨rfl, by rw [hU], by rw [hU]; exact hPc, va_K.moved hW.alike hK, cr_D1⟩⟩ rfl rfl hl.1 rfl (lv_room (Nat.le_of_ble_eq_true rfl)) nd_Board_clear_34 ⟨Nat.zero_le _, Nat.zero_le _⟩) hS (fun q _ h => hFc q h) hFc (fun u t H1 locs ht hvm hw hB hz1 hk1 hS => ?_)
  obtain ⟨hP1, hK1, hD1⟩ := hB
  rw [ht] at hP1
  subst hw
  obtain ⟨hP, hD⟩ := cr_join1 hP hD h_12 hk1 hP1
  generalize H1 = H at hP hS ⊢
  have hP : va_P (dC, dI) vwCl (cw_Plan cI cZ cO apl pl ++ cw_Board cI cZ cO abd apl (cr_fill bdq_11 4 9 (0 : Int32))) H := hP
  have hD : va_D A (cw_Plan cI cZ cO apl pl ++ cw_Board cI cZ cO abd apl (cr_fill bdq_11 4 9 (0 : Int32))) := hD
  have hR_13 : cr_RBoard (cr_fill bdq_11 4 9 (0 : Int32)) := ⟨cr_rg_fill hR_10.1 (fun e => absurd e (by decide)), cr_rg_fill hR_10.2 (fun e => absurd e (by decide))⟩
  obtain ⟨bdq_14, hbdq_14⟩ : ∃ z, (cr_fill bdq_11 4 9 (0 : Int32)) = z := ⟨_, rfl⟩
  rw [hbdq_14] at hP hD hR_13
  try rw [hbdq_14] at hM
  refine lv_aload_n hx hb nd_Board_clear_37 rfl (lv_at hl 0 rfl) ?_
  refine va_get (D := (dC, dI)) (ci := 1) (v := .ref (abd 5)) (C := "CeilingRows$Board") (T := nf_Board) (N := 7) hx hb hts nin_Board hown hK hP 17 rfl rfl 6 (by decide) (hts _ tw_78) (fun _ h9 => h9) rfl nd_Board_clear_38 ?_
  refine lv_iconst (v := 0) hx hb nd_Board_clear_41 (by decide) ?_
  have h_15 : (cw_Plan cI cZ cO apl pl ++ cw_Board cI cZ cO abd apl bdq_14)[22]? = some (abd 5, (.inl (cI, 9, .inl (bdq_14 5)) : va_E)) := rfl
  have hPc := cr_P1 hP h_15
  have hFc := cr_F1 hD hS hA h_15
  refine va_callv (va_runS (As := [.ref (abd 5), .int (0 : Int32)]) (rest := []) ⟨hx, hb, hml, hown, hts⟩ (ct_fill l dC dI cI cZ cO (abd 5) H.size 9 (bdq_14 5) (0 : Int32) (by decide)) (va_cwS 2 hts (ng_S tw_357 tw_358 tw_8 tw_359) rfl rfl rfl (by decide +kernel) ⟨Nat.le_of_ble_eq_true rfl, Nat.le_of_ble_eq_true rfl⟩) ⟨fun a U g mk q => by obtain ⟨q0, q1, qP, qK, qD⟩ := q; exact ⟨q0, q1, qP, va_K.moved (u := U) (U := U.calling g mk a) (Vm.Alike.refl U.vm) qK, qD⟩, fun U hU hW => ⟨rfl, by rw [hU], by rw [hU]; exact hPc, va_K.moved hW.alike hK, cr_D1⟩⟩ rfl rfl hl.1 rfl (lv_room (Nat.le_of_ble_eq_true rfl)) nd_Board_clear_42 ⟨Nat.zero_le _, Nat.zero_le _⟩) hS (fun q _ h => hFc q h) hFc (fun u t H1 locs ht hvm hw hB hz1 hk1 hS => ?_)
  obtain ⟨hP1, hK1, hD1⟩ := hB
  rw [ht] at hP1
  subst hw
  obtain ⟨hP, hD⟩ := cr_join1 hP hD h_15 hk1 hP1
  generalize H1 = H at hP hS ⊢
  have hP : va_P (dC, dI) vwCl (cw_Plan cI cZ cO apl pl ++ cw_Board cI cZ cO abd apl (cr_fill bdq_14 5 9 (0 : Int32))) H := hP
  have hD : va_D A (cw_Plan cI cZ cO apl pl ++ cw_Board cI cZ cO abd apl (cr_fill bdq_14 5 9 (0 : Int32))) := hD
  have hR_16 : cr_RBoard (cr_fill bdq_14 5 9 (0 : Int32)) := ⟨cr_rg_fill hR_13.1 (fun e => absurd e (by decide)), cr_rg_fill hR_13.2 (fun _ => by omega)⟩
  obtain ⟨bdq_17, hbdq_17⟩ : ∃ z, (cr_fill bdq_14 5 9 (0 : Int32)) = z := ⟨_, rfl⟩
  rw [hbdq_17] at hP hD hR_16
  try rw [hbdq_17] at hM
  exact W.vret hx hb hr (fun t ht hW => ⟨⟨bdq_17, rfl, ⟨by rw [hT, ← hM], hR_16⟩, by rw [ht]; exact hP, va_K.moved hW.alike hK, hD⟩, hS.F ht⟩) hS.2.2 nd_Board_clear_45

theorem nd_Board_allSleepOn_0 : decode prog_2_method_3_code 0 = .ok (.iconst 1, 1) := by decide +kernel
theorem nd_Board_allSleepOn_1 : decode prog_2_method_3_code 1 = .ok (.istore_n 2, 1) := by decide +kernel
theorem nd_Board_allSleepOn_2 : decode prog_2_method_3_code 2 = .ok (.iload_n 2, 1) := by decide +kernel
theorem nd_Board_allSleepOn_3 : decode prog_2_method_3_code 3 = .ok (.aload_n 0, 1) := by decide +kernel
theorem nd_Board_allSleepOn_4 : decode prog_2_method_3_code 4 = .ok (.getfield 27, 3) := by decide +kernel
theorem nd_Board_allSleepOn_7 : decode prog_2_method_3_code 7 = .ok (.getfield 41, 3) := by decide +kernel
theorem nd_Board_allSleepOn_10 : decode prog_2_method_3_code 10 = .ok (.if_icmp .gt (33), 3) := by decide +kernel
theorem nd_Board_allSleepOn_13 : decode prog_2_method_3_code 13 = .ok (.aload_n 0, 1) := by decide +kernel
theorem nd_Board_allSleepOn_14 : decode prog_2_method_3_code 14 = .ok (.getfield 27, 3) := by decide +kernel
theorem nd_Board_allSleepOn_17 : decode prog_2_method_3_code 17 = .ok (.getfield 46, 3) := by decide +kernel
theorem nd_Board_allSleepOn_20 : decode prog_2_method_3_code 20 = .ok (.iload_n 2, 1) := by decide +kernel
theorem nd_Board_allSleepOn_21 : decode prog_2_method_3_code 21 = .ok (.iaload, 1) := by decide +kernel
theorem nd_Board_allSleepOn_22 : decode prog_2_method_3_code 22 = .ok (.iload_n 1, 1) := by decide +kernel
theorem nd_Board_allSleepOn_23 : decode prog_2_method_3_code 23 = .ok (.if_icmp .ne (14), 3) := by decide +kernel
theorem nd_Board_allSleepOn_26 : decode prog_2_method_3_code 26 = .ok (.aload_n 0, 1) := by decide +kernel
theorem nd_Board_allSleepOn_27 : decode prog_2_method_3_code 27 = .ok (.getfield 9, 3) := by decide +kernel
theorem nd_Board_allSleepOn_30 : decode prog_2_method_3_code 30 = .ok (.iload_n 2, 1) := by decide +kernel
theorem nd_Board_allSleepOn_31 : decode prog_2_method_3_code 31 = .ok (.iaload, 1) := by decide +kernel
theorem nd_Board_allSleepOn_32 : decode prog_2_method_3_code 32 = .ok (.ifCond .eq (5), 3) := by decide +kernel
theorem nd_Board_allSleepOn_35 : decode prog_2_method_3_code 35 = .ok (.iconst 0, 1) := by decide +kernel
theorem nd_Board_allSleepOn_36 : decode prog_2_method_3_code 36 = .ok (.ireturn, 1) := by decide +kernel
theorem nd_Board_allSleepOn_37 : decode prog_2_method_3_code 37 = .ok (.iinc 2 1, 3) := by decide +kernel
theorem nd_Board_allSleepOn_40 : decode prog_2_method_3_code 40 = .ok (.goto (-38), 3) := by decide +kernel
theorem nd_Board_allSleepOn_43 : decode prog_2_method_3_code 43 = .ok (.iconst 1, 1) := by decide +kernel
theorem nd_Board_allSleepOn_44 : decode prog_2_method_3_code 44 = .ok (.ireturn, 1) := by decide +kernel
def lo_Board_allSleepOn_2 (pl : cr_S) (bd : cr_S) (x1 : Int32) : Nat → Int32 → Int32
  | 0, _ => 0
  | n_2 + 1, v2_2 =>
    (if (pl 0 0) < v2_2 then (1 : Int32) else (if (pl 2 v2_2.toNatClampNeg) = x1 then (if (bd 1 v2_2.toNatClampNeg) = 0 then (lo_Board_allSleepOn_2 pl bd x1 n_2 (v2_2 + (1 : Int32))) else (0 : Int32)) else (lo_Board_allSleepOn_2 pl bd x1 n_2 (v2_2 + (1 : Int32)))))
def md_Board_allSleepOn (pl : cr_S) (bd : cr_S) (x1 : Int32) : Int32 :=
  (lo_Board_allSleepOn_2 pl bd x1 11 (1 : Int32))
abbrev pq_Board_allSleepOn (dC : Nat → ClassId) (dI : Nat → Nat → Nat) (cI cZ cO : ClassId) (apl abd : Nat → Nat) (pl : cr_S) (bd : cr_S) (x1 : Int32) (A : Nat → Prop) : Array Value → State → Outcome → State → Prop :=
  va_Qi (fun (r : Int32) (_ : Unit) => r = md_Board_allSleepOn pl bd x1) (fun (_ : Unit) t => va_P (dC, dI) vwCl (cw_Plan cI cZ cO apl pl ++ cw_Board cI cZ cO abd apl bd) t.heap ∧ va_K (dC, dI) vwCl [(cI, .int), (cZ, .boolean), (cO, .array .int)] t ∧ va_D A (cw_Plan cI cZ cO apl pl ++ cw_Board cI cZ cO abd apl bd)) A
set_option maxHeartbeats 4000000 in
set_option maxRecDepth 100000 in
theorem ct_Board_allSleepOn (l : Launch) (dC : Nat → ClassId) (dI : Nat → Nat → Nat) (cI cZ cO : ClassId) (apl abd : Nat → Nat) (sz : Nat) (pl : cr_S) (bd : cr_S) (x1 : Int32) (hR_bd : cr_RBoard bd) (hR_pl : cr_RPlan pl) : Met l ny_Board_allSleepOn nw_Board_allSleepOn ({ frames := 0, cells := 0, slots := 0, locals := 0 } : Room) (va_Pc [.ref (abd 0), .int x1] (fun U => U.heap.size = sz ∧ va_P (dC, dI) vwCl (cw_Plan cI cZ cO apl pl ++ cw_Board cI cZ cO abd apl bd) U.heap ∧ va_K (dC, dI) vwCl [(cI, .int), (cZ, .boolean), (cO, .array .int)] U ∧ va_D (fun _ => True) (cw_Plan cI cZ cO apl pl ++ cw_Board cI cZ cO abd apl bd))) (pq_Board_allSleepOn dC dI cI cZ cO apl abd pl bd x1 (va_A (cw_Plan cI cZ cO apl pl ++ cw_Board cI cZ cO abd apl bd) sz)) 0 0 (va_A (cw_Plan cI cZ cO apl pl ++ cw_Board cI cZ cO abd apl bd) sz) := by
  refine Met.ofW (cc := prog_2_method_3_code) (maxL := 3) (ret := (some .boolean)) (by decide) rfl ?_
  intro p e s m args below meth c s₁ B hml hv
  obtain ⟨rfl, hsz, hP, hK, hD0⟩ := hv
  have hx := B.exec
  have hb := B.bytes
  have hr := B.returns
  have hts0 := atoms_spec (ws := nw_Board_allSleepOn) B.pre
  have hts : ∀ w ∈ ng_tbl, w.before ([.ref (abd 0), .int x1] : List Value).toArray s = true := fun w h => hts0 w (List.mem_cons_of_mem _ h)
  have hown : s.vm.findClass "CeilingRows$Board" = some m.cls := findClass_of_methodNamed B.named
  have hlocks := B.notSynchronized
  subst hsz
  have hD := hD0.self (sz := s.heap.size)
  generalize hAe : va_A (cw_Plan cI cZ cO apl pl ++ cw_Board cI cZ cO abd apl bd) s.heap.size = A at hD ⊢
  have hA : ∀ q : Nat, s.heap.size ≤ q → A q := fun q h => by rw [← hAe]; exact Or.inr h
  have hS : va_S A s.heap s.heap [] := va_S.rf
  have hP : va_P (dC, dI) vwCl (cw_Plan cI cZ cO apl pl ++ cw_Board cI cZ cO abd apl bd) s.heap := hP
  have hl := lv_entry ([.ref (abd 0), .int x1]) (n := 3) (Nat.le_of_ble_eq_true rfl)
  rw [lg_entry_eq]
  generalize (lg_sl ([.ref (abd 0), .int x1]) ++ List.replicate (3 - (lg_sl ([.ref (abd 0), .int x1])).length) Slot.unset).toArray = ls at hl ⊢
  have hl : lv_has ls 3 [(0, .ref (abd 0)), (1, .int x1)] := hl
  have k_0 : (0 : Int32).toInt = 0 := by decide
  have k_1 : (1 : Int32).toInt = 1 := by decide
  obtain ⟨tgt, hT⟩ : ∃ z, md_Board_allSleepOn pl bd x1 = z := ⟨_, rfl⟩
  have hM := hT
  unfold md_Board_allSleepOn at hM
  refine lv_iconst (v := 1) hx hb nd_Board_allSleepOn_0 (by decide) ?_
  refine lv_istore_n (lv' := [(2, .int (1 : Int32)), (0, .ref (abd 0)), (1, .int x1)]) hx hb nd_Board_allSleepOn_1 rfl hl (by decide) rfl (fun ls hl => ?_)
  have hl := lv_sub hl [1, 2, 0] rfl
  have lp_2 : ∀ (n_2 : Nat) (v2_2 : Int32), (1 ≤ v2_2.toInt ∧ v2_2.toInt ≤ 11) → (11 < v2_2.toInt + (n_2 : Int)) → lo_Board_allSleepOn_2 pl bd x1 n_2 v2_2 = tgt → ∀ (H : Heap) (locs : List Loc), va_P (dC, dI) vwCl (cw_Plan cI cZ cO apl pl ++ cw_Board cI cZ cO abd apl bd) H → va_D A (cw_Plan cI cZ cO apl pl ++ cw_Board cI cZ cO abd apl bd) → va_S A s.heap H locs → ∀ ls : Array Slot, lv_has ls 3 [(0, .ref (abd 0)), (1, .int x1), (2, .int v2_2)] → W p l e (headSpec nw_Board_allSleepOn ({ frames := 0, cells := 0, slots := 0, locals := 0 } : Room)).room s m ([.ref (abd 0), .int x1] : List Value).toArray below meth c H locs 0 0 (MQ below (pq_Board_allSleepOn dC dI cI cZ cO apl abd pl bd x1 A) ([.ref (abd 0), .int x1] : List Value).toArray s 0 0 A) (F0 m 2 ls []) := by
    intro n_2
    induction n_2 with
    | zero =>
      intro v2_2 hv2_2 hn_2
      exfalso; omega
    | succ n_2 ih_2 =>
      intro v2_2 hv2_2 hn_2 hM H locs hP hD hS ls hl
      have hn_2 : 11 < v2_2.toInt + ((n_2 : Int) + 1) := by omega
      rw [lo_Board_allSleepOn_2] at hM
      refine lv_iload_n hx hb nd_Board_allSleepOn_2 rfl (lv_at hl 2 rfl) ?_
      refine lv_aload_n hx hb nd_Board_allSleepOn_3 rfl (lv_at hl 0 rfl) ?_
      refine va_get (D := (dC, dI)) (ci := 1) (v := .ref (apl 0)) (C := "CeilingRows$Board") (T := nf_Board) (N := 7) hx hb hts nin_Board hown hK hP 17 rfl rfl 0 (by decide) (hts _ tw_67) (fun _ h9 => h9) rfl nd_Board_allSleepOn_4 ?_
      refine va_get (D := (dC, dI)) (ci := 0) (v := .int (pl 0 0)) (C := "CeilingRows$Plan") (T := nf_Plan) (N := 7) hx hb hts nin_Plan hown hK hP 0 rfl rfl 0 (by decide) (hts _ tw_29) (fun _ h9 => h9) rfl nd_Board_allSleepOn_7 ?_
      have f_1 := cr_rfo hR_pl.1
      refine lv_icmp_gt (tgt := 43) hx hb nd_Board_allSleepOn_10 (by decide) (fun c_2 => ?_) (fun c_2 => ?_)
      · have c_2t := cr_lt c_2
        rw [if_pos c_2] at hM
        refine lv_iconst (v := 1) hx hb nd_Board_allSleepOn_43 (by decide) ?_
        exact W.zret (v := (1 : Int32)) (ty := .boolean) hx hb hr (by decide) (fun t ht hW => ⟨⟨(1 : Int32), (), rfl, by rw [hT, ← hM], by rw [ht]; exact hP, va_K.moved hW.alike hK, hD⟩, hS.F ht⟩) hS.2.2 nd_Board_allSleepOn_44
      · have c_2t := cr_nlt c_2
        rw [if_neg c_2] at hM
        refine lv_aload_n hx hb nd_Board_allSleepOn_13 rfl (lv_at hl 0 rfl) ?_
        refine va_get (D := (dC, dI)) (ci := 1) (v := .ref (apl 0)) (C := "CeilingRows$Board") (T := nf_Board) (N := 7) hx hb hts nin_Board hown hK hP 17 rfl rfl 0 (by decide) (hts _ tw_67) (fun _ h9 => h9) rfl nd_Board_allSleepOn_14 ?_
        refine va_get (D := (dC, dI)) (ci := 0) (v := .ref (apl 2)) (C := "CeilingRows$Plan") (T := nf_Plan) (N := 7) hx hb hts nin_Plan hown hK hP 0 rfl rfl 3 (by decide) (hts _ tw_37) (fun _ h9 => h9) rfl nd_Board_allSleepOn_17 ?_
        refine lv_iload_n hx hb nd_Board_allSleepOn_20 rfl (lv_at hl 2 rfl) ?_
        have b_3 : vp_in v2_2 11 := vp_in_iff.mpr (by omega)
        refine va_iald hx hb hK hP 2 0 rfl rfl b_3 nd_Board_allSleepOn_21 ?_
        have f_4 := cr_rgo hR_pl.2.2 (v2_2.toNatClampNeg)
        refine lv_iload_n hx hb nd_Board_allSleepOn_22 rfl (lv_at hl 1 rfl) ?_
        refine lv_icmp_ne (tgt := 37) hx hb nd_Board_allSleepOn_23 (by decide) (fun c_5 => ?_) (fun c_5 => ?_)
        · have c_5t := cr_ne c_5
          rw [if_neg c_5] at hM
          have e_6 : (v2_2 + (1 : Int32)).toInt = v2_2.toInt + (1 : Int32).toInt := cr_add (by omega)
          refine lv_iinc (v := (v2_2 + (1 : Int32))) (lv' := [(2, .int (v2_2 + (1 : Int32))), (0, .ref (abd 0)), (1, .int x1)]) hx hb nd_Board_allSleepOn_37 hl (k := 2) rfl (by rfl) (by decide) rfl (fun ls hl => ?_)
          refine lv_goto (tgt := 2) hx hb nd_Board_allSleepOn_40 (by decide) ?_
          exact ih_2 (v2_2 + (1 : Int32)) (by omega) (by omega) hM _ _ hP hD hS _ (lv_sub hl [1, 2, 0] rfl)
        · have c_5t := cr_eq c_5
          rw [if_pos c_5] at hM
          refine lv_aload_n hx hb nd_Board_allSleepOn_26 rfl (lv_at hl 0 rfl) ?_
          refine va_get (D := (dC, dI)) (ci := 1) (v := .ref (abd 1)) (C := "CeilingRows$Board") (T := nf_Board) (N := 7) hx hb hts nin_Board hown hK hP 17 rfl rfl 1 (by decide) (hts _ tw_68) (fun _ h9 => h9) rfl nd_Board_allSleepOn_27 ?_
          refine lv_iload_n hx hb nd_Board_allSleepOn_30 rfl (lv_at hl 2 rfl) ?_
          have b_7 : vp_in v2_2 11 := vp_in_iff.mpr (by omega)
          refine va_iald hx hb hK hP 18 0 rfl rfl b_7 nd_Board_allSleepOn_31 ?_
          refine lv_if_eq (tgt := 37) hx hb nd_Board_allSleepOn_32 (by decide) (fun c_8 => ?_) (fun c_8 => ?_)
          · have c_8t := cr_eq c_8
            rw [if_pos c_8] at hM
            have e_9 : (v2_2 + (1 : Int32)).toInt = v2_2.toInt + (1 : Int32).toInt := cr_add (by omega)
            refine lv_iinc (v := (v2_2 + (1 : Int32))) (lv' := [(2, .int (v2_2 + (1 : Int32))), (0, .ref (abd 0)), (1, .int x1)]) hx hb nd_Board_allSleepOn_37 hl (k := 2) rfl (by rfl) (by decide) rfl (fun ls hl => ?_)
            refine lv_goto (tgt := 2) hx hb nd_Board_allSleepOn_40 (by decide) ?_
            exact ih_2 (v2_2 + (1 : Int32)) (by omega) (by omega) hM _ _ hP hD hS _ (lv_sub hl [1, 2, 0] rfl)
          · have c_8t := cr_ne c_8
            rw [if_neg c_8] at hM
            refine lv_iconst (v := 0) hx hb nd_Board_allSleepOn_35 (by decide) ?_
            exact W.zret (v := (0 : Int32)) (ty := .boolean) hx hb hr (by decide) (fun t ht hW => ⟨⟨(0 : Int32), (), rfl, by rw [hT, ← hM], by rw [ht]; exact hP, va_K.moved hW.alike hK, hD⟩, hS.F ht⟩) hS.2.2 nd_Board_allSleepOn_36
  exact lp_2 11 (1 : Int32) (by omega) (by omega) hM _ _ hP hD hS _ hl

theorem nd_Board_makeReady_0 : decode prog_2_method_4_code 0 = .ok (.aload_n 0, 1) := by decide +kernel
theorem nd_Board_makeReady_1 : decode prog_2_method_4_code 1 = .ok (.getfield 9, 3) := by decide +kernel
theorem nd_Board_makeReady_4 : decode prog_2_method_4_code 4 = .ok (.iload_n 1, 1) := by decide +kernel
theorem nd_Board_makeReady_5 : decode prog_2_method_4_code 5 = .ok (.iconst 1, 1) := by decide +kernel
theorem nd_Board_makeReady_6 : decode prog_2_method_4_code 6 = .ok (.iastore, 1) := by decide +kernel
theorem nd_Board_makeReady_7 : decode prog_2_method_4_code 7 = .ok (.aload_n 0, 1) := by decide +kernel
theorem nd_Board_makeReady_8 : decode prog_2_method_4_code 8 = .ok (.dup, 1) := by decide +kernel
theorem nd_Board_makeReady_9 : decode prog_2_method_4_code 9 = .ok (.getfield 37, 3) := by decide +kernel
theorem nd_Board_makeReady_12 : decode prog_2_method_4_code 12 = .ok (.iconst 1, 1) := by decide +kernel
theorem nd_Board_makeReady_13 : decode prog_2_method_4_code 13 = .ok (.iadd, 1) := by decide +kernel
theorem nd_Board_makeReady_14 : decode prog_2_method_4_code 14 = .ok (.putfield 37, 3) := by decide +kernel
theorem nd_Board_makeReady_17 : decode prog_2_method_4_code 17 = .ok (.aload_n 0, 1) := by decide +kernel
theorem nd_Board_makeReady_18 : decode prog_2_method_4_code 18 = .ok (.getfield 15, 3) := by decide +kernel
theorem nd_Board_makeReady_21 : decode prog_2_method_4_code 21 = .ok (.iload_n 1, 1) := by decide +kernel
theorem nd_Board_makeReady_22 : decode prog_2_method_4_code 22 = .ok (.aload_n 0, 1) := by decide +kernel
theorem nd_Board_makeReady_23 : decode prog_2_method_4_code 23 = .ok (.getfield 37, 3) := by decide +kernel
theorem nd_Board_makeReady_26 : decode prog_2_method_4_code 26 = .ok (.iastore, 1) := by decide +kernel
theorem nd_Board_makeReady_27 : decode prog_2_method_4_code 27 = .ok (.return_, 1) := by decide +kernel
def md_Board_makeReady (pl : cr_S) (bd : cr_S) (x1 : Int32) : cr_S :=
  (cr_up (cr_up (cr_up bd 1 x1.toNatClampNeg (1 : Int32)) 0 0 (((cr_up bd 1 x1.toNatClampNeg (1 : Int32)) 0 0) + (1 : Int32))) 2 x1.toNatClampNeg ((cr_up (cr_up bd 1 x1.toNatClampNeg (1 : Int32)) 0 0 (((cr_up bd 1 x1.toNatClampNeg (1 : Int32)) 0 0) + (1 : Int32))) 0 0))
abbrev pq_Board_makeReady (dC : Nat → ClassId) (dI : Nat → Nat → Nat) (cI cZ cO : ClassId) (apl abd : Nat → Nat) (pl : cr_S) (bd : cr_S) (x1 : Int32) (A : Nat → Prop) : Array Value → State → Outcome → State → Prop :=
  va_Qv (fun (bd' : cr_S) => bd' = md_Board_makeReady pl bd x1 ∧ cr_RBoard bd') (fun (bd' : cr_S) t => va_P (dC, dI) vwCl (cw_Plan cI cZ cO apl pl ++ cw_Board cI cZ cO abd apl bd') t.heap ∧ va_K (dC, dI) vwCl [(cI, .int), (cZ, .boolean), (cO, .array .int)] t ∧ va_D A (cw_Plan cI cZ cO apl pl ++ cw_Board cI cZ cO abd apl bd')) A
set_option maxHeartbeats 4000000 in
set_option maxRecDepth 100000 in
theorem ct_Board_makeReady (l : Launch) (dC : Nat → ClassId) (dI : Nat → Nat → Nat) (cI cZ cO : ClassId) (apl abd : Nat → Nat) (sz : Nat) (pl : cr_S) (bd : cr_S) (x1 : Int32) (hR_bd : cr_RBoard bd) (hR_pl : cr_RPlan pl) (hx1 : 0 ≤ x1.toInt ∧ x1.toInt ≤ 10) : Met l ny_Board_makeReady nw_Board_makeReady ({ frames := 0, cells := 0, slots := 0, locals := 0 } : Room) (va_Pc [.ref (abd 0), .int x1] (fun U => U.heap.size = sz ∧ va_P (dC, dI) vwCl (cw_Plan cI cZ cO apl pl ++ cw_Board cI cZ cO abd apl bd) U.heap ∧ va_K (dC, dI) vwCl [(cI, .int), (cZ, .boolean), (cO, .array .int)] U ∧ va_D (fun _ => True) (cw_Plan cI cZ cO apl pl ++ cw_Board cI cZ cO abd apl bd))) (pq_Board_makeReady dC dI cI cZ cO apl abd pl bd x1 (va_A (cw_Plan cI cZ cO apl pl ++ cw_Board cI cZ cO abd apl bd) sz)) 0 0 (va_A (cw_Plan cI cZ cO apl pl ++ cw_Board cI cZ cO abd apl bd) sz) := by
  refine Met.ofW (cc := prog_2_method_4_code) (maxL := 2) (ret := none) (by decide) rfl ?_
  intro p e s m args below meth c s₁ B hml hv
  obtain ⟨rfl, hsz, hP, hK, hD0⟩ := hv
  have hx := B.exec
  have hb := B.bytes
  have hr := B.returns
  have hts0 := atoms_spec (ws := nw_Board_makeReady) B.pre
  have hts : ∀ w ∈ ng_tbl, w.before ([.ref (abd 0), .int x1] : List Value).toArray s = true := fun w h => hts0 w (List.mem_cons_of_mem _ h)
  have hown : s.vm.findClass "CeilingRows$Board" = some m.cls := findClass_of_methodNamed B.named
  have hlocks := B.notSynchronized
  subst hsz
  have hD := hD0.self (sz := s.heap.size)
  generalize hAe : va_A (cw_Plan cI cZ cO apl pl ++ cw_Board cI cZ cO abd apl bd) s.heap.size = A at hD ⊢
  have hA : ∀ q : Nat, s.heap.size ≤ q → A q := fun q h => by rw [← hAe]; exact Or.inr h
  have hS : va_S A s.heap s.heap [] := va_S.rf
  have hP : va_P (dC, dI) vwCl (cw_Plan cI cZ cO apl pl ++ cw_Board cI cZ cO abd apl bd) s.heap := hP
  have hl := lv_entry ([.ref (abd 0), .int x1]) (n := 2) (Nat.le_of_ble_eq_true rfl)
  rw [lg_entry_eq]
  generalize (lg_sl ([.ref (abd 0), .int x1]) ++ List.replicate (2 - (lg_sl ([.ref (abd 0), .int x1])).length) Slot.unset).toArray = ls at hl ⊢
  have hl : lv_has ls 2 [(0, .ref (abd 0)), (1, .int x1)] := hl
  have k_1 : (1 : Int32).toInt = 1 := by decide
  obtain ⟨tgt, hT⟩ : ∃ z, md_Board_makeReady pl bd x1 = z := ⟨_, rfl⟩
  have hM := hT
  unfold md_Board_makeReady at hM
  refine lv_aload_n hx hb nd_Board_makeReady_0 rfl (lv_at hl 0 rfl) ?_
  refine va_get (D := (dC, dI)) (ci := 1) (v := .ref (abd 1)) (C := "CeilingRows$Board") (T := nf_Board) (N := 7) hx hb hts nin_Board hown hK hP 17 rfl rfl 1 (by decide) (hts _ tw_68) (fun _ h9 => h9) rfl nd_Board_makeReady_1 ?_
  refine lv_iload_n hx hb nd_Board_makeReady_4 rfl (lv_at hl 1 rfl) ?_
  refine lv_iconst (v := 1) hx hb nd_Board_makeReady_5 (by decide) ?_
  have b_1 : vp_in x1 11 := vp_in_iff.mpr (by omega)
  refine va_iast hx hb hK hP hD hS 18 0 rfl rfl b_1 nd_Board_makeReady_6 (fun H locs hP hD hS => ?_)
  have hP : va_P (dC, dI) vwCl (cw_Plan cI cZ cO apl pl ++ cw_Board cI cZ cO abd apl (cr_up bd 1 x1.toNatClampNeg (1 : Int32))) H := hP
  have hD : va_D A (cw_Plan cI cZ cO apl pl ++ cw_Board cI cZ cO abd apl (cr_up bd 1 x1.toNatClampNeg (1 : Int32))) := hD
  have hR_2 : cr_RBoard (cr_up bd 1 x1.toNatClampNeg (1 : Int32)) := ⟨cr_rg_up hR_bd.1 (fun e => absurd e (by decide)), cr_rg_up hR_bd.2 (fun e => absurd e (by decide))⟩
  obtain ⟨bdq_3, hbdq_3⟩ : ∃ z, (cr_up bd 1 x1.toNatClampNeg (1 : Int32)) = z := ⟨_, rfl⟩
  rw [hbdq_3] at hP hD hR_2
  try rw [hbdq_3] at hM
  refine lv_aload_n hx hb nd_Board_makeReady_7 rfl (lv_at hl 0 rfl) ?_
  refine lv_dup hx hb nd_Board_makeReady_8 rfl ?_
  refine va_get (D := (dC, dI)) (ci := 1) (v := .int (bdq_3 0 0)) (C := "CeilingRows$Board") (T := nf_Board) (N := 7) hx hb hts nin_Board hown hK hP 17 rfl rfl 3 (by decide) (hts _ tw_72) (fun _ h9 => h9) rfl nd_Board_makeReady_9 ?_
  refine lv_iconst (v := 1) hx hb nd_Board_makeReady_12 (by decide) ?_
  refine lv_iadd hx hb nd_Board_makeReady_13 ?_
  refine va_put (D := (dC, dI)) (ci := 1) (v := .int ((bdq_3 0 0) + (1 : Int32))) (ty := .int) (C := "CeilingRows$Board") (T := nf_Board) (N := 7) hx hb hts nin_Board nt_Board nto_Board nno_Board hown hK hP hD hS 17 rfl rfl 3 (by decide) (hts _ tw_72) (fun _ h9 => h9) rfl (by decide +kernel) rfl rfl (Nat.le_of_ble_eq_true rfl) nd_Board_makeReady_14 (fun H locs hP hD hS => ?_)
  have hP : va_P (dC, dI) vwCl (cw_Plan cI cZ cO apl pl ++ cw_Board cI cZ cO abd apl (cr_up bdq_3 0 0 ((bdq_3 0 0) + (1 : Int32)))) H := hP
  have hD : va_D A (cw_Plan cI cZ cO apl pl ++ cw_Board cI cZ cO abd apl (cr_up bdq_3 0 0 ((bdq_3 0 0) + (1 : Int32)))) := hD
  have hR_4 : cr_RBoard (cr_up bdq_3 0 0 ((bdq_3 0 0) + (1 : Int32))) := ⟨cr_rg_up hR_2.1 (fun e => absurd e (by decide)), cr_rg_up hR_2.2 (fun e => absurd e (by decide))⟩
  obtain ⟨bdq_5, hbdq_5⟩ : ∃ z, (cr_up bdq_3 0 0 ((bdq_3 0 0) + (1 : Int32))) = z := ⟨_, rfl⟩
  rw [hbdq_5] at hP hD hR_4
  try rw [hbdq_5] at hM
  refine lv_aload_n hx hb nd_Board_makeReady_17 rfl (lv_at hl 0 rfl) ?_
  refine va_get (D := (dC, dI)) (ci := 1) (v := .ref (abd 2)) (C := "CeilingRows$Board") (T := nf_Board) (N := 7) hx hb hts nin_Board hown hK hP 17 rfl rfl 2 (by decide) (hts _ tw_71) (fun _ h9 => h9) rfl nd_Board_makeReady_18 ?_
  refine lv_iload_n hx hb nd_Board_makeReady_21 rfl (lv_at hl 1 rfl) ?_
  refine lv_aload_n hx hb nd_Board_makeReady_22 rfl (lv_at hl 0 rfl) ?_
  refine va_get (D := (dC, dI)) (ci := 1) (v := .int (bdq_5 0 0)) (C := "CeilingRows$Board") (T := nf_Board) (N := 7) hx hb hts nin_Board hown hK hP 17 rfl rfl 3 (by decide) (hts _ tw_72) (fun _ h9 => h9) rfl nd_Board_makeReady_23 ?_
  have b_6 : vp_in x1 11 := vp_in_iff.mpr (by omega)
  refine va_iast hx hb hK hP hD hS 19 0 rfl rfl b_6 nd_Board_makeReady_26 (fun H locs hP hD hS => ?_)
  have hP : va_P (dC, dI) vwCl (cw_Plan cI cZ cO apl pl ++ cw_Board cI cZ cO abd apl (cr_up bdq_5 2 x1.toNatClampNeg (bdq_5 0 0))) H := hP
  have hD : va_D A (cw_Plan cI cZ cO apl pl ++ cw_Board cI cZ cO abd apl (cr_up bdq_5 2 x1.toNatClampNeg (bdq_5 0 0))) := hD
  have hR_7 : cr_RBoard (cr_up bdq_5 2 x1.toNatClampNeg (bdq_5 0 0)) := ⟨cr_rg_up hR_4.1 (fun e => absurd e (by decide)), cr_rg_up hR_4.2 (fun e => absurd e (by decide))⟩
  obtain ⟨bdq_8, hbdq_8⟩ : ∃ z, (cr_up bdq_5 2 x1.toNatClampNeg (bdq_5 0 0)) = z := ⟨_, rfl⟩
  rw [hbdq_8] at hP hD hR_7
  try rw [hbdq_8] at hM
  exact W.vret hx hb hr (fun t ht hW => ⟨⟨bdq_8, rfl, ⟨by rw [hT, ← hM], hR_7⟩, by rw [ht]; exact hP, va_K.moved hW.alike hK, hD⟩, hS.F ht⟩) hS.2.2 nd_Board_makeReady_27

theorem nd_Board_holdsAny_0 : decode prog_2_method_5_code 0 = .ok (.aload_n 0, 1) := by decide +kernel
theorem nd_Board_holdsAny_1 : decode prog_2_method_5_code 1 = .ok (.getfield 18, 3) := by decide +kernel
theorem nd_Board_holdsAny_4 : decode prog_2_method_5_code 4 = .ok (.iload_n 1, 1) := by decide +kernel
theorem nd_Board_holdsAny_5 : decode prog_2_method_5_code 5 = .ok (.iaload, 1) := by decide +kernel
theorem nd_Board_holdsAny_6 : decode prog_2_method_5_code 6 = .ok (.ifCond .eq (7), 3) := by decide +kernel
theorem nd_Board_holdsAny_9 : decode prog_2_method_5_code 9 = .ok (.iconst 1, 1) := by decide +kernel
theorem nd_Board_holdsAny_10 : decode prog_2_method_5_code 10 = .ok (.goto (4), 3) := by decide +kernel
theorem nd_Board_holdsAny_13 : decode prog_2_method_5_code 13 = .ok (.iconst 0, 1) := by decide +kernel
theorem nd_Board_holdsAny_14 : decode prog_2_method_5_code 14 = .ok (.ireturn, 1) := by decide +kernel
def md_Board_holdsAny (pl : cr_S) (bd : cr_S) (x1 : Int32) : Int32 :=
  (if (bd 3 x1.toNatClampNeg) = 0 then (0 : Int32) else (1 : Int32))
abbrev pq_Board_holdsAny (dC : Nat → ClassId) (dI : Nat → Nat → Nat) (cI cZ cO : ClassId) (apl abd : Nat → Nat) (pl : cr_S) (bd : cr_S) (x1 : Int32) (A : Nat → Prop) : Array Value → State → Outcome → State → Prop :=
  va_Qi (fun (r : Int32) (_ : Unit) => r = md_Board_holdsAny pl bd x1) (fun (_ : Unit) t => va_P (dC, dI) vwCl (cw_Plan cI cZ cO apl pl ++ cw_Board cI cZ cO abd apl bd) t.heap ∧ va_K (dC, dI) vwCl [(cI, .int), (cZ, .boolean), (cO, .array .int)] t ∧ va_D A (cw_Plan cI cZ cO apl pl ++ cw_Board cI cZ cO abd apl bd)) A
set_option maxHeartbeats 4000000 in
set_option maxRecDepth 100000 in
theorem ct_Board_holdsAny (l : Launch) (dC : Nat → ClassId) (dI : Nat → Nat → Nat) (cI cZ cO : ClassId) (apl abd : Nat → Nat) (sz : Nat) (pl : cr_S) (bd : cr_S) (x1 : Int32) (hR_bd : cr_RBoard bd) (hR_pl : cr_RPlan pl) (hx1 : 0 ≤ x1.toInt ∧ x1.toInt ≤ 10) : Met l ny_Board_holdsAny nw_Board_holdsAny ({ frames := 0, cells := 0, slots := 0, locals := 0 } : Room) (va_Pc [.ref (abd 0), .int x1] (fun U => U.heap.size = sz ∧ va_P (dC, dI) vwCl (cw_Plan cI cZ cO apl pl ++ cw_Board cI cZ cO abd apl bd) U.heap ∧ va_K (dC, dI) vwCl [(cI, .int), (cZ, .boolean), (cO, .array .int)] U ∧ va_D (fun _ => True) (cw_Plan cI cZ cO apl pl ++ cw_Board cI cZ cO abd apl bd))) (pq_Board_holdsAny dC dI cI cZ cO apl abd pl bd x1 (va_A (cw_Plan cI cZ cO apl pl ++ cw_Board cI cZ cO abd apl bd) sz)) 0 0 (va_A (cw_Plan cI cZ cO apl pl ++ cw_Board cI cZ cO abd apl bd) sz) := by
  refine Met.ofW (cc := prog_2_method_5_code) (maxL := 2) (ret := (some .boolean)) (by decide) rfl ?_
  intro p e s m args below meth c s₁ B hml hv
  obtain ⟨rfl, hsz, hP, hK, hD0⟩ := hv
  have hx := B.exec
  have hb := B.bytes
  have hr := B.returns
  have hts0 := atoms_spec (ws := nw_Board_holdsAny) B.pre
  have hts : ∀ w ∈ ng_tbl, w.before ([.ref (abd 0), .int x1] : List Value).toArray s = true := fun w h => hts0 w (List.mem_cons_of_mem _ h)
  have hown : s.vm.findClass "CeilingRows$Board" = some m.cls := findClass_of_methodNamed B.named
  have hlocks := B.notSynchronized
  subst hsz
  have hD := hD0.self (sz := s.heap.size)
  generalize hAe : va_A (cw_Plan cI cZ cO apl pl ++ cw_Board cI cZ cO abd apl bd) s.heap.size = A at hD ⊢
  have hA : ∀ q : Nat, s.heap.size ≤ q → A q := fun q h => by rw [← hAe]; exact Or.inr h
  have hS : va_S A s.heap s.heap [] := va_S.rf
  have hP : va_P (dC, dI) vwCl (cw_Plan cI cZ cO apl pl ++ cw_Board cI cZ cO abd apl bd) s.heap := hP
  have hl := lv_entry ([.ref (abd 0), .int x1]) (n := 2) (Nat.le_of_ble_eq_true rfl)
  rw [lg_entry_eq]
  generalize (lg_sl ([.ref (abd 0), .int x1]) ++ List.replicate (2 - (lg_sl ([.ref (abd 0), .int x1])).length) Slot.unset).toArray = ls at hl ⊢
  have hl : lv_has ls 2 [(0, .ref (abd 0)), (1, .int x1)] := hl
  have k_0 : (0 : Int32).toInt = 0 := by decide
  have k_1 : (1 : Int32).toInt = 1 := by decide
  obtain ⟨tgt, hT⟩ : ∃ z, md_Board_holdsAny pl bd x1 = z := ⟨_, rfl⟩
  have hM := hT
  unfold md_Board_holdsAny at hM
  refine lv_aload_n hx hb nd_Board_holdsAny_0 rfl (lv_at hl 0 rfl) ?_
  refine va_get (D := (dC, dI)) (ci := 1) (v := .ref (abd 3)) (C := "CeilingRows$Board") (T := nf_Board) (N := 7) hx hb hts nin_Board hown hK hP 17 rfl rfl 4 (by decide) (hts _ tw_73) (fun _ h9 => h9) rfl nd_Board_holdsAny_1 ?_
  refine lv_iload_n hx hb nd_Board_holdsAny_4 rfl (lv_at hl 1 rfl) ?_
  have b_1 : vp_in x1 11 := vp_in_iff.mpr (by omega)
  refine va_iald hx hb hK hP 20 0 rfl rfl b_1 nd_Board_holdsAny_5 ?_
  have f_2 := cr_rgo hR_bd.1 (x1.toNatClampNeg)
  refine lv_if_eq (tgt := 13) hx hb nd_Board_holdsAny_6 (by decide) (fun c_3 => ?_) (fun c_3 => ?_)
  · have c_3t := cr_eq c_3
    rw [if_pos c_3] at hM
    refine lv_iconst (v := 0) hx hb nd_Board_holdsAny_13 (by decide) ?_
    exact W.zret (v := (0 : Int32)) (ty := .boolean) hx hb hr (by decide) (fun t ht hW => ⟨⟨(0 : Int32), (), rfl, by rw [hT, ← hM], by rw [ht]; exact hP, va_K.moved hW.alike hK, hD⟩, hS.F ht⟩) hS.2.2 nd_Board_holdsAny_14
  · have c_3t := cr_ne c_3
    rw [if_neg c_3] at hM
    refine lv_iconst (v := 1) hx hb nd_Board_holdsAny_9 (by decide) ?_
    refine lv_goto (tgt := 14) hx hb nd_Board_holdsAny_10 (by decide) ?_
    exact W.zret (v := (1 : Int32)) (ty := .boolean) hx hb hr (by decide) (fun t ht hW => ⟨⟨(1 : Int32), (), rfl, by rw [hT, ← hM], by rw [ht]; exact hP, va_K.moved hW.alike hK, hD⟩, hS.F ht⟩) hS.2.2 nd_Board_holdsAny_14

theorem nd_Board_rankNow_0 : decode prog_2_method_6_code 0 = .ok (.aload_n 0, 1) := by decide +kernel
theorem nd_Board_rankNow_1 : decode prog_2_method_6_code 1 = .ok (.getfield 27, 3) := by decide +kernel
theorem nd_Board_rankNow_4 : decode prog_2_method_6_code 4 = .ok (.getfield 49, 3) := by decide +kernel
theorem nd_Board_rankNow_7 : decode prog_2_method_6_code 7 = .ok (.iload_n 1, 1) := by decide +kernel
theorem nd_Board_rankNow_8 : decode prog_2_method_6_code 8 = .ok (.iaload, 1) := by decide +kernel
theorem nd_Board_rankNow_9 : decode prog_2_method_6_code 9 = .ok (.istore_n 2, 1) := by decide +kernel
theorem nd_Board_rankNow_10 : decode prog_2_method_6_code 10 = .ok (.iconst 1, 1) := by decide +kernel
theorem nd_Board_rankNow_11 : decode prog_2_method_6_code 11 = .ok (.istore_n 3, 1) := by decide +kernel
theorem nd_Board_rankNow_12 : decode prog_2_method_6_code 12 = .ok (.iload_n 3, 1) := by decide +kernel
theorem nd_Board_rankNow_13 : decode prog_2_method_6_code 13 = .ok (.aload_n 0, 1) := by decide +kernel
theorem nd_Board_rankNow_14 : decode prog_2_method_6_code 14 = .ok (.getfield 27, 3) := by decide +kernel
theorem nd_Board_rankNow_17 : decode prog_2_method_6_code 17 = .ok (.getfield 52, 3) := by decide +kernel
theorem nd_Board_rankNow_20 : decode prog_2_method_6_code 20 = .ok (.if_icmp .gt (33), 3) := by decide +kernel
theorem nd_Board_rankNow_23 : decode prog_2_method_6_code 23 = .ok (.aload_n 0, 1) := by decide +kernel
theorem nd_Board_rankNow_24 : decode prog_2_method_6_code 24 = .ok (.getfield 21, 3) := by decide +kernel
theorem nd_Board_rankNow_27 : decode prog_2_method_6_code 27 = .ok (.iload_n 3, 1) := by decide +kernel
theorem nd_Board_rankNow_28 : decode prog_2_method_6_code 28 = .ok (.iaload, 1) := by decide +kernel
theorem nd_Board_rankNow_29 : decode prog_2_method_6_code 29 = .ok (.iload_n 1, 1) := by decide +kernel
theorem nd_Board_rankNow_30 : decode prog_2_method_6_code 30 = .ok (.if_icmp .ne (17), 3) := by decide +kernel
theorem nd_Board_rankNow_33 : decode prog_2_method_6_code 33 = .ok (.iload_n 2, 1) := by decide +kernel
theorem nd_Board_rankNow_34 : decode prog_2_method_6_code 34 = .ok (.aload_n 0, 1) := by decide +kernel
theorem nd_Board_rankNow_35 : decode prog_2_method_6_code 35 = .ok (.getfield 27, 3) := by decide +kernel
theorem nd_Board_rankNow_38 : decode prog_2_method_6_code 38 = .ok (.getfield 55, 3) := by decide +kernel
theorem nd_Board_rankNow_41 : decode prog_2_method_6_code 41 = .ok (.iload_n 3, 1) := by decide +kernel
theorem nd_Board_rankNow_42 : decode prog_2_method_6_code 42 = .ok (.iaload, 1) := by decide +kernel
theorem nd_Board_rankNow_43 : decode prog_2_method_6_code 43 = .ok (.invokestatic 58, 3) := by decide +kernel
theorem nd_Board_rankNow_46 : decode prog_2_method_6_code 46 = .ok (.istore_n 2, 1) := by decide +kernel
theorem nd_Board_rankNow_47 : decode prog_2_method_6_code 47 = .ok (.iinc 3 1, 3) := by decide +kernel
theorem nd_Board_rankNow_50 : decode prog_2_method_6_code 50 = .ok (.goto (-38), 3) := by decide +kernel
theorem nd_Board_rankNow_53 : decode prog_2_method_6_code 53 = .ok (.iload_n 2, 1) := by decide +kernel
theorem nd_Board_rankNow_54 : decode prog_2_method_6_code 54 = .ok (.ireturn, 1) := by decide +kernel
def lo_Board_rankNow_12 (pl : cr_S) (bd : cr_S) (x1 : Int32) : Nat → Int32 → Int32 → Int32
  | 0, _, _ => 0
  | n_12 + 1, v2_12, v3_12 =>
    (if (pl 0 1) < v3_12 then v2_12 else (if (bd 4 v3_12.toNatClampNeg) = x1 then (lo_Board_rankNow_12 pl bd x1 n_12 (cr_max v2_12 (pl 3 v3_12.toNatClampNeg)) (v3_12 + (1 : Int32))) else (lo_Board_rankNow_12 pl bd x1 n_12 v2_12 (v3_12 + (1 : Int32)))))
def md_Board_rankNow (pl : cr_S) (bd : cr_S) (x1 : Int32) : Int32 :=
  (lo_Board_rankNow_12 pl bd x1 9 (pl 1 x1.toNatClampNeg) (1 : Int32))
abbrev pq_Board_rankNow (dC : Nat → ClassId) (dI : Nat → Nat → Nat) (cI cZ cO : ClassId) (apl abd : Nat → Nat) (pl : cr_S) (bd : cr_S) (x1 : Int32) (A : Nat → Prop) : Array Value → State → Outcome → State → Prop :=
  va_Qi (fun (r : Int32) (_ : Unit) => r = md_Board_rankNow pl bd x1) (fun (_ : Unit) t => va_P (dC, dI) vwCl (cw_Plan cI cZ cO apl pl ++ cw_Board cI cZ cO abd apl bd) t.heap ∧ va_K (dC, dI) vwCl [(cI, .int), (cZ, .boolean), (cO, .array .int)] t ∧ va_D A (cw_Plan cI cZ cO apl pl ++ cw_Board cI cZ cO abd apl bd)) A
set_option maxHeartbeats 4000000 in
set_option maxRecDepth 100000 in
theorem ct_Board_rankNow (l : Launch) (dC : Nat → ClassId) (dI : Nat → Nat → Nat) (cI cZ cO : ClassId) (apl abd : Nat → Nat) (sz : Nat) (pl : cr_S) (bd : cr_S) (x1 : Int32) (hR_bd : cr_RBoard bd) (hR_pl : cr_RPlan pl) (hx1 : 0 ≤ x1.toInt ∧ x1.toInt ≤ 10) : Met l ny_Board_rankNow nw_Board_rankNow ({ frames := 1, cells := 0, slots := 0, locals := 21 } : Room) (va_Pc [.ref (abd 0), .int x1] (fun U => U.heap.size = sz ∧ va_P (dC, dI) vwCl (cw_Plan cI cZ cO apl pl ++ cw_Board cI cZ cO abd apl bd) U.heap ∧ va_K (dC, dI) vwCl [(cI, .int), (cZ, .boolean), (cO, .array .int)] U ∧ va_D (fun _ => True) (cw_Plan cI cZ cO apl pl ++ cw_Board cI cZ cO abd apl bd))) (pq_Board_rankNow dC dI cI cZ cO apl abd pl bd x1 (va_A (cw_Plan cI cZ cO apl pl ++ cw_Board cI cZ cO abd apl bd) sz)) 0 0 (va_A (cw_Plan cI cZ cO apl pl ++ cw_Board cI cZ cO abd apl bd) sz) := by
  refine Met.ofW (cc := prog_2_method_6_code) (maxL := 4) (ret := (some .int)) (by decide) rfl ?_
  intro p e s m args below meth c s₁ B hml hv
  obtain ⟨rfl, hsz, hP, hK, hD0⟩ := hv
  have hx := B.exec
  have hb := B.bytes
  have hr := B.returns
  have hts0 := atoms_spec (ws := nw_Board_rankNow) B.pre
  have hts : ∀ w ∈ ng_tbl, w.before ([.ref (abd 0), .int x1] : List Value).toArray s = true := fun w h => hts0 w (List.mem_cons_of_mem _ h)
  have hown : s.vm.findClass "CeilingRows$Board" = some m.cls := findClass_of_methodNamed B.named
  have hlocks := B.notSynchronized
  subst hsz
  have hD := hD0.self (sz := s.heap.size)
  generalize hAe : va_A (cw_Plan cI cZ cO apl pl ++ cw_Board cI cZ cO abd apl bd) s.heap.size = A at hD ⊢
  have hA : ∀ q : Nat, s.heap.size ≤ q → A q := fun q h => by rw [← hAe]; exact Or.inr h
  have hS : va_S A s.heap s.heap [] := va_S.rf
  have hP : va_P (dC, dI) vwCl (cw_Plan cI cZ cO apl pl ++ cw_Board cI cZ cO abd apl bd) s.heap := hP
  have hl := lv_entry ([.ref (abd 0), .int x1]) (n := 4) (Nat.le_of_ble_eq_true rfl)
  rw [lg_entry_eq]
  generalize (lg_sl ([.ref (abd 0), .int x1]) ++ List.replicate (4 - (lg_sl ([.ref (abd 0), .int x1])).length) Slot.unset).toArray = ls at hl ⊢
  have hl : lv_has ls 4 [(0, .ref (abd 0)), (1, .int x1)] := hl
  have k_1 : (1 : Int32).toInt = 1 := by decide
  obtain ⟨tgt, hT⟩ : ∃ z, md_Board_rankNow pl bd x1 = z := ⟨_, rfl⟩
  have hM := hT
  unfold md_Board_rankNow at hM
  refine lv_aload_n hx hb nd_Board_rankNow_0 rfl (lv_at hl 0 rfl) ?_
  refine va_get (D := (dC, dI)) (ci := 1) (v := .ref (apl 0)) (C := "CeilingRows$Board") (T := nf_Board) (N := 7) hx hb hts nin_Board hown hK hP 17 rfl rfl 0 (by decide) (hts _ tw_67) (fun _ h9 => h9) rfl nd_Board_rankNow_1 ?_
  refine va_get (D := (dC, dI)) (ci := 0) (v := .ref (apl 1)) (C := "CeilingRows$Plan") (T := nf_Plan) (N := 7) hx hb hts nin_Plan hown hK hP 0 rfl rfl 2 (by decide) (hts _ tw_35) (fun _ h9 => h9) rfl nd_Board_rankNow_4 ?_
  refine lv_iload_n hx hb nd_Board_rankNow_7 rfl (lv_at hl 1 rfl) ?_
  have b_1 : vp_in x1 11 := vp_in_iff.mpr (by omega)
  refine va_iald hx hb hK hP 1 0 rfl rfl b_1 nd_Board_rankNow_8 ?_
  refine lv_istore_n (lv' := [(2, .int (pl 1 x1.toNatClampNeg)), (0, .ref (abd 0)), (1, .int x1)]) hx hb nd_Board_rankNow_9 rfl hl (by decide) rfl (fun ls hl => ?_)
  refine lv_iconst (v := 1) hx hb nd_Board_rankNow_10 (by decide) ?_
  refine lv_istore_n (lv' := [(3, .int (1 : Int32)), (2, .int (pl 1 x1.toNatClampNeg)), (0, .ref (abd 0)), (1, .int x1)]) hx hb nd_Board_rankNow_11 rfl hl (by decide) rfl (fun ls hl => ?_)
  have hl := lv_sub hl [2, 3, 1, 0] rfl
  have lp_12 : ∀ (n_12 : Nat) (v2_12 : Int32) (v3_12 : Int32), (1 ≤ v3_12.toInt ∧ v3_12.toInt ≤ 9) → (9 < v3_12.toInt + (n_12 : Int)) → lo_Board_rankNow_12 pl bd x1 n_12 v2_12 v3_12 = tgt → ∀ (H : Heap) (locs : List Loc), va_P (dC, dI) vwCl (cw_Plan cI cZ cO apl pl ++ cw_Board cI cZ cO abd apl bd) H → va_D A (cw_Plan cI cZ cO apl pl ++ cw_Board cI cZ cO abd apl bd) → va_S A s.heap H locs → ∀ ls : Array Slot, lv_has ls 4 [(0, .ref (abd 0)), (1, .int x1), (2, .int v2_12), (3, .int v3_12)] → W p l e (headSpec nw_Board_rankNow ({ frames := 1, cells := 0, slots := 0, locals := 21 } : Room)).room s m ([.ref (abd 0), .int x1] : List Value).toArray below meth c H locs 0 0 (MQ below (pq_Board_rankNow dC dI cI cZ cO apl abd pl bd x1 A) ([.ref (abd 0), .int x1] : List Value).toArray s 0 0 A) (F0 m 12 ls []) := by
    intro n_12
    induction n_12 with
    | zero =>
      intro v2_12 v3_12 hv3_12 hn_12
      exfalso; omega
    | succ n_12 ih_12 =>
      intro v2_12 v3_12 hv3_12 hn_12 hM H locs hP hD hS ls hl
      have hn_12 : 9 < v3_12.toInt + ((n_12 : Int) + 1) := by omega
      rw [lo_Board_rankNow_12] at hM
      refine lv_iload_n hx hb nd_Board_rankNow_12 rfl (lv_at hl 3 rfl) ?_
      refine lv_aload_n hx hb nd_Board_rankNow_13 rfl (lv_at hl 0 rfl) ?_
      refine va_get (D := (dC, dI)) (ci := 1) (v := .ref (apl 0)) (C := "CeilingRows$Board") (T := nf_Board) (N := 7) hx hb hts nin_Board hown hK hP 17 rfl rfl 0 (by decide) (hts _ tw_67) (fun _ h9 => h9) rfl nd_Board_rankNow_14 ?_
      refine va_get (D := (dC, dI)) (ci := 0) (v := .int (pl 0 1)) (C := "CeilingRows$Plan") (T := nf_Plan) (N := 7) hx hb hts nin_Plan hown hK hP 0 rfl rfl 1 (by decide) (hts _ tw_32) (fun _ h9 => h9) rfl nd_Board_rankNow_17 ?_
      have f_2 := cr_rfo hR_pl.2.1
      refine lv_icmp_gt (tgt := 53) hx hb nd_Board_rankNow_20 (by decide) (fun c_3 => ?_) (fun c_3 => ?_)
      · have c_3t := cr_lt c_3
        rw [if_pos c_3] at hM
        refine lv_iload_n hx hb nd_Board_rankNow_53 rfl (lv_at hl 2 rfl) ?_
        exact W.iret (v := v2_12) hx hb hr (fun t ht hW => ⟨⟨v2_12, (), rfl, by rw [hT, ← hM], by rw [ht]; exact hP, va_K.moved hW.alike hK, hD⟩, hS.F ht⟩) hS.2.2 nd_Board_rankNow_54
      · have c_3t := cr_nlt c_3
        rw [if_neg c_3] at hM
        refine lv_aload_n hx hb nd_Board_rankNow_23 rfl (lv_at hl 0 rfl) ?_
        refine va_get (D := (dC, dI)) (ci := 1) (v := .ref (abd 4)) (C := "CeilingRows$Board") (T := nf_Board) (N := 7) hx hb hts nin_Board hown hK hP 17 rfl rfl 5 (by decide) (hts _ tw_75) (fun _ h9 => h9) rfl nd_Board_rankNow_24 ?_
        refine lv_iload_n hx hb nd_Board_rankNow_27 rfl (lv_at hl 3 rfl) ?_
        have b_4 : vp_in v3_12 9 := vp_in_iff.mpr (by omega)
        refine va_iald hx hb hK hP 21 0 rfl rfl b_4 nd_Board_rankNow_28 ?_
        refine lv_iload_n hx hb nd_Board_rankNow_29 rfl (lv_at hl 1 rfl) ?_
        refine lv_icmp_ne (tgt := 47) hx hb nd_Board_rankNow_30 (by decide) (fun c_5 => ?_) (fun c_5 => ?_)
        · have c_5t := cr_ne c_5
          rw [if_neg c_5] at hM
          have e_6 : (v3_12 + (1 : Int32)).toInt = v3_12.toInt + (1 : Int32).toInt := cr_add (by omega)
          refine lv_iinc (v := (v3_12 + (1 : Int32))) (lv' := [(3, .int (v3_12 + (1 : Int32))), (0, .ref (abd 0)), (1, .int x1), (2, .int v2_12)]) hx hb nd_Board_rankNow_47 hl (k := 3) rfl (by rfl) (by decide) rfl (fun ls hl => ?_)
          refine lv_goto (tgt := 12) hx hb nd_Board_rankNow_50 (by decide) ?_
          exact ih_12 v2_12 (v3_12 + (1 : Int32)) (by omega) (by omega) hM _ _ hP hD hS _ (lv_sub hl [1, 2, 3, 0] rfl)
        · have c_5t := cr_eq c_5
          rw [if_pos c_5] at hM
          refine lv_iload_n hx hb nd_Board_rankNow_33 rfl (lv_at hl 2 rfl) ?_
          refine lv_aload_n hx hb nd_Board_rankNow_34 rfl (lv_at hl 0 rfl) ?_
          refine va_get (D := (dC, dI)) (ci := 1) (v := .ref (apl 0)) (C := "CeilingRows$Board") (T := nf_Board) (N := 7) hx hb hts nin_Board hown hK hP 17 rfl rfl 0 (by decide) (hts _ tw_67) (fun _ h9 => h9) rfl nd_Board_rankNow_35 ?_
          refine va_get (D := (dC, dI)) (ci := 0) (v := .ref (apl 3)) (C := "CeilingRows$Plan") (T := nf_Plan) (N := 7) hx hb hts nin_Plan hown hK hP 0 rfl rfl 4 (by decide) (hts _ tw_41) (fun _ h9 => h9) rfl nd_Board_rankNow_38 ?_
          refine lv_iload_n hx hb nd_Board_rankNow_41 rfl (lv_at hl 3 rfl) ?_
          have b_7 : vp_in v3_12 9 := vp_in_iff.mpr (by omega)
          refine va_iald hx hb hK hP 3 0 rfl rfl b_7 nd_Board_rankNow_42 ?_
          refine va_mmax hx hb (by rw [hml]; exact hl.1.symm) hown (hts _ tw_246) (hts _ tw_207) (hts _ tw_7) (hts _ tw_208) (Nat.le_of_ble_eq_true rfl) (Nat.le_of_ble_eq_true rfl) (Nat.zero_le _) (Nat.zero_le _) nd_Board_rankNow_43 ?_
          refine lv_istore_n (lv' := [(2, .int (cr_max v2_12 (pl 3 v3_12.toNatClampNeg))), (0, .ref (abd 0)), (1, .int x1), (3, .int v3_12)]) hx hb nd_Board_rankNow_46 rfl hl (by decide) rfl (fun ls hl => ?_)
          have e_8 : (v3_12 + (1 : Int32)).toInt = v3_12.toInt + (1 : Int32).toInt := cr_add (by omega)
          refine lv_iinc (v := (v3_12 + (1 : Int32))) (lv' := [(3, .int (v3_12 + (1 : Int32))), (2, .int (cr_max v2_12 (pl 3 v3_12.toNatClampNeg))), (0, .ref (abd 0)), (1, .int x1)]) hx hb nd_Board_rankNow_47 hl (k := 3) rfl (by rfl) (by decide) rfl (fun ls hl => ?_)
          refine lv_goto (tgt := 12) hx hb nd_Board_rankNow_50 (by decide) ?_
          exact ih_12 (cr_max v2_12 (pl 3 v3_12.toNatClampNeg)) (v3_12 + (1 : Int32)) (by omega) (by omega) hM _ _ hP hD hS _ (lv_sub hl [2, 3, 1, 0] rfl)
  exact lp_12 9 (pl 1 x1.toNatClampNeg) (1 : Int32) (by omega) (by omega) hM _ _ hP hD hS _ hl

theorem nd_Board_firstOn_0 : decode prog_2_method_7_code 0 = .ok (.iconst 0, 1) := by decide +kernel
theorem nd_Board_firstOn_1 : decode prog_2_method_7_code 1 = .ok (.istore_n 2, 1) := by decide +kernel
theorem nd_Board_firstOn_2 : decode prog_2_method_7_code 2 = .ok (.iconst 0, 1) := by decide +kernel
theorem nd_Board_firstOn_3 : decode prog_2_method_7_code 3 = .ok (.istore_n 3, 1) := by decide +kernel
theorem nd_Board_firstOn_4 : decode prog_2_method_7_code 4 = .ok (.iconst 1, 1) := by decide +kernel
theorem nd_Board_firstOn_5 : decode prog_2_method_7_code 5 = .ok (.istore 4, 2) := by decide +kernel
theorem nd_Board_firstOn_7 : decode prog_2_method_7_code 7 = .ok (.iload 4, 2) := by decide +kernel
theorem nd_Board_firstOn_9 : decode prog_2_method_7_code 9 = .ok (.aload_n 0, 1) := by decide +kernel
theorem nd_Board_firstOn_10 : decode prog_2_method_7_code 10 = .ok (.getfield 27, 3) := by decide +kernel
theorem nd_Board_firstOn_13 : decode prog_2_method_7_code 13 = .ok (.getfield 41, 3) := by decide +kernel
theorem nd_Board_firstOn_16 : decode prog_2_method_7_code 16 = .ok (.if_icmp .gt (91), 3) := by decide +kernel
theorem nd_Board_firstOn_19 : decode prog_2_method_7_code 19 = .ok (.aload_n 0, 1) := by decide +kernel
theorem nd_Board_firstOn_20 : decode prog_2_method_7_code 20 = .ok (.getfield 27, 3) := by decide +kernel
theorem nd_Board_firstOn_23 : decode prog_2_method_7_code 23 = .ok (.getfield 46, 3) := by decide +kernel
theorem nd_Board_firstOn_26 : decode prog_2_method_7_code 26 = .ok (.iload 4, 2) := by decide +kernel
theorem nd_Board_firstOn_28 : decode prog_2_method_7_code 28 = .ok (.iaload, 1) := by decide +kernel
theorem nd_Board_firstOn_29 : decode prog_2_method_7_code 29 = .ok (.iload_n 1, 1) := by decide +kernel
theorem nd_Board_firstOn_30 : decode prog_2_method_7_code 30 = .ok (.if_icmp .ne (71), 3) := by decide +kernel
theorem nd_Board_firstOn_33 : decode prog_2_method_7_code 33 = .ok (.aload_n 0, 1) := by decide +kernel
theorem nd_Board_firstOn_34 : decode prog_2_method_7_code 34 = .ok (.getfield 9, 3) := by decide +kernel
theorem nd_Board_firstOn_37 : decode prog_2_method_7_code 37 = .ok (.iload 4, 2) := by decide +kernel
theorem nd_Board_firstOn_39 : decode prog_2_method_7_code 39 = .ok (.iaload, 1) := by decide +kernel
theorem nd_Board_firstOn_40 : decode prog_2_method_7_code 40 = .ok (.iconst 1, 1) := by decide +kernel
theorem nd_Board_firstOn_41 : decode prog_2_method_7_code 41 = .ok (.if_icmp .eq (6), 3) := by decide +kernel
theorem nd_Board_firstOn_44 : decode prog_2_method_7_code 44 = .ok (.goto (57), 3) := by decide +kernel
theorem nd_Board_firstOn_47 : decode prog_2_method_7_code 47 = .ok (.aload_n 0, 1) := by decide +kernel
theorem nd_Board_firstOn_48 : decode prog_2_method_7_code 48 = .ok (.iload 4, 2) := by decide +kernel
theorem nd_Board_firstOn_50 : decode prog_2_method_7_code 50 = .ok (.invokevirtual 64, 3) := by decide +kernel
theorem nd_Board_firstOn_53 : decode prog_2_method_7_code 53 = .ok (.istore 5, 2) := by decide +kernel
theorem nd_Board_firstOn_55 : decode prog_2_method_7_code 55 = .ok (.aload_n 0, 1) := by decide +kernel
theorem nd_Board_firstOn_56 : decode prog_2_method_7_code 56 = .ok (.getfield 15, 3) := by decide +kernel
theorem nd_Board_firstOn_59 : decode prog_2_method_7_code 59 = .ok (.iload 4, 2) := by decide +kernel
theorem nd_Board_firstOn_61 : decode prog_2_method_7_code 61 = .ok (.iaload, 1) := by decide +kernel
theorem nd_Board_firstOn_62 : decode prog_2_method_7_code 62 = .ok (.aload_n 0, 1) := by decide +kernel
theorem nd_Board_firstOn_63 : decode prog_2_method_7_code 63 = .ok (.getfield 15, 3) := by decide +kernel
theorem nd_Board_firstOn_66 : decode prog_2_method_7_code 66 = .ok (.iload_n 2, 1) := by decide +kernel
theorem nd_Board_firstOn_67 : decode prog_2_method_7_code 67 = .ok (.iaload, 1) := by decide +kernel
theorem nd_Board_firstOn_68 : decode prog_2_method_7_code 68 = .ok (.if_icmp .ge (7), 3) := by decide +kernel
theorem nd_Board_firstOn_71 : decode prog_2_method_7_code 71 = .ok (.iconst 1, 1) := by decide +kernel
theorem nd_Board_firstOn_72 : decode prog_2_method_7_code 72 = .ok (.goto (4), 3) := by decide +kernel
theorem nd_Board_firstOn_75 : decode prog_2_method_7_code 75 = .ok (.iconst 0, 1) := by decide +kernel
theorem nd_Board_firstOn_76 : decode prog_2_method_7_code 76 = .ok (.istore 6, 2) := by decide +kernel
theorem nd_Board_firstOn_78 : decode prog_2_method_7_code 78 = .ok (.iload 5, 2) := by decide +kernel
theorem nd_Board_firstOn_80 : decode prog_2_method_7_code 80 = .ok (.iload_n 3, 1) := by decide +kernel
theorem nd_Board_firstOn_81 : decode prog_2_method_7_code 81 = .ok (.if_icmp .gt (14), 3) := by decide +kernel
theorem nd_Board_firstOn_84 : decode prog_2_method_7_code 84 = .ok (.iload 5, 2) := by decide +kernel
theorem nd_Board_firstOn_86 : decode prog_2_method_7_code 86 = .ok (.iload_n 3, 1) := by decide +kernel
theorem nd_Board_firstOn_87 : decode prog_2_method_7_code 87 = .ok (.if_icmp .ne (14), 3) := by decide +kernel
theorem nd_Board_firstOn_90 : decode prog_2_method_7_code 90 = .ok (.iload 6, 2) := by decide +kernel
theorem nd_Board_firstOn_92 : decode prog_2_method_7_code 92 = .ok (.ifCond .eq (9), 3) := by decide +kernel
theorem nd_Board_firstOn_95 : decode prog_2_method_7_code 95 = .ok (.iload 4, 2) := by decide +kernel
theorem nd_Board_firstOn_97 : decode prog_2_method_7_code 97 = .ok (.istore_n 2, 1) := by decide +kernel
theorem nd_Board_firstOn_98 : decode prog_2_method_7_code 98 = .ok (.iload 5, 2) := by decide +kernel
theorem nd_Board_firstOn_100 : decode prog_2_method_7_code 100 = .ok (.istore_n 3, 1) := by decide +kernel
theorem nd_Board_firstOn_101 : decode prog_2_method_7_code 101 = .ok (.iinc 4 1, 3) := by decide +kernel
theorem nd_Board_firstOn_104 : decode prog_2_method_7_code 104 = .ok (.goto (-97), 3) := by decide +kernel
theorem nd_Board_firstOn_107 : decode prog_2_method_7_code 107 = .ok (.iload_n 2, 1) := by decide +kernel
theorem nd_Board_firstOn_108 : decode prog_2_method_7_code 108 = .ok (.ireturn, 1) := by decide +kernel
def lo_Board_firstOn_7 (pl : cr_S) (bd : cr_S) (x1 : Int32) : Nat → Int32 → Int32 → Int32 → Int32
  | 0, _, _, _ => 0
  | n_7 + 1, v2_7, v3_7, v4_7 =>
    (if (pl 0 0) < v4_7 then v2_7 else (if (pl 2 v4_7.toNatClampNeg) = x1 then (if (bd 1 v4_7.toNatClampNeg) = (1 : Int32) then (if (bd 2 v2_7.toNatClampNeg) ≤ (bd 2 v4_7.toNatClampNeg) then (if v3_7 < (md_Board_rankNow pl bd v4_7) then (lo_Board_firstOn_7 pl bd x1 n_7 v4_7 (md_Board_rankNow pl bd v4_7) (v4_7 + (1 : Int32))) else (if (md_Board_rankNow pl bd v4_7) = v3_7 then (lo_Board_firstOn_7 pl bd x1 n_7 v2_7 v3_7 (v4_7 + (1 : Int32))) else (lo_Board_firstOn_7 pl bd x1 n_7 v2_7 v3_7 (v4_7 + (1 : Int32))))) else (if v3_7 < (md_Board_rankNow pl bd v4_7) then (lo_Board_firstOn_7 pl bd x1 n_7 v4_7 (md_Board_rankNow pl bd v4_7) (v4_7 + (1 : Int32))) else (if (md_Board_rankNow pl bd v4_7) = v3_7 then (lo_Board_firstOn_7 pl bd x1 n_7 v4_7 (md_Board_rankNow pl bd v4_7) (v4_7 + (1 : Int32))) else (lo_Board_firstOn_7 pl bd x1 n_7 v2_7 v3_7 (v4_7 + (1 : Int32)))))) else (lo_Board_firstOn_7 pl bd x1 n_7 v2_7 v3_7 (v4_7 + (1 : Int32)))) else (lo_Board_firstOn_7 pl bd x1 n_7 v2_7 v3_7 (v4_7 + (1 : Int32)))))
def md_Board_firstOn (pl : cr_S) (bd : cr_S) (x1 : Int32) : Int32 :=
  (lo_Board_firstOn_7 pl bd x1 11 (0 : Int32) (0 : Int32) (1 : Int32))
abbrev pq_Board_firstOn (dC : Nat → ClassId) (dI : Nat → Nat → Nat) (cI cZ cO : ClassId) (apl abd : Nat → Nat) (pl : cr_S) (bd : cr_S) (x1 : Int32) (A : Nat → Prop) : Array Value → State → Outcome → State → Prop :=
  va_Qi (fun (r : Int32) (_ : Unit) => r = md_Board_firstOn pl bd x1 ∧ (0 ≤ r.toInt ∧ r.toInt ≤ 10)) (fun (_ : Unit) t => va_P (dC, dI) vwCl (cw_Plan cI cZ cO apl pl ++ cw_Board cI cZ cO abd apl bd) t.heap ∧ va_K (dC, dI) vwCl [(cI, .int), (cZ, .boolean), (cO, .array .int)] t ∧ va_D A (cw_Plan cI cZ cO apl pl ++ cw_Board cI cZ cO abd apl bd)) A
set_option maxHeartbeats 4000000 in
set_option maxRecDepth 100000 in
theorem ct_Board_firstOn (l : Launch) (dC : Nat → ClassId) (dI : Nat → Nat → Nat) (cI cZ cO : ClassId) (apl abd : Nat → Nat) (sz : Nat) (pl : cr_S) (bd : cr_S) (x1 : Int32) (hR_bd : cr_RBoard bd) (hR_pl : cr_RPlan pl) : Met l ny_Board_firstOn nw_Board_firstOn ({ frames := 2, cells := 0, slots := 0, locals := 44 } : Room) (va_Pc [.ref (abd 0), .int x1] (fun U => U.heap.size = sz ∧ va_P (dC, dI) vwCl (cw_Plan cI cZ cO apl pl ++ cw_Board cI cZ cO abd apl bd) U.heap ∧ va_K (dC, dI) vwCl [(cI, .int), (cZ, .boolean), (cO, .array .int)] U ∧ va_D (fun _ => True) (cw_Plan cI cZ cO apl pl ++ cw_Board cI cZ cO abd apl bd))) (pq_Board_firstOn dC dI cI cZ cO apl abd pl bd x1 (va_A (cw_Plan cI cZ cO apl pl ++ cw_Board cI cZ cO abd apl bd) sz)) 0 0 (va_A (cw_Plan cI cZ cO apl pl ++ cw_Board cI cZ cO abd apl bd) sz) := by
  refine Met.ofW (cc := prog_2_method_7_code) (maxL := 7) (ret := (some .int)) (by decide) rfl ?_
  intro p e s m args below meth c s₁ B hml hv
  obtain ⟨rfl, hsz, hP, hK, hD0⟩ := hv
  have hx := B.exec
  have hb := B.bytes
  have hr := B.returns
  have hts0 := atoms_spec (ws := nw_Board_firstOn) B.pre
  have hts : ∀ w ∈ ng_tbl, w.before ([.ref (abd 0), .int x1] : List Value).toArray s = true := fun w h => hts0 w (List.mem_cons_of_mem _ h)
  have hown : s.vm.findClass "CeilingRows$Board" = some m.cls := findClass_of_methodNamed B.named
  have hlocks := B.notSynchronized
  subst hsz
  have hD := hD0.self (sz := s.heap.size)
  generalize hAe : va_A (cw_Plan cI cZ cO apl pl ++ cw_Board cI cZ cO abd apl bd) s.heap.size = A at hD ⊢
  have hA : ∀ q : Nat, s.heap.size ≤ q → A q := fun q h => by rw [← hAe]; exact Or.inr h
  have hS : va_S A s.heap s.heap [] := va_S.rf
  have hP : va_P (dC, dI) vwCl (cw_Plan cI cZ cO apl pl ++ cw_Board cI cZ cO abd apl bd) s.heap := hP
  have hl := lv_entry ([.ref (abd 0), .int x1]) (n := 7) (Nat.le_of_ble_eq_true rfl)
  rw [lg_entry_eq]
  generalize (lg_sl ([.ref (abd 0), .int x1]) ++ List.replicate (7 - (lg_sl ([.ref (abd 0), .int x1])).length) Slot.unset).toArray = ls at hl ⊢
  have hl : lv_has ls 7 [(0, .ref (abd 0)), (1, .int x1)] := hl
  have k_0 : (0 : Int32).toInt = 0 := by decide
  have k_1 : (1 : Int32).toInt = 1 := by decide
  obtain ⟨tgt, hT⟩ : ∃ z, md_Board_firstOn pl bd x1 = z := ⟨_, rfl⟩
  have hM := hT
  unfold md_Board_firstOn at hM
  refine lv_iconst (v := 0) hx hb nd_Board_firstOn_0 (by decide) ?_
  refine lv_istore_n (lv' := [(2, .int (0 : Int32)), (0, .ref (abd 0)), (1, .int x1)]) hx hb nd_Board_firstOn_1 rfl hl (by decide) rfl (fun ls hl => ?_)
  refine lv_iconst (v := 0) hx hb nd_Board_firstOn_2 (by decide) ?_
  refine lv_istore_n (lv' := [(3, .int (0 : Int32)), (2, .int (0 : Int32)), (0, .ref (abd 0)), (1, .int x1)]) hx hb nd_Board_firstOn_3 rfl hl (by decide) rfl (fun ls hl => ?_)
  refine lv_iconst (v := 1) hx hb nd_Board_firstOn_4 (by decide) ?_
  refine lv_istore (lv' := [(4, .int (1 : Int32)), (3, .int (0 : Int32)), (2, .int (0 : Int32)), (0, .ref (abd 0)), (1, .int x1)]) hx hb nd_Board_firstOn_5 hl (by decide) rfl (fun ls hl => ?_)
  have hl := lv_sub hl [3, 4, 2, 1, 0] rfl
  have lp_7 : ∀ (n_7 : Nat) (v2_7 : Int32) (v3_7 : Int32) (v4_7 : Int32), (1 ≤ v4_7.toInt ∧ v4_7.toInt ≤ 11) → (0 ≤ v2_7.toInt ∧ v2_7.toInt ≤ 10) → (11 < v4_7.toInt + (n_7 : Int)) → lo_Board_firstOn_7 pl bd x1 n_7 v2_7 v3_7 v4_7 = tgt → ∀ (H : Heap) (locs : List Loc), va_P (dC, dI) vwCl (cw_Plan cI cZ cO apl pl ++ cw_Board cI cZ cO abd apl bd) H → va_D A (cw_Plan cI cZ cO apl pl ++ cw_Board cI cZ cO abd apl bd) → va_S A s.heap H locs → ∀ ls : Array Slot, lv_has ls 7 [(0, .ref (abd 0)), (1, .int x1), (2, .int v2_7), (3, .int v3_7), (4, .int v4_7)] → W p l e (headSpec nw_Board_firstOn ({ frames := 2, cells := 0, slots := 0, locals := 44 } : Room)).room s m ([.ref (abd 0), .int x1] : List Value).toArray below meth c H locs 0 0 (MQ below (pq_Board_firstOn dC dI cI cZ cO apl abd pl bd x1 A) ([.ref (abd 0), .int x1] : List Value).toArray s 0 0 A) (F0 m 7 ls []) := by
    intro n_7
    induction n_7 with
    | zero =>
      intro v2_7 v3_7 v4_7 hv4_7 hv2_7 hn_7
      exfalso; omega
    | succ n_7 ih_7 =>
      intro v2_7 v3_7 v4_7 hv4_7 hv2_7 hn_7 hM H locs hP hD hS ls hl
      have hn_7 : 11 < v4_7.toInt + ((n_7 : Int) + 1) := by omega
      rw [lo_Board_firstOn_7] at hM
      refine lv_iload hx hb nd_Board_firstOn_7 (lv_at hl 4 rfl) ?_
      refine lv_aload_n hx hb nd_Board_firstOn_9 rfl (lv_at hl 0 rfl) ?_
      refine va_get (D := (dC, dI)) (ci := 1) (v := .ref (apl 0)) (C := "CeilingRows$Board") (T := nf_Board) (N := 7) hx hb hts nin_Board hown hK hP 17 rfl rfl 0 (by decide) (hts _ tw_67) (fun _ h9 => h9) rfl nd_Board_firstOn_10 ?_
      refine va_get (D := (dC, dI)) (ci := 0) (v := .int (pl 0 0)) (C := "CeilingRows$Plan") (T := nf_Plan) (N := 7) hx hb hts nin_Plan hown hK hP 0 rfl rfl 0 (by decide) (hts _ tw_29) (fun _ h9 => h9) rfl nd_Board_firstOn_13 ?_
      have f_1 := cr_rfo hR_pl.1
      refine lv_icmp_gt (tgt := 107) hx hb nd_Board_firstOn_16 (by decide) (fun c_2 => ?_) (fun c_2 => ?_)
      · have c_2t := cr_lt c_2
        rw [if_pos c_2] at hM
        refine lv_iload_n hx hb nd_Board_firstOn_107 rfl (lv_at hl 2 rfl) ?_
        exact W.iret (v := v2_7) hx hb hr (fun t ht hW => ⟨⟨v2_7, (), rfl, ⟨by rw [hT, ← hM], by omega⟩, by rw [ht]; exact hP, va_K.moved hW.alike hK, hD⟩, hS.F ht⟩) hS.2.2 nd_Board_firstOn_108
      · have c_2t := cr_nlt c_2
        rw [if_neg c_2] at hM
        refine lv_aload_n hx hb nd_Board_firstOn_19 rfl (lv_at hl 0 rfl) ?_
        refine va_get (D := (dC, dI)) (ci := 1) (v := .ref (apl 0)) (C := "CeilingRows$Board") (T := nf_Board) (N := 7) hx hb hts nin_Board hown hK hP 17 rfl rfl 0 (by decide) (hts _ tw_67) (fun _ h9 => h9) rfl nd_Board_firstOn_20 ?_
        refine va_get (D := (dC, dI)) (ci := 0) (v := .ref (apl 2)) (C := "CeilingRows$Plan") (T := nf_Plan) (N := 7) hx hb hts nin_Plan hown hK hP 0 rfl rfl 3 (by decide) (hts _ tw_37) (fun _ h9 => h9) rfl nd_Board_firstOn_23 ?_
        refine lv_iload hx hb nd_Board_firstOn_26 (lv_at hl 4 rfl) ?_
        have b_3 : vp_in v4_7 11 := vp_in_iff.mpr (by omega)
        refine va_iald hx hb hK hP 2 0 rfl rfl b_3 nd_Board_firstOn_28 ?_
        have f_4 := cr_rgo hR_pl.2.2 (v4_7.toNatClampNeg)
        refine lv_iload_n hx hb nd_Board_firstOn_29 rfl (lv_at hl 1 rfl) ?_
        refine lv_icmp_ne (tgt := 101) hx hb nd_Board_firstOn_30 (by decide) (fun c_5 => ?_) (fun c_5 => ?_)
        · have c_5t := cr_ne c_5
          rw [if_neg c_5] at hM
          have e_6 : (v4_7 + (1 : Int32)).toInt = v4_7.toInt + (1 : Int32).toInt := cr_add (by omega)
          refine lv_iinc (v := (v4_7 + (1 : Int32))) (lv' := [(4, .int (v4_7 + (1 : Int32))), (0, .ref (abd 0)), (1, .int x1), (2, .int v2_7), (3, .int v3_7)]) hx hb nd_Board_firstOn_101 hl (k := 4) rfl (by rfl) (by decide) rfl (fun ls hl => ?_)
          refine lv_goto (tgt := 7) hx hb nd_Board_firstOn_104 (by decide) ?_
          exact ih_7 v2_7 v3_7 (v4_7 + (1 : Int32)) (by omega) (by omega) (by omega) hM _ _ hP hD hS _ (lv_sub hl [1, 2, 3, 4, 0] rfl)
        · have c_5t := cr_eq c_5
          rw [if_pos c_5] at hM
          refine lv_aload_n hx hb nd_Board_firstOn_33 rfl (lv_at hl 0 rfl) ?_
          refine va_get (D := (dC, dI)) (ci := 1) (v := .ref (abd 1)) (C := "CeilingRows$Board") (T := nf_Board) (N := 7) hx hb hts nin_Board hown hK hP 17 rfl rfl 1 (by decide) (hts _ tw_68) (fun _ h9 => h9) rfl nd_Board_firstOn_34 ?_
          refine lv_iload hx hb nd_Board_firstOn_37 (lv_at hl 4 rfl) ?_
          have b_7 : vp_in v4_7 11 := vp_in_iff.mpr (by omega)
          refine va_iald hx hb hK hP 18 0 rfl rfl b_7 nd_Board_firstOn_39 ?_
          refine lv_iconst (v := 1) hx hb nd_Board_firstOn_40 (by decide) ?_
          refine lv_icmp_eq (tgt := 47) hx hb nd_Board_firstOn_41 (by decide) (fun c_8 => ?_) (fun c_8 => ?_)
          · have c_8t := cr_eq c_8
            rw [if_pos c_8] at hM
            refine lv_aload_n hx hb nd_Board_firstOn_47 rfl (lv_at hl 0 rfl) ?_
            refine lv_iload hx hb nd_Board_firstOn_48 (lv_at hl 4 rfl) ?_
            have hPc := hP
            have hDc := hD
            have hFc := va_free (wc := cw_Plan cI cZ cO apl pl ++ cw_Board cI cZ cO abd apl bd) hD hS hA [0, 1, 2, 3, 4, 5, 6, 7, 8, 9, 10, 11, 12, 13, 14, 15, 16, 17, 18, 19, 20, 21, 22] rfl
            refine va_calli (va_runV (As := [.int v4_7]) (rest := []) ⟨hx, hb, hml, hown, hts⟩ (ct_Board_rankNow l dC dI cI cZ cO apl abd H.size pl bd v4_7 hR_bd hR_pl (by omega)) (cwV 1 hts (ng_V tw_242 tw_243 tw_244 tw_3 tw_245) rfl rfl rfl (by decide +kernel) ⟨Nat.le_of_ble_eq_true rfl, Nat.le_of_ble_eq_true rfl⟩) ⟨fun a U g mk q => by obtain ⟨q0, q1, qP, qK, qD⟩ := q; exact ⟨q0, q1, qP, va_K.moved (u := U) (U := U.calling g mk a) (Vm.Alike.refl U.vm) qK, qD⟩, va_recv hK hPc (ci := 1) (q0 := 17) rfl rfl, fun U hU hW => ⟨rfl, by rw [hU], by rw [hU]; exact hPc, va_K.moved hW.alike hK, hDc.weaken (fun _ _ _ _ => trivial)⟩⟩ rfl rfl hl.1 rfl (lv_room (Nat.le_of_ble_eq_true rfl)) nd_Board_firstOn_50 ⟨Nat.zero_le _, Nat.zero_le _⟩) hS (fun q _ h => hFc q h) hFc (fun r_9 u t H1 locs ht hvm hw hB hz1 hk1 hS => ?_)
            obtain ⟨hP1, hK1, hD1⟩ := hB
            rw [ht] at hP1
            have w_10 := hw
            try rw [← w_10] at hM
            have hP := hP1
            have hD := cr_Dw hD1 hFc
            generalize H1 = H at hP hS ⊢
            refine lv_istore (lv' := [(5, .int r_9), (0, .ref (abd 0)), (1, .int x1), (2, .int v2_7), (3, .int v3_7), (4, .int v4_7)]) hx hb nd_Board_firstOn_53 hl (by decide) rfl (fun ls hl => ?_)
            refine lv_aload_n hx hb nd_Board_firstOn_55 rfl (lv_at hl 1 rfl) ?_
            refine va_get (D := (dC, dI)) (ci := 1) (v := .ref (abd 2)) (C := "CeilingRows$Board") (T := nf_Board) (N := 7) hx hb hts nin_Board hown hK hP 17 rfl rfl 2 (by decide) (hts _ tw_71) (fun _ h9 => h9) rfl nd_Board_firstOn_56 ?_
            refine lv_iload hx hb nd_Board_firstOn_59 (lv_at hl 5 rfl) ?_
            have b_11 : vp_in v4_7 11 := vp_in_iff.mpr (by omega)
            refine va_iald hx hb hK hP 19 0 rfl rfl b_11 nd_Board_firstOn_61 ?_
            refine lv_aload_n hx hb nd_Board_firstOn_62 rfl (lv_at hl 1 rfl) ?_
            refine va_get (D := (dC, dI)) (ci := 1) (v := .ref (abd 2)) (C := "CeilingRows$Board") (T := nf_Board) (N := 7) hx hb hts nin_Board hown hK hP 17 rfl rfl 2 (by decide) (hts _ tw_71) (fun _ h9 => h9) rfl nd_Board_firstOn_63 ?_
            refine lv_iload_n hx hb nd_Board_firstOn_66 rfl (lv_at hl 3 rfl) ?_
            have b_12 : vp_in v2_7 11 := vp_in_iff.mpr (by omega)
            refine va_iald hx hb hK hP 19 0 rfl rfl b_12 nd_Board_firstOn_67 ?_
            refine lv_icmp_ge (tgt := 75) hx hb nd_Board_firstOn_68 (by decide) (fun c_13 => ?_) (fun c_13 => ?_)
            · have c_13t := cr_le c_13
              rw [if_pos c_13] at hM
              refine lv_iconst (v := 0) hx hb nd_Board_firstOn_75 (by decide) ?_
              refine lv_istore (lv' := [(6, .int (0 : Int32)), (5, .int r_9), (0, .ref (abd 0)), (1, .int x1), (2, .int v2_7), (3, .int v3_7), (4, .int v4_7)]) hx hb nd_Board_firstOn_76 hl (by decide) rfl (fun ls hl => ?_)
              refine lv_iload hx hb nd_Board_firstOn_78 (lv_at hl 1 rfl) ?_
              refine lv_iload_n hx hb nd_Board_firstOn_80 rfl (lv_at hl 5 rfl) ?_
              refine lv_icmp_gt (tgt := 95) hx hb nd_Board_firstOn_81 (by decide) (fun c_14 => ?_) (fun c_14 => ?_)
              · have c_14t := cr_lt c_14
                rw [if_pos c_14] at hM
                refine lv_iload hx hb nd_Board_firstOn_95 (lv_at hl 6 rfl) ?_
                refine lv_istore_n (lv' := [(2, .int v4_7), (6, .int (0 : Int32)), (5, .int r_9), (0, .ref (abd 0)), (1, .int x1), (3, .int v3_7), (4, .int v4_7)]) hx hb nd_Board_firstOn_97 rfl hl (by decide) rfl (fun ls hl => ?_)
                refine lv_iload hx hb nd_Board_firstOn_98 (lv_at hl 2 rfl) ?_
                refine lv_istore_n (lv' := [(3, .int r_9), (2, .int v4_7), (6, .int (0 : Int32)), (5, .int r_9), (0, .ref (abd 0)), (1, .int x1), (4, .int v4_7)]) hx hb nd_Board_firstOn_100 rfl hl (by decide) rfl (fun ls hl => ?_)
                have e_15 : (v4_7 + (1 : Int32)).toInt = v4_7.toInt + (1 : Int32).toInt := cr_add (by omega)
                refine lv_iinc (v := (v4_7 + (1 : Int32))) (lv' := [(4, .int (v4_7 + (1 : Int32))), (3, .int r_9), (2, .int v4_7), (6, .int (0 : Int32)), (5, .int r_9), (0, .ref (abd 0)), (1, .int x1)]) hx hb nd_Board_firstOn_101 hl (k := 6) rfl (by rfl) (by decide) rfl (fun ls hl => ?_)
                refine lv_goto (tgt := 7) hx hb nd_Board_firstOn_104 (by decide) ?_
                exact ih_7 v4_7 r_9 (v4_7 + (1 : Int32)) (by omega) (by omega) (by omega) hM _ _ hP hD hS _ (lv_sub hl [5, 6, 2, 1, 0] rfl)
              · have c_14t := cr_nlt c_14
                rw [if_neg c_14] at hM
                refine lv_iload hx hb nd_Board_firstOn_84 (lv_at hl 1 rfl) ?_
                refine lv_iload_n hx hb nd_Board_firstOn_86 rfl (lv_at hl 5 rfl) ?_
                refine lv_icmp_ne (tgt := 101) hx hb nd_Board_firstOn_87 (by decide) (fun c_16 => ?_) (fun c_16 => ?_)
                · have c_16t := cr_ne c_16
                  rw [if_neg c_16] at hM
                  have e_17 : (v4_7 + (1 : Int32)).toInt = v4_7.toInt + (1 : Int32).toInt := cr_add (by omega)
                  refine lv_iinc (v := (v4_7 + (1 : Int32))) (lv' := [(4, .int (v4_7 + (1 : Int32))), (6, .int (0 : Int32)), (5, .int r_9), (0, .ref (abd 0)), (1, .int x1), (2, .int v2_7), (3, .int v3_7)]) hx hb nd_Board_firstOn_101 hl (k := 6) rfl (by rfl) (by decide) rfl (fun ls hl => ?_)
                  refine lv_goto (tgt := 7) hx hb nd_Board_firstOn_104 (by decide) ?_
                  exact ih_7 v2_7 v3_7 (v4_7 + (1 : Int32)) (by omega) (by omega) (by omega) hM _ _ hP hD hS _ (lv_sub hl [3, 4, 5, 6, 0] rfl)
                · have c_16t := cr_eq c_16
                  rw [if_pos c_16] at hM
                  refine lv_iload hx hb nd_Board_firstOn_90 (lv_at hl 0 rfl) ?_
                  refine lv_if_eq (tgt := 101) hx hb nd_Board_firstOn_92 (by decide) (fun c_18 => ?_) (fun c_18 => ?_)
                  · have e_19 : (v4_7 + (1 : Int32)).toInt = v4_7.toInt + (1 : Int32).toInt := cr_add (by omega)
                    refine lv_iinc (v := (v4_7 + (1 : Int32))) (lv' := [(4, .int (v4_7 + (1 : Int32))), (6, .int (0 : Int32)), (5, .int r_9), (0, .ref (abd 0)), (1, .int x1), (2, .int v2_7), (3, .int v3_7)]) hx hb nd_Board_firstOn_101 hl (k := 6) rfl (by rfl) (by decide) rfl (fun ls hl => ?_)
                    refine lv_goto (tgt := 7) hx hb nd_Board_firstOn_104 (by decide) ?_
                    exact ih_7 v2_7 v3_7 (v4_7 + (1 : Int32)) (by omega) (by omega) (by omega) hM _ _ hP hD hS _ (lv_sub hl [3, 4, 5, 6, 0] rfl)
                  · exact absurd c_18 (by decide)
            · have c_13t := cr_nle c_13
              rw [if_neg c_13] at hM
              refine lv_iconst (v := 1) hx hb nd_Board_firstOn_71 (by decide) ?_
              refine lv_goto (tgt := 76) hx hb nd_Board_firstOn_72 (by decide) ?_
              refine lv_istore (lv' := [(6, .int (1 : Int32)), (5, .int r_9), (0, .ref (abd 0)), (1, .int x1), (2, .int v2_7), (3, .int v3_7), (4, .int v4_7)]) hx hb nd_Board_firstOn_76 hl (by decide) rfl (fun ls hl => ?_)
              refine lv_iload hx hb nd_Board_firstOn_78 (lv_at hl 1 rfl) ?_
              refine lv_iload_n hx hb nd_Board_firstOn_80 rfl (lv_at hl 5 rfl) ?_
              refine lv_icmp_gt (tgt := 95) hx hb nd_Board_firstOn_81 (by decide) (fun c_20 => ?_) (fun c_20 => ?_)
              · have c_20t := cr_lt c_20
                rw [if_pos c_20] at hM
                refine lv_iload hx hb nd_Board_firstOn_95 (lv_at hl 6 rfl) ?_
                refine lv_istore_n (lv' := [(2, .int v4_7), (6, .int (1 : Int32)), (5, .int r_9), (0, .ref (abd 0)), (1, .int x1), (3, .int v3_7), (4, .int v4_7)]) hx hb nd_Board_firstOn_97 rfl hl (by decide) rfl (fun ls hl => ?_)
                refine lv_iload hx hb nd_Board_firstOn_98 (lv_at hl 2 rfl) ?_
                refine lv_istore_n (lv' := [(3, .int r_9), (2, .int v4_7), (6, .int (1 : Int32)), (5, .int r_9), (0, .ref (abd 0)), (1, .int x1), (4, .int v4_7)]) hx hb nd_Board_firstOn_100 rfl hl (by decide) rfl (fun ls hl => ?_)
                have e_21 : (v4_7 + (1 : Int32)).toInt = v4_7.toInt + (1 : Int32).toInt := cr_add (by omega)
                refine lv_iinc (v := (v4_7 + (1 : Int32))) (lv' := [(4, .int (v4_7 + (1 : Int32))), (3, .int r_9), (2, .int v4_7), (6, .int (1 : Int32)), (5, .int r_9), (0, .ref (abd 0)), (1, .int x1)]) hx hb nd_Board_firstOn_101 hl (k := 6) rfl (by rfl) (by decide) rfl (fun ls hl => ?_)
                refine lv_goto (tgt := 7) hx hb nd_Board_firstOn_104 (by decide) ?_
                exact ih_7 v4_7 r_9 (v4_7 + (1 : Int32)) (by omega) (by omega) (by omega) hM _ _ hP hD hS _ (lv_sub hl [5, 6, 2, 1, 0] rfl)
              · have c_20t := cr_nlt c_20
                rw [if_neg c_20] at hM
                refine lv_iload hx hb nd_Board_firstOn_84 (lv_at hl 1 rfl) ?_
                refine lv_iload_n hx hb nd_Board_firstOn_86 rfl (lv_at hl 5 rfl) ?_
                refine lv_icmp_ne (tgt := 101) hx hb nd_Board_firstOn_87 (by decide) (fun c_22 => ?_) (fun c_22 => ?_)
                · have c_22t := cr_ne c_22
                  rw [if_neg c_22] at hM
                  have e_23 : (v4_7 + (1 : Int32)).toInt = v4_7.toInt + (1 : Int32).toInt := cr_add (by omega)
                  refine lv_iinc (v := (v4_7 + (1 : Int32))) (lv' := [(4, .int (v4_7 + (1 : Int32))), (6, .int (1 : Int32)), (5, .int r_9), (0, .ref (abd 0)), (1, .int x1), (2, .int v2_7), (3, .int v3_7)]) hx hb nd_Board_firstOn_101 hl (k := 6) rfl (by rfl) (by decide) rfl (fun ls hl => ?_)
                  refine lv_goto (tgt := 7) hx hb nd_Board_firstOn_104 (by decide) ?_
                  exact ih_7 v2_7 v3_7 (v4_7 + (1 : Int32)) (by omega) (by omega) (by omega) hM _ _ hP hD hS _ (lv_sub hl [3, 4, 5, 6, 0] rfl)
                · have c_22t := cr_eq c_22
                  rw [if_pos c_22] at hM
                  refine lv_iload hx hb nd_Board_firstOn_90 (lv_at hl 0 rfl) ?_
                  refine lv_if_eq (tgt := 101) hx hb nd_Board_firstOn_92 (by decide) (fun c_24 => ?_) (fun c_24 => ?_)
                  · exact absurd c_24 (by decide)
                  · refine lv_iload hx hb nd_Board_firstOn_95 (lv_at hl 6 rfl) ?_
                    refine lv_istore_n (lv' := [(2, .int v4_7), (6, .int (1 : Int32)), (5, .int r_9), (0, .ref (abd 0)), (1, .int x1), (3, .int v3_7), (4, .int v4_7)]) hx hb nd_Board_firstOn_97 rfl hl (by decide) rfl (fun ls hl => ?_)
                    refine lv_iload hx hb nd_Board_firstOn_98 (lv_at hl 2 rfl) ?_
                    refine lv_istore_n (lv' := [(3, .int r_9), (2, .int v4_7), (6, .int (1 : Int32)), (5, .int r_9), (0, .ref (abd 0)), (1, .int x1), (4, .int v4_7)]) hx hb nd_Board_firstOn_100 rfl hl (by decide) rfl (fun ls hl => ?_)
                    have e_25 : (v4_7 + (1 : Int32)).toInt = v4_7.toInt + (1 : Int32).toInt := cr_add (by omega)
                    refine lv_iinc (v := (v4_7 + (1 : Int32))) (lv' := [(4, .int (v4_7 + (1 : Int32))), (3, .int r_9), (2, .int v4_7), (6, .int (1 : Int32)), (5, .int r_9), (0, .ref (abd 0)), (1, .int x1)]) hx hb nd_Board_firstOn_101 hl (k := 6) rfl (by rfl) (by decide) rfl (fun ls hl => ?_)
                    refine lv_goto (tgt := 7) hx hb nd_Board_firstOn_104 (by decide) ?_
                    exact ih_7 v4_7 r_9 (v4_7 + (1 : Int32)) (by omega) (by omega) (by omega) hM _ _ hP hD hS _ (lv_sub hl [5, 6, 2, 1, 0] rfl)
          · have c_8t := cr_ne c_8
            rw [if_neg c_8] at hM
            refine lv_goto (tgt := 101) hx hb nd_Board_firstOn_44 (by decide) ?_
            have e_26 : (v4_7 + (1 : Int32)).toInt = v4_7.toInt + (1 : Int32).toInt := cr_add (by omega)
            refine lv_iinc (v := (v4_7 + (1 : Int32))) (lv' := [(4, .int (v4_7 + (1 : Int32))), (0, .ref (abd 0)), (1, .int x1), (2, .int v2_7), (3, .int v3_7)]) hx hb nd_Board_firstOn_101 hl (k := 4) rfl (by rfl) (by decide) rfl (fun ls hl => ?_)
            refine lv_goto (tgt := 7) hx hb nd_Board_firstOn_104 (by decide) ?_
            exact ih_7 v2_7 v3_7 (v4_7 + (1 : Int32)) (by omega) (by omega) (by omega) hM _ _ hP hD hS _ (lv_sub hl [1, 2, 3, 4, 0] rfl)
  exact lp_7 11 (0 : Int32) (0 : Int32) (1 : Int32) (by omega) (by omega) (by omega) hM _ _ hP hD hS _ hl

theorem nd_Board_take_0 : decode prog_2_method_8_code 0 = .ok (.aload_n 0, 1) := by decide +kernel
theorem nd_Board_take_1 : decode prog_2_method_8_code 1 = .ok (.getfield 21, 3) := by decide +kernel
theorem nd_Board_take_4 : decode prog_2_method_8_code 4 = .ok (.iload_n 2, 1) := by decide +kernel
theorem nd_Board_take_5 : decode prog_2_method_8_code 5 = .ok (.iload_n 1, 1) := by decide +kernel
theorem nd_Board_take_6 : decode prog_2_method_8_code 6 = .ok (.iastore, 1) := by decide +kernel
theorem nd_Board_take_7 : decode prog_2_method_8_code 7 = .ok (.aload_n 0, 1) := by decide +kernel
theorem nd_Board_take_8 : decode prog_2_method_8_code 8 = .ok (.getfield 24, 3) := by decide +kernel
theorem nd_Board_take_11 : decode prog_2_method_8_code 11 = .ok (.iload_n 2, 1) := by decide +kernel
theorem nd_Board_take_12 : decode prog_2_method_8_code 12 = .ok (.aload_n 0, 1) := by decide +kernel
theorem nd_Board_take_13 : decode prog_2_method_8_code 13 = .ok (.getfield 18, 3) := by decide +kernel
theorem nd_Board_take_16 : decode prog_2_method_8_code 16 = .ok (.iload_n 1, 1) := by decide +kernel
theorem nd_Board_take_17 : decode prog_2_method_8_code 17 = .ok (.iaload, 1) := by decide +kernel
theorem nd_Board_take_18 : decode prog_2_method_8_code 18 = .ok (.iastore, 1) := by decide +kernel
theorem nd_Board_take_19 : decode prog_2_method_8_code 19 = .ok (.aload_n 0, 1) := by decide +kernel
theorem nd_Board_take_20 : decode prog_2_method_8_code 20 = .ok (.getfield 18, 3) := by decide +kernel
theorem nd_Board_take_23 : decode prog_2_method_8_code 23 = .ok (.iload_n 1, 1) := by decide +kernel
theorem nd_Board_take_24 : decode prog_2_method_8_code 24 = .ok (.iload_n 2, 1) := by decide +kernel
theorem nd_Board_take_25 : decode prog_2_method_8_code 25 = .ok (.iastore, 1) := by decide +kernel
theorem nd_Board_take_26 : decode prog_2_method_8_code 26 = .ok (.return_, 1) := by decide +kernel
def md_Board_take (pl : cr_S) (bd : cr_S) (x1 : Int32) (x2 : Int32) : cr_S :=
  (cr_up (cr_up (cr_up bd 4 x2.toNatClampNeg x1) 5 x2.toNatClampNeg ((cr_up bd 4 x2.toNatClampNeg x1) 3 x1.toNatClampNeg)) 3 x1.toNatClampNeg x2)
abbrev pq_Board_take (dC : Nat → ClassId) (dI : Nat → Nat → Nat) (cI cZ cO : ClassId) (apl abd : Nat → Nat) (pl : cr_S) (bd : cr_S) (x1 : Int32) (x2 : Int32) (A : Nat → Prop) : Array Value → State → Outcome → State → Prop :=
  va_Qv (fun (bd' : cr_S) => bd' = md_Board_take pl bd x1 x2 ∧ cr_RBoard bd') (fun (bd' : cr_S) t => va_P (dC, dI) vwCl (cw_Plan cI cZ cO apl pl ++ cw_Board cI cZ cO abd apl bd') t.heap ∧ va_K (dC, dI) vwCl [(cI, .int), (cZ, .boolean), (cO, .array .int)] t ∧ va_D A (cw_Plan cI cZ cO apl pl ++ cw_Board cI cZ cO abd apl bd')) A
set_option maxHeartbeats 4000000 in
set_option maxRecDepth 100000 in
theorem ct_Board_take (l : Launch) (dC : Nat → ClassId) (dI : Nat → Nat → Nat) (cI cZ cO : ClassId) (apl abd : Nat → Nat) (sz : Nat) (pl : cr_S) (bd : cr_S) (x1 : Int32) (x2 : Int32) (hR_bd : cr_RBoard bd) (hR_pl : cr_RPlan pl) (hx1 : 0 ≤ x1.toInt ∧ x1.toInt ≤ 10) (hx2 : 0 ≤ x2.toInt ∧ x2.toInt ≤ 8) : Met l ny_Board_take nw_Board_take ({ frames := 0, cells := 0, slots := 0, locals := 0 } : Room) (va_Pc [.ref (abd 0), .int x1, .int x2] (fun U => U.heap.size = sz ∧ va_P (dC, dI) vwCl (cw_Plan cI cZ cO apl pl ++ cw_Board cI cZ cO abd apl bd) U.heap ∧ va_K (dC, dI) vwCl [(cI, .int), (cZ, .boolean), (cO, .array .int)] U ∧ va_D (fun _ => True) (cw_Plan cI cZ cO apl pl ++ cw_Board cI cZ cO abd apl bd))) (pq_Board_take dC dI cI cZ cO apl abd pl bd x1 x2 (va_A (cw_Plan cI cZ cO apl pl ++ cw_Board cI cZ cO abd apl bd) sz)) 0 0 (va_A (cw_Plan cI cZ cO apl pl ++ cw_Board cI cZ cO abd apl bd) sz) := by
  refine Met.ofW (cc := prog_2_method_8_code) (maxL := 3) (ret := none) (by decide) rfl ?_
  intro p e s m args below meth c s₁ B hml hv
  obtain ⟨rfl, hsz, hP, hK, hD0⟩ := hv
  have hx := B.exec
  have hb := B.bytes
  have hr := B.returns
  have hts0 := atoms_spec (ws := nw_Board_take) B.pre
  have hts : ∀ w ∈ ng_tbl, w.before ([.ref (abd 0), .int x1, .int x2] : List Value).toArray s = true := fun w h => hts0 w (List.mem_cons_of_mem _ h)
  have hown : s.vm.findClass "CeilingRows$Board" = some m.cls := findClass_of_methodNamed B.named
  have hlocks := B.notSynchronized
  subst hsz
  have hD := hD0.self (sz := s.heap.size)
  generalize hAe : va_A (cw_Plan cI cZ cO apl pl ++ cw_Board cI cZ cO abd apl bd) s.heap.size = A at hD ⊢
  have hA : ∀ q : Nat, s.heap.size ≤ q → A q := fun q h => by rw [← hAe]; exact Or.inr h
  have hS : va_S A s.heap s.heap [] := va_S.rf
  have hP : va_P (dC, dI) vwCl (cw_Plan cI cZ cO apl pl ++ cw_Board cI cZ cO abd apl bd) s.heap := hP
  have hl := lv_entry ([.ref (abd 0), .int x1, .int x2]) (n := 3) (Nat.le_of_ble_eq_true rfl)
  rw [lg_entry_eq]
  generalize (lg_sl ([.ref (abd 0), .int x1, .int x2]) ++ List.replicate (3 - (lg_sl ([.ref (abd 0), .int x1, .int x2])).length) Slot.unset).toArray = ls at hl ⊢
  have hl : lv_has ls 3 [(0, .ref (abd 0)), (1, .int x1), (2, .int x2)] := hl
  obtain ⟨tgt, hT⟩ : ∃ z, md_Board_take pl bd x1 x2 = z := ⟨_, rfl⟩
  have hM := hT
  unfold md_Board_take at hM
  refine lv_aload_n hx hb nd_Board_take_0 rfl (lv_at hl 0 rfl) ?_
  refine va_get (D := (dC, dI)) (ci := 1) (v := .ref (abd 4)) (C := "CeilingRows$Board") (T := nf_Board) (N := 7) hx hb hts nin_Board hown hK hP 17 rfl rfl 5 (by decide) (hts _ tw_75) (fun _ h9 => h9) rfl nd_Board_take_1 ?_
  refine lv_iload_n hx hb nd_Board_take_4 rfl (lv_at hl 2 rfl) ?_
  refine lv_iload_n hx hb nd_Board_take_5 rfl (lv_at hl 1 rfl) ?_
  have b_1 : vp_in x2 9 := vp_in_iff.mpr (by omega)
  refine va_iast hx hb hK hP hD hS 21 0 rfl rfl b_1 nd_Board_take_6 (fun H locs hP hD hS => ?_)
  have hP : va_P (dC, dI) vwCl (cw_Plan cI cZ cO apl pl ++ cw_Board cI cZ cO abd apl (cr_up bd 4 x2.toNatClampNeg x1)) H := hP
  have hD : va_D A (cw_Plan cI cZ cO apl pl ++ cw_Board cI cZ cO abd apl (cr_up bd 4 x2.toNatClampNeg x1)) := hD
  have hR_2 : cr_RBoard (cr_up bd 4 x2.toNatClampNeg x1) := ⟨cr_rg_up hR_bd.1 (fun e => absurd e (by decide)), cr_rg_up hR_bd.2 (fun e => absurd e (by decide))⟩
  obtain ⟨bdq_3, hbdq_3⟩ : ∃ z, (cr_up bd 4 x2.toNatClampNeg x1) = z := ⟨_, rfl⟩
  rw [hbdq_3] at hP hD hR_2
  try rw [hbdq_3] at hM
  refine lv_aload_n hx hb nd_Board_take_7 rfl (lv_at hl 0 rfl) ?_
  refine va_get (D := (dC, dI)) (ci := 1) (v := .ref (abd 5)) (C := "CeilingRows$Board") (T := nf_Board) (N := 7) hx hb hts nin_Board hown hK hP 17 rfl rfl 6 (by decide) (hts _ tw_78) (fun _ h9 => h9) rfl nd_Board_take_8 ?_
  refine lv_iload_n hx hb nd_Board_take_11 rfl (lv_at hl 2 rfl) ?_
  refine lv_aload_n hx hb nd_Board_take_12 rfl (lv_at hl 0 rfl) ?_
  refine va_get (D := (dC, dI)) (ci := 1) (v := .ref (abd 3)) (C := "CeilingRows$Board") (T := nf_Board) (N := 7) hx hb hts nin_Board hown hK hP 17 rfl rfl 4 (by decide) (hts _ tw_73) (fun _ h9 => h9) rfl nd_Board_take_13 ?_
  refine lv_iload_n hx hb nd_Board_take_16 rfl (lv_at hl 1 rfl) ?_
  have b_4 : vp_in x1 11 := vp_in_iff.mpr (by omega)
  refine va_iald hx hb hK hP 20 0 rfl rfl b_4 nd_Board_take_17 ?_
  have f_5 := cr_rgo hR_2.1 (x1.toNatClampNeg)
  have b_6 : vp_in x2 9 := vp_in_iff.mpr (by omega)
  refine va_iast hx hb hK hP hD hS 22 0 rfl rfl b_6 nd_Board_take_18 (fun H locs hP hD hS => ?_)
  have hP : va_P (dC, dI) vwCl (cw_Plan cI cZ cO apl pl ++ cw_Board cI cZ cO abd apl (cr_up bdq_3 5 x2.toNatClampNeg (bdq_3 3 x1.toNatClampNeg))) H := hP
  have hD : va_D A (cw_Plan cI cZ cO apl pl ++ cw_Board cI cZ cO abd apl (cr_up bdq_3 5 x2.toNatClampNeg (bdq_3 3 x1.toNatClampNeg))) := hD
  have hR_7 : cr_RBoard (cr_up bdq_3 5 x2.toNatClampNeg (bdq_3 3 x1.toNatClampNeg)) := ⟨cr_rg_up hR_2.1 (fun e => absurd e (by decide)), cr_rg_up hR_2.2 (fun _ => by omega)⟩
  obtain ⟨bdq_8, hbdq_8⟩ : ∃ z, (cr_up bdq_3 5 x2.toNatClampNeg (bdq_3 3 x1.toNatClampNeg)) = z := ⟨_, rfl⟩
  rw [hbdq_8] at hP hD hR_7
  try rw [hbdq_8] at hM
  refine lv_aload_n hx hb nd_Board_take_19 rfl (lv_at hl 0 rfl) ?_
  refine va_get (D := (dC, dI)) (ci := 1) (v := .ref (abd 3)) (C := "CeilingRows$Board") (T := nf_Board) (N := 7) hx hb hts nin_Board hown hK hP 17 rfl rfl 4 (by decide) (hts _ tw_73) (fun _ h9 => h9) rfl nd_Board_take_20 ?_
  refine lv_iload_n hx hb nd_Board_take_23 rfl (lv_at hl 1 rfl) ?_
  refine lv_iload_n hx hb nd_Board_take_24 rfl (lv_at hl 2 rfl) ?_
  have b_9 : vp_in x1 11 := vp_in_iff.mpr (by omega)
  refine va_iast hx hb hK hP hD hS 20 0 rfl rfl b_9 nd_Board_take_25 (fun H locs hP hD hS => ?_)
  have hP : va_P (dC, dI) vwCl (cw_Plan cI cZ cO apl pl ++ cw_Board cI cZ cO abd apl (cr_up bdq_8 3 x1.toNatClampNeg x2)) H := hP
  have hD : va_D A (cw_Plan cI cZ cO apl pl ++ cw_Board cI cZ cO abd apl (cr_up bdq_8 3 x1.toNatClampNeg x2)) := hD
  have hR_10 : cr_RBoard (cr_up bdq_8 3 x1.toNatClampNeg x2) := ⟨cr_rg_up hR_7.1 (fun _ => by omega), cr_rg_up hR_7.2 (fun e => absurd e (by decide))⟩
  obtain ⟨bdq_11, hbdq_11⟩ : ∃ z, (cr_up bdq_8 3 x1.toNatClampNeg x2) = z := ⟨_, rfl⟩
  rw [hbdq_11] at hP hD hR_10
  try rw [hbdq_11] at hM
  exact W.vret hx hb hr (fun t ht hW => ⟨⟨bdq_11, rfl, ⟨by rw [hT, ← hM], hR_10⟩, by rw [ht]; exact hP, va_K.moved hW.alike hK, hD⟩, hS.F ht⟩) hS.2.2 nd_Board_take_26

theorem nd_Board_giveBackLast_0 : decode prog_2_method_9_code 0 = .ok (.aload_n 0, 1) := by decide +kernel
theorem nd_Board_giveBackLast_1 : decode prog_2_method_9_code 1 = .ok (.getfield 18, 3) := by decide +kernel
theorem nd_Board_giveBackLast_4 : decode prog_2_method_9_code 4 = .ok (.iload_n 1, 1) := by decide +kernel
theorem nd_Board_giveBackLast_5 : decode prog_2_method_9_code 5 = .ok (.iaload, 1) := by decide +kernel
theorem nd_Board_giveBackLast_6 : decode prog_2_method_9_code 6 = .ok (.istore_n 2, 1) := by decide +kernel
theorem nd_Board_giveBackLast_7 : decode prog_2_method_9_code 7 = .ok (.iload_n 2, 1) := by decide +kernel
theorem nd_Board_giveBackLast_8 : decode prog_2_method_9_code 8 = .ok (.ifCond .eq (29), 3) := by decide +kernel
theorem nd_Board_giveBackLast_11 : decode prog_2_method_9_code 11 = .ok (.aload_n 0, 1) := by decide +kernel
theorem nd_Board_giveBackLast_12 : decode prog_2_method_9_code 12 = .ok (.getfield 18, 3) := by decide +kernel
theorem nd_Board_giveBackLast_15 : decode prog_2_method_9_code 15 = .ok (.iload_n 1, 1) := by decide +kernel
theorem nd_Board_giveBackLast_16 : decode prog_2_method_9_code 16 = .ok (.aload_n 0, 1) := by decide +kernel
theorem nd_Board_giveBackLast_17 : decode prog_2_method_9_code 17 = .ok (.getfield 24, 3) := by decide +kernel
theorem nd_Board_giveBackLast_20 : decode prog_2_method_9_code 20 = .ok (.iload_n 2, 1) := by decide +kernel
theorem nd_Board_giveBackLast_21 : decode prog_2_method_9_code 21 = .ok (.iaload, 1) := by decide +kernel
theorem nd_Board_giveBackLast_22 : decode prog_2_method_9_code 22 = .ok (.iastore, 1) := by decide +kernel
theorem nd_Board_giveBackLast_23 : decode prog_2_method_9_code 23 = .ok (.aload_n 0, 1) := by decide +kernel
theorem nd_Board_giveBackLast_24 : decode prog_2_method_9_code 24 = .ok (.getfield 24, 3) := by decide +kernel
theorem nd_Board_giveBackLast_27 : decode prog_2_method_9_code 27 = .ok (.iload_n 2, 1) := by decide +kernel
theorem nd_Board_giveBackLast_28 : decode prog_2_method_9_code 28 = .ok (.iconst 0, 1) := by decide +kernel
theorem nd_Board_giveBackLast_29 : decode prog_2_method_9_code 29 = .ok (.iastore, 1) := by decide +kernel
theorem nd_Board_giveBackLast_30 : decode prog_2_method_9_code 30 = .ok (.aload_n 0, 1) := by decide +kernel
theorem nd_Board_giveBackLast_31 : decode prog_2_method_9_code 31 = .ok (.getfield 21, 3) := by decide +kernel
theorem nd_Board_giveBackLast_34 : decode prog_2_method_9_code 34 = .ok (.iload_n 2, 1) := by decide +kernel
theorem nd_Board_giveBackLast_35 : decode prog_2_method_9_code 35 = .ok (.iconst 0, 1) := by decide +kernel
theorem nd_Board_giveBackLast_36 : decode prog_2_method_9_code 36 = .ok (.iastore, 1) := by decide +kernel
theorem nd_Board_giveBackLast_37 : decode prog_2_method_9_code 37 = .ok (.return_, 1) := by decide +kernel
def md_Board_giveBackLast (pl : cr_S) (bd : cr_S) (x1 : Int32) : cr_S :=
  (if (bd 3 x1.toNatClampNeg) = 0 then bd else (cr_up (cr_up (cr_up bd 3 x1.toNatClampNeg (bd 5 (bd 3 x1.toNatClampNeg).toNatClampNeg)) 5 (bd 3 x1.toNatClampNeg).toNatClampNeg (0 : Int32)) 4 (bd 3 x1.toNatClampNeg).toNatClampNeg (0 : Int32)))
abbrev pq_Board_giveBackLast (dC : Nat → ClassId) (dI : Nat → Nat → Nat) (cI cZ cO : ClassId) (apl abd : Nat → Nat) (pl : cr_S) (bd : cr_S) (x1 : Int32) (A : Nat → Prop) : Array Value → State → Outcome → State → Prop :=
  va_Qv (fun (bd' : cr_S) => bd' = md_Board_giveBackLast pl bd x1 ∧ cr_RBoard bd') (fun (bd' : cr_S) t => va_P (dC, dI) vwCl (cw_Plan cI cZ cO apl pl ++ cw_Board cI cZ cO abd apl bd') t.heap ∧ va_K (dC, dI) vwCl [(cI, .int), (cZ, .boolean), (cO, .array .int)] t ∧ va_D A (cw_Plan cI cZ cO apl pl ++ cw_Board cI cZ cO abd apl bd')) A
set_option maxHeartbeats 4000000 in
set_option maxRecDepth 100000 in
theorem ct_Board_giveBackLast (l : Launch) (dC : Nat → ClassId) (dI : Nat → Nat → Nat) (cI cZ cO : ClassId) (apl abd : Nat → Nat) (sz : Nat) (pl : cr_S) (bd : cr_S) (x1 : Int32) (hR_bd : cr_RBoard bd) (hR_pl : cr_RPlan pl) (hx1 : 0 ≤ x1.toInt ∧ x1.toInt ≤ 10) : Met l ny_Board_giveBackLast nw_Board_giveBackLast ({ frames := 0, cells := 0, slots := 0, locals := 0 } : Room) (va_Pc [.ref (abd 0), .int x1] (fun U => U.heap.size = sz ∧ va_P (dC, dI) vwCl (cw_Plan cI cZ cO apl pl ++ cw_Board cI cZ cO abd apl bd) U.heap ∧ va_K (dC, dI) vwCl [(cI, .int), (cZ, .boolean), (cO, .array .int)] U ∧ va_D (fun _ => True) (cw_Plan cI cZ cO apl pl ++ cw_Board cI cZ cO abd apl bd))) (pq_Board_giveBackLast dC dI cI cZ cO apl abd pl bd x1 (va_A (cw_Plan cI cZ cO apl pl ++ cw_Board cI cZ cO abd apl bd) sz)) 0 0 (va_A (cw_Plan cI cZ cO apl pl ++ cw_Board cI cZ cO abd apl bd) sz) := by
  refine Met.ofW (cc := prog_2_method_9_code) (maxL := 3) (ret := none) (by decide) rfl ?_
  intro p e s m args below meth c s₁ B hml hv
  obtain ⟨rfl, hsz, hP, hK, hD0⟩ := hv
  have hx := B.exec
  have hb := B.bytes
  have hr := B.returns
  have hts0 := atoms_spec (ws := nw_Board_giveBackLast) B.pre
  have hts : ∀ w ∈ ng_tbl, w.before ([.ref (abd 0), .int x1] : List Value).toArray s = true := fun w h => hts0 w (List.mem_cons_of_mem _ h)
  have hown : s.vm.findClass "CeilingRows$Board" = some m.cls := findClass_of_methodNamed B.named
  have hlocks := B.notSynchronized
  subst hsz
  have hD := hD0.self (sz := s.heap.size)
  generalize hAe : va_A (cw_Plan cI cZ cO apl pl ++ cw_Board cI cZ cO abd apl bd) s.heap.size = A at hD ⊢
  have hA : ∀ q : Nat, s.heap.size ≤ q → A q := fun q h => by rw [← hAe]; exact Or.inr h
  have hS : va_S A s.heap s.heap [] := va_S.rf
  have hP : va_P (dC, dI) vwCl (cw_Plan cI cZ cO apl pl ++ cw_Board cI cZ cO abd apl bd) s.heap := hP
  have hl := lv_entry ([.ref (abd 0), .int x1]) (n := 3) (Nat.le_of_ble_eq_true rfl)
  rw [lg_entry_eq]
  generalize (lg_sl ([.ref (abd 0), .int x1]) ++ List.replicate (3 - (lg_sl ([.ref (abd 0), .int x1])).length) Slot.unset).toArray = ls at hl ⊢
  have hl : lv_has ls 3 [(0, .ref (abd 0)), (1, .int x1)] := hl
  have k_0 : (0 : Int32).toInt = 0 := by decide
  obtain ⟨tgt, hT⟩ : ∃ z, md_Board_giveBackLast pl bd x1 = z := ⟨_, rfl⟩
  have hM := hT
  unfold md_Board_giveBackLast at hM
  refine lv_aload_n hx hb nd_Board_giveBackLast_0 rfl (lv_at hl 0 rfl) ?_
  refine va_get (D := (dC, dI)) (ci := 1) (v := .ref (abd 3)) (C := "CeilingRows$Board") (T := nf_Board) (N := 7) hx hb hts nin_Board hown hK hP 17 rfl rfl 4 (by decide) (hts _ tw_73) (fun _ h9 => h9) rfl nd_Board_giveBackLast_1 ?_
  refine lv_iload_n hx hb nd_Board_giveBackLast_4 rfl (lv_at hl 1 rfl) ?_
  have b_1 : vp_in x1 11 := vp_in_iff.mpr (by omega)
  refine va_iald hx hb hK hP 20 0 rfl rfl b_1 nd_Board_giveBackLast_5 ?_
  have f_2 := cr_rgo hR_bd.1 (x1.toNatClampNeg)
  refine lv_istore_n (lv' := [(2, .int (bd 3 x1.toNatClampNeg)), (0, .ref (abd 0)), (1, .int x1)]) hx hb nd_Board_giveBackLast_6 rfl hl (by decide) rfl (fun ls hl => ?_)
  refine lv_iload_n hx hb nd_Board_giveBackLast_7 rfl (lv_at hl 0 rfl) ?_
  refine lv_if_eq (tgt := 37) hx hb nd_Board_giveBackLast_8 (by decide) (fun c_3 => ?_) (fun c_3 => ?_)
  · have c_3t := cr_eq c_3
    rw [if_pos c_3] at hM
    exact W.vret hx hb hr (fun t ht hW => ⟨⟨bd, rfl, ⟨by rw [hT, ← hM], hR_bd⟩, by rw [ht]; exact hP, va_K.moved hW.alike hK, hD⟩, hS.F ht⟩) hS.2.2 nd_Board_giveBackLast_37
  · have c_3t := cr_ne c_3
    rw [if_neg c_3] at hM
    refine lv_aload_n hx hb nd_Board_giveBackLast_11 rfl (lv_at hl 1 rfl) ?_
    refine va_get (D := (dC, dI)) (ci := 1) (v := .ref (abd 3)) (C := "CeilingRows$Board") (T := nf_Board) (N := 7) hx hb hts nin_Board hown hK hP 17 rfl rfl 4 (by decide) (hts _ tw_73) (fun _ h9 => h9) rfl nd_Board_giveBackLast_12 ?_
    refine lv_iload_n hx hb nd_Board_giveBackLast_15 rfl (lv_at hl 2 rfl) ?_
    refine lv_aload_n hx hb nd_Board_giveBackLast_16 rfl (lv_at hl 1 rfl) ?_
    refine va_get (D := (dC, dI)) (ci := 1) (v := .ref (abd 5)) (C := "CeilingRows$Board") (T := nf_Board) (N := 7) hx hb hts nin_Board hown hK hP 17 rfl rfl 6 (by decide) (hts _ tw_78) (fun _ h9 => h9) rfl nd_Board_giveBackLast_17 ?_
    refine lv_iload_n hx hb nd_Board_giveBackLast_20 rfl (lv_at hl 0 rfl) ?_
    have b_4 : vp_in (bd 3 x1.toNatClampNeg) 9 := vp_in_iff.mpr (by omega)
    refine va_iald hx hb hK hP 22 0 rfl rfl b_4 nd_Board_giveBackLast_21 ?_
    have f_5 := cr_rgo hR_bd.2 ((bd 3 x1.toNatClampNeg).toNatClampNeg)
    have b_6 : vp_in x1 11 := vp_in_iff.mpr (by omega)
    refine va_iast hx hb hK hP hD hS 20 0 rfl rfl b_6 nd_Board_giveBackLast_22 (fun H locs hP hD hS => ?_)
    have hP : va_P (dC, dI) vwCl (cw_Plan cI cZ cO apl pl ++ cw_Board cI cZ cO abd apl (cr_up bd 3 x1.toNatClampNeg (bd 5 (bd 3 x1.toNatClampNeg).toNatClampNeg))) H := hP
    have hD : va_D A (cw_Plan cI cZ cO apl pl ++ cw_Board cI cZ cO abd apl (cr_up bd 3 x1.toNatClampNeg (bd 5 (bd 3 x1.toNatClampNeg).toNatClampNeg))) := hD
    have hR_7 : cr_RBoard (cr_up bd 3 x1.toNatClampNeg (bd 5 (bd 3 x1.toNatClampNeg).toNatClampNeg)) := ⟨cr_rg_up hR_bd.1 (fun _ => by omega), cr_rg_up hR_bd.2 (fun e => absurd e (by decide))⟩
    obtain ⟨bdq_8, hbdq_8⟩ : ∃ z, (cr_up bd 3 x1.toNatClampNeg (bd 5 (bd 3 x1.toNatClampNeg).toNatClampNeg)) = z := ⟨_, rfl⟩
    rw [hbdq_8] at hP hD hR_7
    try rw [hbdq_8] at hM
    refine lv_aload_n hx hb nd_Board_giveBackLast_23 rfl (lv_at hl 1 rfl) ?_
    refine va_get (D := (dC, dI)) (ci := 1) (v := .ref (abd 5)) (C := "CeilingRows$Board") (T := nf_Board) (N := 7) hx hb hts nin_Board hown hK hP 17 rfl rfl 6 (by decide) (hts _ tw_78) (fun _ h9 => h9) rfl nd_Board_giveBackLast_24 ?_
    refine lv_iload_n hx hb nd_Board_giveBackLast_27 rfl (lv_at hl 0 rfl) ?_
    refine lv_iconst (v := 0) hx hb nd_Board_giveBackLast_28 (by decide) ?_
    have b_9 : vp_in (bd 3 x1.toNatClampNeg) 9 := vp_in_iff.mpr (by omega)
    refine va_iast hx hb hK hP hD hS 22 0 rfl rfl b_9 nd_Board_giveBackLast_29 (fun H locs hP hD hS => ?_)
    have hP : va_P (dC, dI) vwCl (cw_Plan cI cZ cO apl pl ++ cw_Board cI cZ cO abd apl (cr_up bdq_8 5 (bd 3 x1.toNatClampNeg).toNatClampNeg (0 : Int32))) H := hP
    have hD : va_D A (cw_Plan cI cZ cO apl pl ++ cw_Board cI cZ cO abd apl (cr_up bdq_8 5 (bd 3 x1.toNatClampNeg).toNatClampNeg (0 : Int32))) := hD
    have hR_10 : cr_RBoard (cr_up bdq_8 5 (bd 3 x1.toNatClampNeg).toNatClampNeg (0 : Int32)) := ⟨cr_rg_up hR_7.1 (fun e => absurd e (by decide)), cr_rg_up hR_7.2 (fun _ => by omega)⟩
    obtain ⟨bdq_11, hbdq_11⟩ : ∃ z, (cr_up bdq_8 5 (bd 3 x1.toNatClampNeg).toNatClampNeg (0 : Int32)) = z := ⟨_, rfl⟩
    rw [hbdq_11] at hP hD hR_10
    try rw [hbdq_11] at hM
    refine lv_aload_n hx hb nd_Board_giveBackLast_30 rfl (lv_at hl 1 rfl) ?_
    refine va_get (D := (dC, dI)) (ci := 1) (v := .ref (abd 4)) (C := "CeilingRows$Board") (T := nf_Board) (N := 7) hx hb hts nin_Board hown hK hP 17 rfl rfl 5 (by decide) (hts _ tw_75) (fun _ h9 => h9) rfl nd_Board_giveBackLast_31 ?_
    refine lv_iload_n hx hb nd_Board_giveBackLast_34 rfl (lv_at hl 0 rfl) ?_
    refine lv_iconst (v := 0) hx hb nd_Board_giveBackLast_35 (by decide) ?_
    have b_12 : vp_in (bd 3 x1.toNatClampNeg) 9 := vp_in_iff.mpr (by omega)
    refine va_iast hx hb hK hP hD hS 21 0 rfl rfl b_12 nd_Board_giveBackLast_36 (fun H locs hP hD hS => ?_)
    have hP : va_P (dC, dI) vwCl (cw_Plan cI cZ cO apl pl ++ cw_Board cI cZ cO abd apl (cr_up bdq_11 4 (bd 3 x1.toNatClampNeg).toNatClampNeg (0 : Int32))) H := hP
    have hD : va_D A (cw_Plan cI cZ cO apl pl ++ cw_Board cI cZ cO abd apl (cr_up bdq_11 4 (bd 3 x1.toNatClampNeg).toNatClampNeg (0 : Int32))) := hD
    have hR_13 : cr_RBoard (cr_up bdq_11 4 (bd 3 x1.toNatClampNeg).toNatClampNeg (0 : Int32)) := ⟨cr_rg_up hR_10.1 (fun e => absurd e (by decide)), cr_rg_up hR_10.2 (fun e => absurd e (by decide))⟩
    obtain ⟨bdq_14, hbdq_14⟩ : ∃ z, (cr_up bdq_11 4 (bd 3 x1.toNatClampNeg).toNatClampNeg (0 : Int32)) = z := ⟨_, rfl⟩
    rw [hbdq_14] at hP hD hR_13
    try rw [hbdq_14] at hM
    exact W.vret hx hb hr (fun t ht hW => ⟨⟨bdq_14, rfl, ⟨by rw [hT, ← hM], hR_13⟩, by rw [ht]; exact hP, va_K.moved hW.alike hK, hD⟩, hS.F ht⟩) hS.2.2 nd_Board_giveBackLast_37

theorem nd_Board_putToSleep_0 : decode prog_2_method_10_code 0 = .ok (.iconst 0, 1) := by decide +kernel
theorem nd_Board_putToSleep_1 : decode prog_2_method_10_code 1 = .ok (.istore_n 2, 1) := by decide +kernel
theorem nd_Board_putToSleep_2 : decode prog_2_method_10_code 2 = .ok (.iload_n 2, 1) := by decide +kernel
theorem nd_Board_putToSleep_3 : decode prog_2_method_10_code 3 = .ok (.bipush 8, 2) := by decide +kernel
theorem nd_Board_putToSleep_5 : decode prog_2_method_10_code 5 = .ok (.if_icmp .ge (22), 3) := by decide +kernel
theorem nd_Board_putToSleep_8 : decode prog_2_method_10_code 8 = .ok (.aload_n 0, 1) := by decide +kernel
theorem nd_Board_putToSleep_9 : decode prog_2_method_10_code 9 = .ok (.iload_n 1, 1) := by decide +kernel
theorem nd_Board_putToSleep_10 : decode prog_2_method_10_code 10 = .ok (.invokevirtual 68, 3) := by decide +kernel
theorem nd_Board_putToSleep_13 : decode prog_2_method_10_code 13 = .ok (.ifCond .eq (14), 3) := by decide +kernel
theorem nd_Board_putToSleep_16 : decode prog_2_method_10_code 16 = .ok (.aload_n 0, 1) := by decide +kernel
theorem nd_Board_putToSleep_17 : decode prog_2_method_10_code 17 = .ok (.iload_n 1, 1) := by decide +kernel
theorem nd_Board_putToSleep_18 : decode prog_2_method_10_code 18 = .ok (.invokevirtual 72, 3) := by decide +kernel
theorem nd_Board_putToSleep_21 : decode prog_2_method_10_code 21 = .ok (.iinc 2 1, 3) := by decide +kernel
theorem nd_Board_putToSleep_24 : decode prog_2_method_10_code 24 = .ok (.goto (-22), 3) := by decide +kernel
theorem nd_Board_putToSleep_27 : decode prog_2_method_10_code 27 = .ok (.aload_n 0, 1) := by decide +kernel
theorem nd_Board_putToSleep_28 : decode prog_2_method_10_code 28 = .ok (.getfield 9, 3) := by decide +kernel
theorem nd_Board_putToSleep_31 : decode prog_2_method_10_code 31 = .ok (.iload_n 1, 1) := by decide +kernel
theorem nd_Board_putToSleep_32 : decode prog_2_method_10_code 32 = .ok (.iconst 0, 1) := by decide +kernel
theorem nd_Board_putToSleep_33 : decode prog_2_method_10_code 33 = .ok (.iastore, 1) := by decide +kernel
theorem nd_Board_putToSleep_34 : decode prog_2_method_10_code 34 = .ok (.return_, 1) := by decide +kernel
def lo_Board_putToSleep_2 (pl : cr_S) (x1 : Int32) : Nat → cr_S → Int32 → cr_S
  | 0, bd_2, _ => bd_2
  | n_2 + 1, bd_2, v2_2 =>
    (if (8 : Int32) ≤ v2_2 then (cr_up bd_2 1 x1.toNatClampNeg (0 : Int32)) else (if (md_Board_holdsAny pl bd_2 x1) = 0 then (cr_up bd_2 1 x1.toNatClampNeg (0 : Int32)) else (lo_Board_putToSleep_2 pl x1 n_2 (md_Board_giveBackLast pl bd_2 x1) (v2_2 + (1 : Int32)))))
def md_Board_putToSleep (pl : cr_S) (bd : cr_S) (x1 : Int32) : cr_S :=
  (lo_Board_putToSleep_2 pl x1 9 bd (0 : Int32))
abbrev pq_Board_putToSleep (dC : Nat → ClassId) (dI : Nat → Nat → Nat) (cI cZ cO : ClassId) (apl abd : Nat → Nat) (pl : cr_S) (bd : cr_S) (x1 : Int32) (A : Nat → Prop) : Array Value → State → Outcome → State → Prop :=
  va_Qv (fun (bd' : cr_S) => bd' = md_Board_putToSleep pl bd x1 ∧ cr_RBoard bd') (fun (bd' : cr_S) t => va_P (dC, dI) vwCl (cw_Plan cI cZ cO apl pl ++ cw_Board cI cZ cO abd apl bd') t.heap ∧ va_K (dC, dI) vwCl [(cI, .int), (cZ, .boolean), (cO, .array .int)] t ∧ va_D A (cw_Plan cI cZ cO apl pl ++ cw_Board cI cZ cO abd apl bd')) A
set_option maxHeartbeats 4000000 in
set_option maxRecDepth 100000 in
theorem ct_Board_putToSleep (l : Launch) (dC : Nat → ClassId) (dI : Nat → Nat → Nat) (cI cZ cO : ClassId) (apl abd : Nat → Nat) (sz : Nat) (pl : cr_S) (bd : cr_S) (x1 : Int32) (hR_bd : cr_RBoard bd) (hR_pl : cr_RPlan pl) (hx1 : 0 ≤ x1.toInt ∧ x1.toInt ≤ 10) : Met l ny_Board_putToSleep nw_Board_putToSleep ({ frames := 1, cells := 0, slots := 0, locals := 22 } : Room) (va_Pc [.ref (abd 0), .int x1] (fun U => U.heap.size = sz ∧ va_P (dC, dI) vwCl (cw_Plan cI cZ cO apl pl ++ cw_Board cI cZ cO abd apl bd) U.heap ∧ va_K (dC, dI) vwCl [(cI, .int), (cZ, .boolean), (cO, .array .int)] U ∧ va_D (fun _ => True) (cw_Plan cI cZ cO apl pl ++ cw_Board cI cZ cO abd apl bd))) (pq_Board_putToSleep dC dI cI cZ cO apl abd pl bd x1 (va_A (cw_Plan cI cZ cO apl pl ++ cw_Board cI cZ cO abd apl bd) sz)) 0 0 (va_A (cw_Plan cI cZ cO apl pl ++ cw_Board cI cZ cO abd apl bd) sz) := by
  refine Met.ofW (cc := prog_2_method_10_code) (maxL := 3) (ret := none) (by decide) rfl ?_
  intro p e s m args below meth c s₁ B hml hv
  obtain ⟨rfl, hsz, hP, hK, hD0⟩ := hv
  have hx := B.exec
  have hb := B.bytes
  have hr := B.returns
  have hts0 := atoms_spec (ws := nw_Board_putToSleep) B.pre
  have hts : ∀ w ∈ ng_tbl, w.before ([.ref (abd 0), .int x1] : List Value).toArray s = true := fun w h => hts0 w (List.mem_cons_of_mem _ h)
  have hown : s.vm.findClass "CeilingRows$Board" = some m.cls := findClass_of_methodNamed B.named
  have hlocks := B.notSynchronized
  subst hsz
  have hD := hD0.self (sz := s.heap.size)
  generalize hAe : va_A (cw_Plan cI cZ cO apl pl ++ cw_Board cI cZ cO abd apl bd) s.heap.size = A at hD ⊢
  have hA : ∀ q : Nat, s.heap.size ≤ q → A q := fun q h => by rw [← hAe]; exact Or.inr h
  have hS : va_S A s.heap s.heap [] := va_S.rf
  have hP : va_P (dC, dI) vwCl (cw_Plan cI cZ cO apl pl ++ cw_Board cI cZ cO abd apl bd) s.heap := hP
  have hl := lv_entry ([.ref (abd 0), .int x1]) (n := 3) (Nat.le_of_ble_eq_true rfl)
  rw [lg_entry_eq]
  generalize (lg_sl ([.ref (abd 0), .int x1]) ++ List.replicate (3 - (lg_sl ([.ref (abd 0), .int x1])).length) Slot.unset).toArray = ls at hl ⊢
  have hl : lv_has ls 3 [(0, .ref (abd 0)), (1, .int x1)] := hl
  have k_0 : (0 : Int32).toInt = 0 := by decide
  have k_1 : (1 : Int32).toInt = 1 := by decide
  have k_8 : (8 : Int32).toInt = 8 := by decide
  obtain ⟨tgt, hT⟩ : ∃ z, md_Board_putToSleep pl bd x1 = z := ⟨_, rfl⟩
  have hM := hT
  unfold md_Board_putToSleep at hM
  refine lv_iconst (v := 0) hx hb nd_Board_putToSleep_0 (by decide) ?_
  refine lv_istore_n (lv' := [(2, .int (0 : Int32)), (0, .ref (abd 0)), (1, .int x1)]) hx hb nd_Board_putToSleep_1 rfl hl (by decide) rfl (fun ls hl => ?_)
  have hl := lv_sub hl [1, 2, 0] rfl
  have lp_2 : ∀ (n_2 : Nat) (bd_2 : cr_S) (v2_2 : Int32), (cr_RBoard bd_2) → (0 ≤ v2_2.toInt ∧ v2_2.toInt ≤ 8) → (8 < v2_2.toInt + (n_2 : Int)) → lo_Board_putToSleep_2 pl x1 n_2 bd_2 v2_2 = tgt → ∀ (H : Heap) (locs : List Loc), va_P (dC, dI) vwCl (cw_Plan cI cZ cO apl pl ++ cw_Board cI cZ cO abd apl bd_2) H → va_D A (cw_Plan cI cZ cO apl pl ++ cw_Board cI cZ cO abd apl bd_2) → va_S A s.heap H locs → ∀ ls : Array Slot, lv_has ls 3 [(0, .ref (abd 0)), (1, .int x1), (2, .int v2_2)] → W p l e (headSpec nw_Board_putToSleep ({ frames := 1, cells := 0, slots := 0, locals := 22 } : Room)).room s m ([.ref (abd 0), .int x1] : List Value).toArray below meth c H locs 0 0 (MQ below (pq_Board_putToSleep dC dI cI cZ cO apl abd pl bd x1 A) ([.ref (abd 0), .int x1] : List Value).toArray s 0 0 A) (F0 m 2 ls []) := by
    intro n_2
    induction n_2 with
    | zero =>
      intro bd_2 v2_2 hR_bd_2 hv2_2 hn_2
      exfalso; omega
    | succ n_2 ih_2 =>
      intro bd_2 v2_2 hR_bd_2 hv2_2 hn_2 hM H locs hP hD hS ls hl
      have hn_2 : 8 < v2_2.toInt + ((n_2 : Int) + 1) := by omega
      rw [lo_Board_putToSleep_2] at hM
      refine lv_iload_n hx hb nd_Board_putToSleep_2 rfl (lv_at hl 2 rfl) ?_
      refine lv_bipush (v := 8) hx hb nd_Board_putToSleep_3 (by decide) ?_
      refine lv_icmp_ge (tgt := 27) hx hb nd_Board_putToSleep_5 (by decide) (fun c_1 => ?_) (fun c_1 => ?_)
      · have c_1t := cr_le c_1
        rw [if_pos c_1] at hM
        refine lv_aload_n hx hb nd_Board_putToSleep_27 rfl (lv_at hl 0 rfl) ?_
        refine va_get (D := (dC, dI)) (ci := 1) (v := .ref (abd 1)) (C := "CeilingRows$Board") (T := nf_Board) (N := 7) hx hb hts nin_Board hown hK hP 17 rfl rfl 1 (by decide) (hts _ tw_68) (fun _ h9 => h9) rfl nd_Board_putToSleep_28 ?_
        refine lv_iload_n hx hb nd_Board_putToSleep_31 rfl (lv_at hl 1 rfl) ?_
        refine lv_iconst (v := 0) hx hb nd_Board_putToSleep_32 (by decide) ?_
        have b_2 : vp_in x1 11 := vp_in_iff.mpr (by omega)
        refine va_iast hx hb hK hP hD hS 18 0 rfl rfl b_2 nd_Board_putToSleep_33 (fun H locs hP hD hS => ?_)
        have hP : va_P (dC, dI) vwCl (cw_Plan cI cZ cO apl pl ++ cw_Board cI cZ cO abd apl (cr_up bd_2 1 x1.toNatClampNeg (0 : Int32))) H := hP
        have hD : va_D A (cw_Plan cI cZ cO apl pl ++ cw_Board cI cZ cO abd apl (cr_up bd_2 1 x1.toNatClampNeg (0 : Int32))) := hD
        have hR_3 : cr_RBoard (cr_up bd_2 1 x1.toNatClampNeg (0 : Int32)) := ⟨cr_rg_up hR_bd_2.1 (fun e => absurd e (by decide)), cr_rg_up hR_bd_2.2 (fun e => absurd e (by decide))⟩
        obtain ⟨bdq_4, hbdq_4⟩ : ∃ z, (cr_up bd_2 1 x1.toNatClampNeg (0 : Int32)) = z := ⟨_, rfl⟩
        rw [hbdq_4] at hP hD hR_3
        try rw [hbdq_4] at hM
        exact W.vret hx hb hr (fun t ht hW => ⟨⟨bdq_4, rfl, ⟨by rw [hT, ← hM], hR_3⟩, by rw [ht]; exact hP, va_K.moved hW.alike hK, hD⟩, hS.F ht⟩) hS.2.2 nd_Board_putToSleep_34
      · have c_1t := cr_nle c_1
        rw [if_neg c_1] at hM
        refine lv_aload_n hx hb nd_Board_putToSleep_8 rfl (lv_at hl 0 rfl) ?_
        refine lv_iload_n hx hb nd_Board_putToSleep_9 rfl (lv_at hl 1 rfl) ?_
        have hPc := hP
        have hDc := hD
        have hFc := va_free (wc := cw_Plan cI cZ cO apl pl ++ cw_Board cI cZ cO abd apl bd_2) hD hS hA [0, 1, 2, 3, 4, 5, 6, 7, 8, 9, 10, 11, 12, 13, 14, 15, 16, 17, 18, 19, 20, 21, 22] rfl
        refine va_calli (va_runV (As := [.int x1]) (rest := []) ⟨hx, hb, hml, hown, hts⟩ (ct_Board_holdsAny l dC dI cI cZ cO apl abd H.size pl bd_2 x1 hR_bd_2 hR_pl (by omega)) (cwV 1 hts (ng_V tw_279 tw_272 tw_273 tw_3 tw_274) rfl rfl rfl (by decide +kernel) ⟨Nat.le_of_ble_eq_true rfl, Nat.le_of_ble_eq_true rfl⟩) ⟨fun a U g mk q => by obtain ⟨q0, q1, qP, qK, qD⟩ := q; exact ⟨q0, q1, qP, va_K.moved (u := U) (U := U.calling g mk a) (Vm.Alike.refl U.vm) qK, qD⟩, va_recv hK hPc (ci := 1) (q0 := 17) rfl rfl, fun U hU hW => ⟨rfl, by rw [hU], by rw [hU]; exact hPc, va_K.moved hW.alike hK, hDc.weaken (fun _ _ _ _ => trivial)⟩⟩ rfl rfl hl.1 rfl (lv_room (Nat.le_of_ble_eq_true rfl)) nd_Board_putToSleep_10 ⟨Nat.zero_le _, Nat.zero_le _⟩) hS (fun q _ h => hFc q h) hFc (fun r_5 u t H1 locs ht hvm hw hB hz1 hk1 hS => ?_)
        obtain ⟨hP1, hK1, hD1⟩ := hB
        rw [ht] at hP1
        have w_6 := hw
        try rw [← w_6] at hM
        have hP := hP1
        have hD := cr_Dw hD1 hFc
        generalize H1 = H at hP hS ⊢
        refine lv_if_eq (tgt := 27) hx hb nd_Board_putToSleep_13 (by decide) (fun c_7 => ?_) (fun c_7 => ?_)
        · have c_7t := cr_eq c_7
          rw [if_pos c_7] at hM
          refine lv_aload_n hx hb nd_Board_putToSleep_27 rfl (lv_at hl 0 rfl) ?_
          refine va_get (D := (dC, dI)) (ci := 1) (v := .ref (abd 1)) (C := "CeilingRows$Board") (T := nf_Board) (N := 7) hx hb hts nin_Board hown hK hP 17 rfl rfl 1 (by decide) (hts _ tw_68) (fun _ h9 => h9) rfl nd_Board_putToSleep_28 ?_
          refine lv_iload_n hx hb nd_Board_putToSleep_31 rfl (lv_at hl 1 rfl) ?_
          refine lv_iconst (v := 0) hx hb nd_Board_putToSleep_32 (by decide) ?_
          have b_8 : vp_in x1 11 := vp_in_iff.mpr (by omega)
          refine va_iast hx hb hK hP hD hS 18 0 rfl rfl b_8 nd_Board_putToSleep_33 (fun H locs hP hD hS => ?_)
          have hP : va_P (dC, dI) vwCl (cw_Plan cI cZ cO apl pl ++ cw_Board cI cZ cO abd apl (cr_up bd_2 1 x1.toNatClampNeg (0 : Int32))) H := hP
          have hD : va_D A (cw_Plan cI cZ cO apl pl ++ cw_Board cI cZ cO abd apl (cr_up bd_2 1 x1.toNatClampNeg (0 : Int32))) := hD
          have hR_9 : cr_RBoard (cr_up bd_2 1 x1.toNatClampNeg (0 : Int32)) := ⟨cr_rg_up hR_bd_2.1 (fun e => absurd e (by decide)), cr_rg_up hR_bd_2.2 (fun e => absurd e (by decide))⟩
          obtain ⟨bdq_10, hbdq_10⟩ : ∃ z, (cr_up bd_2 1 x1.toNatClampNeg (0 : Int32)) = z := ⟨_, rfl⟩
          rw [hbdq_10] at hP hD hR_9
          try rw [hbdq_10] at hM
          exact W.vret hx hb hr (fun t ht hW => ⟨⟨bdq_10, rfl, ⟨by rw [hT, ← hM], hR_9⟩, by rw [ht]; exact hP, va_K.moved hW.alike hK, hD⟩, hS.F ht⟩) hS.2.2 nd_Board_putToSleep_34
        · have c_7t := cr_ne c_7
          rw [if_neg c_7] at hM
          refine lv_aload_n hx hb nd_Board_putToSleep_16 rfl (lv_at hl 0 rfl) ?_
          refine lv_iload_n hx hb nd_Board_putToSleep_17 rfl (lv_at hl 1 rfl) ?_
          have hPc := hP
          have hDc := hD
          have hFc := va_free (wc := cw_Plan cI cZ cO apl pl ++ cw_Board cI cZ cO abd apl bd_2) hD hS hA [0, 1, 2, 3, 4, 5, 6, 7, 8, 9, 10, 11, 12, 13, 14, 15, 16, 17, 18, 19, 20, 21, 22] rfl
          refine va_callv (va_runV (As := [.int x1]) (rest := []) ⟨hx, hb, hml, hown, hts⟩ (ct_Board_giveBackLast l dC dI cI cZ cO apl abd H.size pl bd_2 x1 hR_bd_2 hR_pl (by omega)) (cwV 1 hts (ng_V tw_280 tw_264 tw_265 tw_3 tw_266) rfl rfl rfl (by decide +kernel) ⟨Nat.le_of_ble_eq_true rfl, Nat.le_of_ble_eq_true rfl⟩) ⟨fun a U g mk q => by obtain ⟨q0, q1, qP, qK, qD⟩ := q; exact ⟨q0, q1, qP, va_K.moved (u := U) (U := U.calling g mk a) (Vm.Alike.refl U.vm) qK, qD⟩, va_recv hK hPc (ci := 1) (q0 := 17) rfl rfl, fun U hU hW => ⟨rfl, by rw [hU], by rw [hU]; exact hPc, va_K.moved hW.alike hK, hDc.weaken (fun _ _ _ _ => trivial)⟩⟩ rfl rfl hl.1 rfl (lv_room (Nat.le_of_ble_eq_true rfl)) nd_Board_putToSleep_18 ⟨Nat.zero_le _, Nat.zero_le _⟩) hS (fun q _ h => hFc q h) hFc (fun u t H1 locs ht hvm hw hB hz1 hk1 hS => ?_)
          obtain ⟨hP1, hK1, hD1⟩ := hB
          rw [ht] at hP1
          obtain ⟨bdq_12, rfl⟩ : ∃ z, z = u := ⟨_, rfl⟩
          obtain ⟨w_13, hR_14⟩ := hw
          try rw [← w_13] at hM
          have hP := hP1
          have hD := cr_Dw hD1 hFc
          generalize H1 = H at hP hS ⊢
          have e_15 : (v2_2 + (1 : Int32)).toInt = v2_2.toInt + (1 : Int32).toInt := cr_add (by omega)
          refine lv_iinc (v := (v2_2 + (1 : Int32))) (lv' := [(2, .int (v2_2 + (1 : Int32))), (0, .ref (abd 0)), (1, .int x1)]) hx hb nd_Board_putToSleep_21 hl (k := 2) rfl (by rfl) (by decide) rfl (fun ls hl => ?_)
          refine lv_goto (tgt := 2) hx hb nd_Board_putToSleep_24 (by decide) ?_
          exact ih_2 bdq_12 (v2_2 + (1 : Int32)) hR_14 (by omega) (by omega) hM _ _ hP hD hS _ (lv_sub hl [1, 2, 0] rfl)
  exact lp_2 9 bd (0 : Int32) hR_bd (by omega) (by omega) hM _ _ hP hD hS _ hl
end
section
theorem nd_Locks_spins_0 : decode prog_3_method_2_code 0 = .ok (.aload_n 0, 1) := by decide +kernel
theorem nd_Locks_spins_1 : decode prog_3_method_2_code 1 = .ok (.getfield 15, 3) := by decide +kernel
theorem nd_Locks_spins_4 : decode prog_3_method_2_code 4 = .ok (.iload_n 1, 1) := by decide +kernel
theorem nd_Locks_spins_5 : decode prog_3_method_2_code 5 = .ok (.iaload, 1) := by decide +kernel
theorem nd_Locks_spins_6 : decode prog_3_method_2_code 6 = .ok (.ifCond .eq (7), 3) := by decide +kernel
theorem nd_Locks_spins_9 : decode prog_3_method_2_code 9 = .ok (.iconst 1, 1) := by decide +kernel
theorem nd_Locks_spins_10 : decode prog_3_method_2_code 10 = .ok (.goto (4), 3) := by decide +kernel
theorem nd_Locks_spins_13 : decode prog_3_method_2_code 13 = .ok (.iconst 0, 1) := by decide +kernel
theorem nd_Locks_spins_14 : decode prog_3_method_2_code 14 = .ok (.ireturn, 1) := by decide +kernel
def md_Locks_spins (lk : cr_S) (x1 : Int32) : Int32 :=
  (if (lk 2 x1.toNatClampNeg) = 0 then (0 : Int32) else (1 : Int32))
abbrev pq_Locks_spins (dC : Nat → ClassId) (dI : Nat → Nat → Nat) (cI cZ cO : ClassId) (alk : Nat → Nat) (lk : cr_S) (x1 : Int32) (A : Nat → Prop) : Array Value → State → Outcome → State → Prop :=
  va_Qi (fun (r : Int32) (_ : Unit) => r = md_Locks_spins lk x1) (fun (_ : Unit) t => va_P (dC, dI) vwCl (cw_Locks cI cZ cO alk lk) t.heap ∧ va_K (dC, dI) vwCl [(cI, .int), (cZ, .boolean), (cO, .array .int)] t ∧ va_D A (cw_Locks cI cZ cO alk lk)) A
set_option maxHeartbeats 4000000 in
set_option maxRecDepth 100000 in
theorem ct_Locks_spins (l : Launch) (dC : Nat → ClassId) (dI : Nat → Nat → Nat) (cI cZ cO : ClassId) (alk : Nat → Nat) (sz : Nat) (lk : cr_S) (x1 : Int32) (hR_lk : cr_RLocks lk) (hx1 : 0 ≤ x1.toInt ∧ x1.toInt ≤ 3) : Met l ny_Locks_spins nw_Locks_spins ({ frames := 0, cells := 0, slots := 0, locals := 0 } : Room) (va_Pc [.ref (alk 0), .int x1] (fun U => U.heap.size = sz ∧ va_P (dC, dI) vwCl (cw_Locks cI cZ cO alk lk) U.heap ∧ va_K (dC, dI) vwCl [(cI, .int), (cZ, .boolean), (cO, .array .int)] U ∧ va_D (fun _ => True) (cw_Locks cI cZ cO alk lk))) (pq_Locks_spins dC dI cI cZ cO alk lk x1 (va_A (cw_Locks cI cZ cO alk lk) sz)) 0 0 (va_A (cw_Locks cI cZ cO alk lk) sz) := by
  refine Met.ofW (cc := prog_3_method_2_code) (maxL := 2) (ret := (some .boolean)) (by decide) rfl ?_
  intro p e s m args below meth c s₁ B hml hv
  obtain ⟨rfl, hsz, hP, hK, hD0⟩ := hv
  have hx := B.exec
  have hb := B.bytes
  have hr := B.returns
  have hts0 := atoms_spec (ws := nw_Locks_spins) B.pre
  have hts : ∀ w ∈ ng_tbl, w.before ([.ref (alk 0), .int x1] : List Value).toArray s = true := fun w h => hts0 w (List.mem_cons_of_mem _ h)
  have hown : s.vm.findClass "CeilingRows$Locks" = some m.cls := findClass_of_methodNamed B.named
  have hlocks := B.notSynchronized
  subst hsz
  have hD := hD0.self (sz := s.heap.size)
  generalize hAe : va_A (cw_Locks cI cZ cO alk lk) s.heap.size = A at hD ⊢
  have hA : ∀ q : Nat, s.heap.size ≤ q → A q := fun q h => by rw [← hAe]; exact Or.inr h
  have hS : va_S A s.heap s.heap [] := va_S.rf
  have hP : va_P (dC, dI) vwCl (cw_Locks cI cZ cO alk lk) s.heap := hP
  have hl := lv_entry ([.ref (alk 0), .int x1]) (n := 2) (Nat.le_of_ble_eq_true rfl)
  rw [lg_entry_eq]
  generalize (lg_sl ([.ref (alk 0), .int x1]) ++ List.replicate (2 - (lg_sl ([.ref (alk 0), .int x1])).length) Slot.unset).toArray = ls at hl ⊢
  have hl : lv_has ls 2 [(0, .ref (alk 0)), (1, .int x1)] := hl
  have k_0 : (0 : Int32).toInt = 0 := by decide
  have k_1 : (1 : Int32).toInt = 1 := by decide
  obtain ⟨tgt, hT⟩ : ∃ z, md_Locks_spins lk x1 = z := ⟨_, rfl⟩
  have hM := hT
  unfold md_Locks_spins at hM
  refine lv_aload_n hx hb nd_Locks_spins_0 rfl (lv_at hl 0 rfl) ?_
  refine va_get (D := (dC, dI)) (ci := 2) (v := .ref (alk 2)) (C := "CeilingRows$Locks") (T := nf_Locks) (N := 4) hx hb hts nin_Locks hown hK hP 0 rfl rfl 1 (by decide) (hts _ tw_101) (fun _ h9 => h9) rfl nd_Locks_spins_1 ?_
  refine lv_iload_n hx hb nd_Locks_spins_4 rfl (lv_at hl 1 rfl) ?_
  have b_1 : vp_in x1 4 := vp_in_iff.mpr (by omega)
  refine va_iald hx hb hK hP 2 0 rfl rfl b_1 nd_Locks_spins_5 ?_
  have f_2 := cr_rgo hR_lk.2 (x1.toNatClampNeg)
  refine lv_if_eq (tgt := 13) hx hb nd_Locks_spins_6 (by decide) (fun c_3 => ?_) (fun c_3 => ?_)
  · have c_3t := cr_eq c_3
    rw [if_pos c_3] at hM
    refine lv_iconst (v := 0) hx hb nd_Locks_spins_13 (by decide) ?_
    exact W.zret (v := (0 : Int32)) (ty := .boolean) hx hb hr (by decide) (fun t ht hW => ⟨⟨(0 : Int32), (), rfl, by rw [hT, ← hM], by rw [ht]; exact hP, va_K.moved hW.alike hK, hD⟩, hS.F ht⟩) hS.2.2 nd_Locks_spins_14
  · have c_3t := cr_ne c_3
    rw [if_neg c_3] at hM
    refine lv_iconst (v := 1) hx hb nd_Locks_spins_9 (by decide) ?_
    refine lv_goto (tgt := 14) hx hb nd_Locks_spins_10 (by decide) ?_
    exact W.zret (v := (1 : Int32)) (ty := .boolean) hx hb hr (by decide) (fun t ht hW => ⟨⟨(1 : Int32), (), rfl, by rw [hT, ← hM], by rw [ht]; exact hP, va_K.moved hW.alike hK, hD⟩, hS.F ht⟩) hS.2.2 nd_Locks_spins_14

theorem nd_Locks_lastTakenBy_0 : decode prog_3_method_3_code 0 = .ok (.bipush 8, 2) := by decide +kernel
theorem nd_Locks_lastTakenBy_2 : decode prog_3_method_3_code 2 = .ok (.istore_n 2, 1) := by decide +kernel
theorem nd_Locks_lastTakenBy_3 : decode prog_3_method_3_code 3 = .ok (.iload_n 2, 1) := by decide +kernel
theorem nd_Locks_lastTakenBy_4 : decode prog_3_method_3_code 4 = .ok (.iconst 1, 1) := by decide +kernel
theorem nd_Locks_lastTakenBy_5 : decode prog_3_method_3_code 5 = .ok (.if_icmp .lt (21), 3) := by decide +kernel
theorem nd_Locks_lastTakenBy_8 : decode prog_3_method_3_code 8 = .ok (.aload_n 0, 1) := by decide +kernel
theorem nd_Locks_lastTakenBy_9 : decode prog_3_method_3_code 9 = .ok (.getfield 9, 3) := by decide +kernel
theorem nd_Locks_lastTakenBy_12 : decode prog_3_method_3_code 12 = .ok (.iload_n 2, 1) := by decide +kernel
theorem nd_Locks_lastTakenBy_13 : decode prog_3_method_3_code 13 = .ok (.iaload, 1) := by decide +kernel
theorem nd_Locks_lastTakenBy_14 : decode prog_3_method_3_code 14 = .ok (.iload_n 1, 1) := by decide +kernel
theorem nd_Locks_lastTakenBy_15 : decode prog_3_method_3_code 15 = .ok (.if_icmp .ne (5), 3) := by decide +kernel
theorem nd_Locks_lastTakenBy_18 : decode prog_3_method_3_code 18 = .ok (.iload_n 2, 1) := by decide +kernel
theorem nd_Locks_lastTakenBy_19 : decode prog_3_method_3_code 19 = .ok (.ireturn, 1) := by decide +kernel
theorem nd_Locks_lastTakenBy_20 : decode prog_3_method_3_code 20 = .ok (.iinc 2 (-1), 3) := by decide +kernel
theorem nd_Locks_lastTakenBy_23 : decode prog_3_method_3_code 23 = .ok (.goto (-20), 3) := by decide +kernel
theorem nd_Locks_lastTakenBy_26 : decode prog_3_method_3_code 26 = .ok (.iconst 0, 1) := by decide +kernel
theorem nd_Locks_lastTakenBy_27 : decode prog_3_method_3_code 27 = .ok (.ireturn, 1) := by decide +kernel
def lo_Locks_lastTakenBy_3 (lk : cr_S) (x1 : Int32) : Nat → Int32 → Int32
  | 0, _ => 0
  | n_3 + 1, v2_3 =>
    (if v2_3 < (1 : Int32) then (0 : Int32) else (if (lk 1 v2_3.toNatClampNeg) = x1 then v2_3 else (lo_Locks_lastTakenBy_3 lk x1 n_3 (v2_3 + (-1 : Int32)))))
def md_Locks_lastTakenBy (lk : cr_S) (x1 : Int32) : Int32 :=
  (lo_Locks_lastTakenBy_3 lk x1 9 (8 : Int32))
abbrev pq_Locks_lastTakenBy (dC : Nat → ClassId) (dI : Nat → Nat → Nat) (cI cZ cO : ClassId) (alk : Nat → Nat) (lk : cr_S) (x1 : Int32) (A : Nat → Prop) : Array Value → State → Outcome → State → Prop :=
  va_Qi (fun (r : Int32) (_ : Unit) => r = md_Locks_lastTakenBy lk x1 ∧ (0 ≤ r.toInt ∧ r.toInt ≤ 8)) (fun (_ : Unit) t => va_P (dC, dI) vwCl (cw_Locks cI cZ cO alk lk) t.heap ∧ va_K (dC, dI) vwCl [(cI, .int), (cZ, .boolean), (cO, .array .int)] t ∧ va_D A (cw_Locks cI cZ cO alk lk)) A
set_option maxHeartbeats 4000000 in
set_option maxRecDepth 100000 in
theorem ct_Locks_lastTakenBy (l : Launch) (dC : Nat → ClassId) (dI : Nat → Nat → Nat) (cI cZ cO : ClassId) (alk : Nat → Nat) (sz : Nat) (lk : cr_S) (x1 : Int32) (hR_lk : cr_RLocks lk) : Met l ny_Locks_lastTakenBy nw_Locks_lastTakenBy ({ frames := 0, cells := 0, slots := 0, locals := 0 } : Room) (va_Pc [.ref (alk 0), .int x1] (fun U => U.heap.size = sz ∧ va_P (dC, dI) vwCl (cw_Locks cI cZ cO alk lk) U.heap ∧ va_K (dC, dI) vwCl [(cI, .int), (cZ, .boolean), (cO, .array .int)] U ∧ va_D (fun _ => True) (cw_Locks cI cZ cO alk lk))) (pq_Locks_lastTakenBy dC dI cI cZ cO alk lk x1 (va_A (cw_Locks cI cZ cO alk lk) sz)) 0 0 (va_A (cw_Locks cI cZ cO alk lk) sz) := by
  refine Met.ofW (cc := prog_3_method_3_code) (maxL := 3) (ret := (some .int)) (by decide) rfl ?_
  intro p e s m args below meth c s₁ B hml hv
  obtain ⟨rfl, hsz, hP, hK, hD0⟩ := hv
  have hx := B.exec
  have hb := B.bytes
  have hr := B.returns
  have hts0 := atoms_spec (ws := nw_Locks_lastTakenBy) B.pre
  have hts : ∀ w ∈ ng_tbl, w.before ([.ref (alk 0), .int x1] : List Value).toArray s = true := fun w h => hts0 w (List.mem_cons_of_mem _ h)
  have hown : s.vm.findClass "CeilingRows$Locks" = some m.cls := findClass_of_methodNamed B.named
  have hlocks := B.notSynchronized
  subst hsz
  have hD := hD0.self (sz := s.heap.size)
  generalize hAe : va_A (cw_Locks cI cZ cO alk lk) s.heap.size = A at hD ⊢
  have hA : ∀ q : Nat, s.heap.size ≤ q → A q := fun q h => by rw [← hAe]; exact Or.inr h
  have hS : va_S A s.heap s.heap [] := va_S.rf
  have hP : va_P (dC, dI) vwCl (cw_Locks cI cZ cO alk lk) s.heap := hP
  have hl := lv_entry ([.ref (alk 0), .int x1]) (n := 3) (Nat.le_of_ble_eq_true rfl)
  rw [lg_entry_eq]
  generalize (lg_sl ([.ref (alk 0), .int x1]) ++ List.replicate (3 - (lg_sl ([.ref (alk 0), .int x1])).length) Slot.unset).toArray = ls at hl ⊢
  have hl : lv_has ls 3 [(0, .ref (alk 0)), (1, .int x1)] := hl
  have k_m1 : (-1 : Int32).toInt = -1 := by decide
  have k_0 : (0 : Int32).toInt = 0 := by decide
  have k_1 : (1 : Int32).toInt = 1 := by decide
  have k_8 : (8 : Int32).toInt = 8 := by decide
  obtain ⟨tgt, hT⟩ : ∃ z, md_Locks_lastTakenBy lk x1 = z := ⟨_, rfl⟩
  have hM := hT
  unfold md_Locks_lastTakenBy at hM
  refine lv_bipush (v := 8) hx hb nd_Locks_lastTakenBy_0 (by decide) ?_
  refine lv_istore_n (lv' := [(2, .int (8 : Int32)), (0, .ref (alk 0)), (1, .int x1)]) hx hb nd_Locks_lastTakenBy_2 rfl hl (by decide) rfl (fun ls hl => ?_)
  have hl := lv_sub hl [1, 2, 0] rfl
  have lp_3 : ∀ (n_3 : Nat) (v2_3 : Int32), (0 ≤ v2_3.toInt ∧ v2_3.toInt ≤ 8) → (v2_3.toInt < (n_3 : Int)) → lo_Locks_lastTakenBy_3 lk x1 n_3 v2_3 = tgt → ∀ (H : Heap) (locs : List Loc), va_P (dC, dI) vwCl (cw_Locks cI cZ cO alk lk) H → va_D A (cw_Locks cI cZ cO alk lk) → va_S A s.heap H locs → ∀ ls : Array Slot, lv_has ls 3 [(0, .ref (alk 0)), (1, .int x1), (2, .int v2_3)] → W p l e (headSpec nw_Locks_lastTakenBy ({ frames := 0, cells := 0, slots := 0, locals := 0 } : Room)).room s m ([.ref (alk 0), .int x1] : List Value).toArray below meth c H locs 0 0 (MQ below (pq_Locks_lastTakenBy dC dI cI cZ cO alk lk x1 A) ([.ref (alk 0), .int x1] : List Value).toArray s 0 0 A) (F0 m 3 ls []) := by
    intro n_3
    induction n_3 with
    | zero =>
      intro v2_3 hv2_3 hn_3
      exfalso; omega
    | succ n_3 ih_3 =>
      intro v2_3 hv2_3 hn_3 hM H locs hP hD hS ls hl
      have hn_3 : v2_3.toInt < ((n_3 : Int) + 1) := by omega
      rw [lo_Locks_lastTakenBy_3] at hM
      refine lv_iload_n hx hb nd_Locks_lastTakenBy_3 rfl (lv_at hl 2 rfl) ?_
      refine lv_iconst (v := 1) hx hb nd_Locks_lastTakenBy_4 (by decide) ?_
      refine lv_icmp_lt (tgt := 26) hx hb nd_Locks_lastTakenBy_5 (by decide) (fun c_1 => ?_) (fun c_1 => ?_)
      · have c_1t := cr_lt c_1
        rw [if_pos c_1] at hM
        refine lv_iconst (v := 0) hx hb nd_Locks_lastTakenBy_26 (by decide) ?_
        exact W.iret (v := (0 : Int32)) hx hb hr (fun t ht hW => ⟨⟨(0 : Int32), (), rfl, ⟨by rw [hT, ← hM], by omega⟩, by rw [ht]; exact hP, va_K.moved hW.alike hK, hD⟩, hS.F ht⟩) hS.2.2 nd_Locks_lastTakenBy_27
      · have c_1t := cr_nlt c_1
        rw [if_neg c_1] at hM
        refine lv_aload_n hx hb nd_Locks_lastTakenBy_8 rfl (lv_at hl 0 rfl) ?_
        refine va_get (D := (dC, dI)) (ci := 2) (v := .ref (alk 1)) (C := "CeilingRows$Locks") (T := nf_Locks) (N := 4) hx hb hts nin_Locks hown hK hP 0 rfl rfl 0 (by decide) (hts _ tw_100) (fun _ h9 => h9) rfl nd_Locks_lastTakenBy_9 ?_
        refine lv_iload_n hx hb nd_Locks_lastTakenBy_12 rfl (lv_at hl 2 rfl) ?_
        have b_2 : vp_in v2_3 9 := vp_in_iff.mpr (by omega)
        refine va_iald hx hb hK hP 1 0 rfl rfl b_2 nd_Locks_lastTakenBy_13 ?_
        have f_3 := cr_rgo hR_lk.1 (v2_3.toNatClampNeg)
        refine lv_iload_n hx hb nd_Locks_lastTakenBy_14 rfl (lv_at hl 1 rfl) ?_
        refine lv_icmp_ne (tgt := 20) hx hb nd_Locks_lastTakenBy_15 (by decide) (fun c_4 => ?_) (fun c_4 => ?_)
        · have c_4t := cr_ne c_4
          rw [if_neg c_4] at hM
          have e_5 : (v2_3 + (-1 : Int32)).toInt = v2_3.toInt + (-1 : Int32).toInt := cr_add (by omega)
          refine lv_iinc (v := (v2_3 + (-1 : Int32))) (lv' := [(2, .int (v2_3 + (-1 : Int32))), (0, .ref (alk 0)), (1, .int x1)]) hx hb nd_Locks_lastTakenBy_20 hl (k := 2) rfl (by rfl) (by decide) rfl (fun ls hl => ?_)
          refine lv_goto (tgt := 3) hx hb nd_Locks_lastTakenBy_23 (by decide) ?_
          exact ih_3 (v2_3 + (-1 : Int32)) (by omega) (by omega) hM _ _ hP hD hS _ (lv_sub hl [1, 2, 0] rfl)
        · have c_4t := cr_eq c_4
          rw [if_pos c_4] at hM
          refine lv_iload_n hx hb nd_Locks_lastTakenBy_18 rfl (lv_at hl 2 rfl) ?_
          exact W.iret (v := v2_3) hx hb hr (fun t ht hW => ⟨⟨v2_3, (), rfl, ⟨by rw [hT, ← hM], by omega⟩, by rw [ht]; exact hP, va_K.moved hW.alike hK, hD⟩, hS.F ht⟩) hS.2.2 nd_Locks_lastTakenBy_19
  exact lp_3 9 (8 : Int32) (by omega) (by omega) hM _ _ hP hD hS _ hl

theorem nd_Locks_acquire_0 : decode prog_3_method_4_code 0 = .ok (.iload_n 2, 1) := by decide +kernel
theorem nd_Locks_acquire_1 : decode prog_3_method_4_code 1 = .ok (.aload_n 0, 1) := by decide +kernel
theorem nd_Locks_acquire_2 : decode prog_3_method_4_code 2 = .ok (.iload_n 1, 1) := by decide +kernel
theorem nd_Locks_acquire_3 : decode prog_3_method_4_code 3 = .ok (.invokevirtual 21, 3) := by decide +kernel
theorem nd_Locks_acquire_6 : decode prog_3_method_4_code 6 = .ok (.if_icmp .gt (6), 3) := by decide +kernel
theorem nd_Locks_acquire_9 : decode prog_3_method_4_code 9 = .ok (.bipush (-16), 2) := by decide +kernel
theorem nd_Locks_acquire_11 : decode prog_3_method_4_code 11 = .ok (.ireturn, 1) := by decide +kernel
theorem nd_Locks_acquire_12 : decode prog_3_method_4_code 12 = .ok (.aload_n 0, 1) := by decide +kernel
theorem nd_Locks_acquire_13 : decode prog_3_method_4_code 13 = .ok (.getfield 9, 3) := by decide +kernel
theorem nd_Locks_acquire_16 : decode prog_3_method_4_code 16 = .ok (.iload_n 2, 1) := by decide +kernel
theorem nd_Locks_acquire_17 : decode prog_3_method_4_code 17 = .ok (.iaload, 1) := by decide +kernel
theorem nd_Locks_acquire_18 : decode prog_3_method_4_code 18 = .ok (.ifCond .ne (12), 3) := by decide +kernel
theorem nd_Locks_acquire_21 : decode prog_3_method_4_code 21 = .ok (.aload_n 0, 1) := by decide +kernel
theorem nd_Locks_acquire_22 : decode prog_3_method_4_code 22 = .ok (.getfield 9, 3) := by decide +kernel
theorem nd_Locks_acquire_25 : decode prog_3_method_4_code 25 = .ok (.iload_n 2, 1) := by decide +kernel
theorem nd_Locks_acquire_26 : decode prog_3_method_4_code 26 = .ok (.iload_n 1, 1) := by decide +kernel
theorem nd_Locks_acquire_27 : decode prog_3_method_4_code 27 = .ok (.iastore, 1) := by decide +kernel
theorem nd_Locks_acquire_28 : decode prog_3_method_4_code 28 = .ok (.iconst 1, 1) := by decide +kernel
theorem nd_Locks_acquire_29 : decode prog_3_method_4_code 29 = .ok (.ireturn, 1) := by decide +kernel
theorem nd_Locks_acquire_30 : decode prog_3_method_4_code 30 = .ok (.aload_n 0, 1) := by decide +kernel
theorem nd_Locks_acquire_31 : decode prog_3_method_4_code 31 = .ok (.getfield 15, 3) := by decide +kernel
theorem nd_Locks_acquire_34 : decode prog_3_method_4_code 34 = .ok (.iload_n 1, 1) := by decide +kernel
theorem nd_Locks_acquire_35 : decode prog_3_method_4_code 35 = .ok (.iload_n 2, 1) := by decide +kernel
theorem nd_Locks_acquire_36 : decode prog_3_method_4_code 36 = .ok (.iastore, 1) := by decide +kernel
theorem nd_Locks_acquire_37 : decode prog_3_method_4_code 37 = .ok (.aload_n 0, 1) := by decide +kernel
theorem nd_Locks_acquire_38 : decode prog_3_method_4_code 38 = .ok (.dup, 1) := by decide +kernel
theorem nd_Locks_acquire_39 : decode prog_3_method_4_code 39 = .ok (.getfield 25, 3) := by decide +kernel
theorem nd_Locks_acquire_42 : decode prog_3_method_4_code 42 = .ok (.iconst 1, 1) := by decide +kernel
theorem nd_Locks_acquire_43 : decode prog_3_method_4_code 43 = .ok (.iadd, 1) := by decide +kernel
theorem nd_Locks_acquire_44 : decode prog_3_method_4_code 44 = .ok (.putfield 25, 3) := by decide +kernel
theorem nd_Locks_acquire_47 : decode prog_3_method_4_code 47 = .ok (.aload_n 0, 1) := by decide +kernel
theorem nd_Locks_acquire_48 : decode prog_3_method_4_code 48 = .ok (.getfield 18, 3) := by decide +kernel
theorem nd_Locks_acquire_51 : decode prog_3_method_4_code 51 = .ok (.iload_n 1, 1) := by decide +kernel
theorem nd_Locks_acquire_52 : decode prog_3_method_4_code 52 = .ok (.aload_n 0, 1) := by decide +kernel
theorem nd_Locks_acquire_53 : decode prog_3_method_4_code 53 = .ok (.getfield 25, 3) := by decide +kernel
theorem nd_Locks_acquire_56 : decode prog_3_method_4_code 56 = .ok (.iastore, 1) := by decide +kernel
theorem nd_Locks_acquire_57 : decode prog_3_method_4_code 57 = .ok (.iconst 0, 1) := by decide +kernel
theorem nd_Locks_acquire_58 : decode prog_3_method_4_code 58 = .ok (.ireturn, 1) := by decide +kernel
def md_Locks_acquire (lk : cr_S) (x1 : Int32) (x2 : Int32) : Int32 × cr_S :=
  (if (md_Locks_lastTakenBy lk x1) < x2 then (if (lk 1 x2.toNatClampNeg) = 0 then ((1 : Int32), (cr_up lk 1 x2.toNatClampNeg x1)) else ((0 : Int32), (cr_up (cr_up (cr_up lk 2 x1.toNatClampNeg x2) 0 0 (((cr_up lk 2 x1.toNatClampNeg x2) 0 0) + (1 : Int32))) 3 x1.toNatClampNeg ((cr_up (cr_up lk 2 x1.toNatClampNeg x2) 0 0 (((cr_up lk 2 x1.toNatClampNeg x2) 0 0) + (1 : Int32))) 0 0)))) else ((-16 : Int32), lk))
abbrev pq_Locks_acquire (dC : Nat → ClassId) (dI : Nat → Nat → Nat) (cI cZ cO : ClassId) (alk : Nat → Nat) (lk : cr_S) (x1 : Int32) (x2 : Int32) (A : Nat → Prop) : Array Value → State → Outcome → State → Prop :=
  va_Qi (fun (r : Int32) (lk' : cr_S) => r = (md_Locks_acquire lk x1 x2).1 ∧ lk' = (md_Locks_acquire lk x1 x2).2 ∧ cr_RLocks lk') (fun (lk' : cr_S) t => va_P (dC, dI) vwCl (cw_Locks cI cZ cO alk lk') t.heap ∧ va_K (dC, dI) vwCl [(cI, .int), (cZ, .boolean), (cO, .array .int)] t ∧ va_D A (cw_Locks cI cZ cO alk lk')) A
set_option maxHeartbeats 4000000 in
set_option maxRecDepth 100000 in
theorem ct_Locks_acquire (l : Launch) (dC : Nat → ClassId) (dI : Nat → Nat → Nat) (cI cZ cO : ClassId) (alk : Nat → Nat) (sz : Nat) (lk : cr_S) (x1 : Int32) (x2 : Int32) (hR_lk : cr_RLocks lk) (hx1 : 1 ≤ x1.toInt ∧ x1.toInt ≤ 3) (hx2 : 1 ≤ x2.toInt ∧ x2.toInt ≤ 8) : Met l ny_Locks_acquire nw_Locks_acquire ({ frames := 1, cells := 0, slots := 0, locals := 22 } : Room) (va_Pc [.ref (alk 0), .int x1, .int x2] (fun U => U.heap.size = sz ∧ va_P (dC, dI) vwCl (cw_Locks cI cZ cO alk lk) U.heap ∧ va_K (dC, dI) vwCl [(cI, .int), (cZ, .boolean), (cO, .array .int)] U ∧ va_D (fun _ => True) (cw_Locks cI cZ cO alk lk))) (pq_Locks_acquire dC dI cI cZ cO alk lk x1 x2 (va_A (cw_Locks cI cZ cO alk lk) sz)) 0 0 (va_A (cw_Locks cI cZ cO alk lk) sz) := by
  refine Met.ofW (cc := prog_3_method_4_code) (maxL := 3) (ret := (some .int)) (by decide) rfl ?_
  intro p e s m args below meth c s₁ B hml hv
  obtain ⟨rfl, hsz, hP, hK, hD0⟩ := hv
  have hx := B.exec
  have hb := B.bytes
  have hr := B.returns
  have hts0 := atoms_spec (ws := nw_Locks_acquire) B.pre
  have hts : ∀ w ∈ ng_tbl, w.before ([.ref (alk 0), .int x1, .int x2] : List Value).toArray s = true := fun w h => hts0 w (List.mem_cons_of_mem _ h)
  have hown : s.vm.findClass "CeilingRows$Locks" = some m.cls := findClass_of_methodNamed B.named
  have hlocks := B.notSynchronized
  subst hsz
  have hD := hD0.self (sz := s.heap.size)
  generalize hAe : va_A (cw_Locks cI cZ cO alk lk) s.heap.size = A at hD ⊢
  have hA : ∀ q : Nat, s.heap.size ≤ q → A q := fun q h => by rw [← hAe]; exact Or.inr h
  have hS : va_S A s.heap s.heap [] := va_S.rf
  have hP : va_P (dC, dI) vwCl (cw_Locks cI cZ cO alk lk) s.heap := hP
  have hl := lv_entry ([.ref (alk 0), .int x1, .int x2]) (n := 3) (Nat.le_of_ble_eq_true rfl)
  rw [lg_entry_eq]
  generalize (lg_sl ([.ref (alk 0), .int x1, .int x2]) ++ List.replicate (3 - (lg_sl ([.ref (alk 0), .int x1, .int x2])).length) Slot.unset).toArray = ls at hl ⊢
  have hl : lv_has ls 3 [(0, .ref (alk 0)), (1, .int x1), (2, .int x2)] := hl
  have k_m16 : (-16 : Int32).toInt = -16 := by decide
  have k_0 : (0 : Int32).toInt = 0 := by decide
  have k_1 : (1 : Int32).toInt = 1 := by decide
  obtain ⟨tgt, hT⟩ : ∃ z, md_Locks_acquire lk x1 x2 = z := ⟨_, rfl⟩
  have hM := hT
  unfold md_Locks_acquire at hM
  refine lv_iload_n hx hb nd_Locks_acquire_0 rfl (lv_at hl 2 rfl) ?_
  refine lv_aload_n hx hb nd_Locks_acquire_1 rfl (lv_at hl 0 rfl) ?_
  refine lv_iload_n hx hb nd_Locks_acquire_2 rfl (lv_at hl 1 rfl) ?_
  have hPc := hP
  have hDc := hD
  have hFc := va_free (wc := cw_Locks cI cZ cO alk lk) hD hS hA [0, 1, 2, 3] rfl
  refine va_calli (va_runV (As := [.int x1]) (rest := [.int x2]) ⟨hx, hb, hml, hown, hts⟩ (ct_Locks_lastTakenBy l dC dI cI cZ cO alk s.heap.size lk x1 hR_lk) (cwV 1 hts (ng_V tw_316 tw_318 tp_8 tw_4 tw_319) rfl rfl rfl (by decide +kernel) ⟨Nat.le_of_ble_eq_true rfl, Nat.le_of_ble_eq_true rfl⟩) ⟨fun a U g mk q => by obtain ⟨q0, q1, qP, qK, qD⟩ := q; exact ⟨q0, q1, qP, va_K.moved (u := U) (U := U.calling g mk a) (Vm.Alike.refl U.vm) qK, qD⟩, va_recv hK hPc (ci := 2) (q0 := 0) rfl rfl, fun U hU hW => ⟨rfl, by rw [hU], by rw [hU]; exact hPc, va_K.moved hW.alike hK, hDc.weaken (fun _ _ _ _ => trivial)⟩⟩ rfl rfl hl.1 rfl (lv_room (Nat.le_of_ble_eq_true rfl)) nd_Locks_acquire_3 ⟨Nat.zero_le _, Nat.zero_le _⟩) hS (fun q _ h => hFc q h) hFc (fun r_1 u t H1 locs ht hvm hw hB hz1 hk1 hS => ?_)
  obtain ⟨hP1, hK1, hD1⟩ := hB
  rw [ht] at hP1
  obtain ⟨w_2, f_3⟩ := hw
  try rw [← w_2] at hM
  have hP := hP1
  have hD := cr_Dw hD1 hFc
  generalize H1 = H at hP hS ⊢
  refine lv_icmp_gt (tgt := 12) hx hb nd_Locks_acquire_6 (by decide) (fun c_4 => ?_) (fun c_4 => ?_)
  · have c_4t := cr_lt c_4
    rw [if_pos c_4] at hM
    refine lv_aload_n hx hb nd_Locks_acquire_12 rfl (lv_at hl 0 rfl) ?_
    refine va_get (D := (dC, dI)) (ci := 2) (v := .ref (alk 1)) (C := "CeilingRows$Locks") (T := nf_Locks) (N := 4) hx hb hts nin_Locks hown hK hP 0 rfl rfl 0 (by decide) (hts _ tw_100) (fun _ h9 => h9) rfl nd_Locks_acquire_13 ?_
    refine lv_iload_n hx hb nd_Locks_acquire_16 rfl (lv_at hl 2 rfl) ?_
    have b_5 : vp_in x2 9 := vp_in_iff.mpr (by omega)
    refine va_iald hx hb hK hP 1 0 rfl rfl b_5 nd_Locks_acquire_17 ?_
    have f_6 := cr_rgo hR_lk.1 (x2.toNatClampNeg)
    refine lv_if_ne (tgt := 30) hx hb nd_Locks_acquire_18 (by decide) (fun c_7 => ?_) (fun c_7 => ?_)
    · have c_7t := cr_ne c_7
      rw [if_neg c_7] at hM
      refine lv_aload_n hx hb nd_Locks_acquire_30 rfl (lv_at hl 0 rfl) ?_
      refine va_get (D := (dC, dI)) (ci := 2) (v := .ref (alk 2)) (C := "CeilingRows$Locks") (T := nf_Locks) (N := 4) hx hb hts nin_Locks hown hK hP 0 rfl rfl 1 (by decide) (hts _ tw_101) (fun _ h9 => h9) rfl nd_Locks_acquire_31 ?_
      refine lv_iload_n hx hb nd_Locks_acquire_34 rfl (lv_at hl 1 rfl) ?_
      refine lv_iload_n hx hb nd_Locks_acquire_35 rfl (lv_at hl 2 rfl) ?_
      have b_8 : vp_in x1 4 := vp_in_iff.mpr (by omega)
      refine va_iast hx hb hK hP hD hS 2 0 rfl rfl b_8 nd_Locks_acquire_36 (fun H locs hP hD hS => ?_)
      have hP : va_P (dC, dI) vwCl (cw_Locks cI cZ cO alk (cr_up lk 2 x1.toNatClampNeg x2)) H := hP
      have hD : va_D A (cw_Locks cI cZ cO alk (cr_up lk 2 x1.toNatClampNeg x2)) := hD
      have hR_9 : cr_RLocks (cr_up lk 2 x1.toNatClampNeg x2) := ⟨cr_rg_up hR_lk.1 (fun e => absurd e (by decide)), cr_rg_up hR_lk.2 (fun _ => by omega)⟩
      obtain ⟨lkq_10, hlkq_10⟩ : ∃ z, (cr_up lk 2 x1.toNatClampNeg x2) = z := ⟨_, rfl⟩
      rw [hlkq_10] at hP hD hR_9
      try rw [hlkq_10] at hM
      refine lv_aload_n hx hb nd_Locks_acquire_37 rfl (lv_at hl 0 rfl) ?_
      refine lv_dup hx hb nd_Locks_acquire_38 rfl ?_
      refine va_get (D := (dC, dI)) (ci := 2) (v := .int (lkq_10 0 0)) (C := "CeilingRows$Locks") (T := nf_Locks) (N := 4) hx hb hts nin_Locks hown hK hP 0 rfl rfl 3 (by decide) (hts _ tw_103) (fun _ h9 => h9) rfl nd_Locks_acquire_39 ?_
      refine lv_iconst (v := 1) hx hb nd_Locks_acquire_42 (by decide) ?_
      refine lv_iadd hx hb nd_Locks_acquire_43 ?_
      refine va_put (D := (dC, dI)) (ci := 2) (v := .int ((lkq_10 0 0) + (1 : Int32))) (ty := .int) (C := "CeilingRows$Locks") (T := nf_Locks) (N := 4) hx hb hts nin_Locks nt_Locks nto_Locks nno_Locks hown hK hP hD hS 0 rfl rfl 3 (by decide) (hts _ tw_103) (fun _ h9 => h9) rfl (by decide +kernel) rfl rfl (Nat.le_of_ble_eq_true rfl) nd_Locks_acquire_44 (fun H locs hP hD hS => ?_)
      have hP : va_P (dC, dI) vwCl (cw_Locks cI cZ cO alk (cr_up lkq_10 0 0 ((lkq_10 0 0) + (1 : Int32)))) H := hP
      have hD : va_D A (cw_Locks cI cZ cO alk (cr_up lkq_10 0 0 ((lkq_10 0 0) + (1 : Int32)))) := hD
      have hR_11 : cr_RLocks (cr_up lkq_10 0 0 ((lkq_10 0 0) + (1 : Int32))) := ⟨cr_rg_up hR_9.1 (fun e => absurd e (by decide)), cr_rg_up hR_9.2 (fun e => absurd e (by decide))⟩
      obtain ⟨lkq_12, hlkq_12⟩ : ∃ z, (cr_up lkq_10 0 0 ((lkq_10 0 0) + (1 : Int32))) = z := ⟨_, rfl⟩
      rw [hlkq_12] at hP hD hR_11
      try rw [hlkq_12] at hM
      refine lv_aload_n hx hb nd_Locks_acquire_47 rfl (lv_at hl 0 rfl) ?_
      refine va_get (D := (dC, dI)) (ci := 2) (v := .ref (alk 3)) (C := "CeilingRows$Locks") (T := nf_Locks) (N := 4) hx hb hts nin_Locks hown hK hP 0 rfl rfl 2 (by decide) (hts _ tw_102) (fun _ h9 => h9) rfl nd_Locks_acquire_48 ?_
      refine lv_iload_n hx hb nd_Locks_acquire_51 rfl (lv_at hl 1 rfl) ?_
      refine lv_aload_n hx hb nd_Locks_acquire_52 rfl (lv_at hl 0 rfl) ?_
      refine va_get (D := (dC, dI)) (ci := 2) (v := .int (lkq_12 0 0)) (C := "CeilingRows$Locks") (T := nf_Locks) (N := 4) hx hb hts nin_Locks hown hK hP 0 rfl rfl 3 (by decide) (hts _ tw_103) (fun _ h9 => h9) rfl nd_Locks_acquire_53 ?_
      have b_13 : vp_in x1 4 := vp_in_iff.mpr (by omega)
      refine va_iast hx hb hK hP hD hS 3 0 rfl rfl b_13 nd_Locks_acquire_56 (fun H locs hP hD hS => ?_)
      have hP : va_P (dC, dI) vwCl (cw_Locks cI cZ cO alk (cr_up lkq_12 3 x1.toNatClampNeg (lkq_12 0 0))) H := hP
      have hD : va_D A (cw_Locks cI cZ cO alk (cr_up lkq_12 3 x1.toNatClampNeg (lkq_12 0 0))) := hD
      have hR_14 : cr_RLocks (cr_up lkq_12 3 x1.toNatClampNeg (lkq_12 0 0)) := ⟨cr_rg_up hR_11.1 (fun e => absurd e (by decide)), cr_rg_up hR_11.2 (fun e => absurd e (by decide))⟩
      obtain ⟨lkq_15, hlkq_15⟩ : ∃ z, (cr_up lkq_12 3 x1.toNatClampNeg (lkq_12 0 0)) = z := ⟨_, rfl⟩
      rw [hlkq_15] at hP hD hR_14
      try rw [hlkq_15] at hM
      refine lv_iconst (v := 0) hx hb nd_Locks_acquire_57 (by decide) ?_
      exact W.iret (v := (0 : Int32)) hx hb hr (fun t ht hW => ⟨⟨(0 : Int32), lkq_15, rfl, ⟨by rw [hT, ← hM], by rw [hT, ← hM], hR_14⟩, by rw [ht]; exact hP, va_K.moved hW.alike hK, hD⟩, hS.F ht⟩) hS.2.2 nd_Locks_acquire_58
    · have c_7t := cr_eq c_7
      rw [if_pos c_7] at hM
      refine lv_aload_n hx hb nd_Locks_acquire_21 rfl (lv_at hl 0 rfl) ?_
      refine va_get (D := (dC, dI)) (ci := 2) (v := .ref (alk 1)) (C := "CeilingRows$Locks") (T := nf_Locks) (N := 4) hx hb hts nin_Locks hown hK hP 0 rfl rfl 0 (by decide) (hts _ tw_100) (fun _ h9 => h9) rfl nd_Locks_acquire_22 ?_
      refine lv_iload_n hx hb nd_Locks_acquire_25 rfl (lv_at hl 2 rfl) ?_
      refine lv_iload_n hx hb nd_Locks_acquire_26 rfl (lv_at hl 1 rfl) ?_
      have b_16 : vp_in x2 9 := vp_in_iff.mpr (by omega)
      refine va_iast hx hb hK hP hD hS 1 0 rfl rfl b_16 nd_Locks_acquire_27 (fun H locs hP hD hS => ?_)
      have hP : va_P (dC, dI) vwCl (cw_Locks cI cZ cO alk (cr_up lk 1 x2.toNatClampNeg x1)) H := hP
      have hD : va_D A (cw_Locks cI cZ cO alk (cr_up lk 1 x2.toNatClampNeg x1)) := hD
      have hR_17 : cr_RLocks (cr_up lk 1 x2.toNatClampNeg x1) := ⟨cr_rg_up hR_lk.1 (fun _ => by omega), cr_rg_up hR_lk.2 (fun e => absurd e (by decide))⟩
      obtain ⟨lkq_18, hlkq_18⟩ : ∃ z, (cr_up lk 1 x2.toNatClampNeg x1) = z := ⟨_, rfl⟩
      rw [hlkq_18] at hP hD hR_17
      try rw [hlkq_18] at hM
      refine lv_iconst (v := 1) hx hb nd_Locks_acquire_28 (by decide) ?_
      exact W.iret (v := (1 : Int32)) hx hb hr (fun t ht hW => ⟨⟨(1 : Int32), lkq_18, rfl, ⟨by rw [hT, ← hM], by rw [hT, ← hM], hR_17⟩, by rw [ht]; exact hP, va_K.moved hW.alike hK, hD⟩, hS.F ht⟩) hS.2.2 nd_Locks_acquire_29
  · have c_4t := cr_nlt c_4
    rw [if_neg c_4] at hM
    refine lv_bipush (v := -16) hx hb nd_Locks_acquire_9 (by decide) ?_
    exact W.iret (v := (-16 : Int32)) hx hb hr (fun t ht hW => ⟨⟨(-16 : Int32), lk, rfl, ⟨by rw [hT, ← hM], by rw [hT, ← hM], hR_lk⟩, by rw [ht]; exact hP, va_K.moved hW.alike hK, hD⟩, hS.F ht⟩) hS.2.2 nd_Locks_acquire_11

theorem nd_Locks_longestSpinnerFor_0 : decode prog_3_method_6_code 0 = .ok (.iconst 0, 1) := by decide +kernel
theorem nd_Locks_longestSpinnerFor_1 : decode prog_3_method_6_code 1 = .ok (.istore_n 2, 1) := by decide +kernel
theorem nd_Locks_longestSpinnerFor_2 : decode prog_3_method_6_code 2 = .ok (.iconst 1, 1) := by decide +kernel
theorem nd_Locks_longestSpinnerFor_3 : decode prog_3_method_6_code 3 = .ok (.istore_n 3, 1) := by decide +kernel
theorem nd_Locks_longestSpinnerFor_4 : decode prog_3_method_6_code 4 = .ok (.iload_n 3, 1) := by decide +kernel
theorem nd_Locks_longestSpinnerFor_5 : decode prog_3_method_6_code 5 = .ok (.iconst 3, 1) := by decide +kernel
theorem nd_Locks_longestSpinnerFor_6 : decode prog_3_method_6_code 6 = .ok (.if_icmp .gt (52), 3) := by decide +kernel
theorem nd_Locks_longestSpinnerFor_9 : decode prog_3_method_6_code 9 = .ok (.iload_n 2, 1) := by decide +kernel
theorem nd_Locks_longestSpinnerFor_10 : decode prog_3_method_6_code 10 = .ok (.ifCond .eq (18), 3) := by decide +kernel
theorem nd_Locks_longestSpinnerFor_13 : decode prog_3_method_6_code 13 = .ok (.aload_n 0, 1) := by decide +kernel
theorem nd_Locks_longestSpinnerFor_14 : decode prog_3_method_6_code 14 = .ok (.getfield 18, 3) := by decide +kernel
theorem nd_Locks_longestSpinnerFor_17 : decode prog_3_method_6_code 17 = .ok (.iload_n 3, 1) := by decide +kernel
theorem nd_Locks_longestSpinnerFor_18 : decode prog_3_method_6_code 18 = .ok (.iaload, 1) := by decide +kernel
theorem nd_Locks_longestSpinnerFor_19 : decode prog_3_method_6_code 19 = .ok (.aload_n 0, 1) := by decide +kernel
theorem nd_Locks_longestSpinnerFor_20 : decode prog_3_method_6_code 20 = .ok (.getfield 18, 3) := by decide +kernel
theorem nd_Locks_longestSpinnerFor_23 : decode prog_3_method_6_code 23 = .ok (.iload_n 2, 1) := by decide +kernel
theorem nd_Locks_longestSpinnerFor_24 : decode prog_3_method_6_code 24 = .ok (.iaload, 1) := by decide +kernel
theorem nd_Locks_longestSpinnerFor_25 : decode prog_3_method_6_code 25 = .ok (.if_icmp .ge (7), 3) := by decide +kernel
theorem nd_Locks_longestSpinnerFor_28 : decode prog_3_method_6_code 28 = .ok (.iconst 1, 1) := by decide +kernel
theorem nd_Locks_longestSpinnerFor_29 : decode prog_3_method_6_code 29 = .ok (.goto (4), 3) := by decide +kernel
theorem nd_Locks_longestSpinnerFor_32 : decode prog_3_method_6_code 32 = .ok (.iconst 0, 1) := by decide +kernel
theorem nd_Locks_longestSpinnerFor_33 : decode prog_3_method_6_code 33 = .ok (.istore 4, 2) := by decide +kernel
theorem nd_Locks_longestSpinnerFor_35 : decode prog_3_method_6_code 35 = .ok (.aload_n 0, 1) := by decide +kernel
theorem nd_Locks_longestSpinnerFor_36 : decode prog_3_method_6_code 36 = .ok (.getfield 15, 3) := by decide +kernel
theorem nd_Locks_longestSpinnerFor_39 : decode prog_3_method_6_code 39 = .ok (.iload_n 3, 1) := by decide +kernel
theorem nd_Locks_longestSpinnerFor_40 : decode prog_3_method_6_code 40 = .ok (.iaload, 1) := by decide +kernel
theorem nd_Locks_longestSpinnerFor_41 : decode prog_3_method_6_code 41 = .ok (.iload_n 1, 1) := by decide +kernel
theorem nd_Locks_longestSpinnerFor_42 : decode prog_3_method_6_code 42 = .ok (.if_icmp .ne (10), 3) := by decide +kernel
theorem nd_Locks_longestSpinnerFor_45 : decode prog_3_method_6_code 45 = .ok (.iload 4, 2) := by decide +kernel
theorem nd_Locks_longestSpinnerFor_47 : decode prog_3_method_6_code 47 = .ok (.ifCond .eq (5), 3) := by decide +kernel
theorem nd_Locks_longestSpinnerFor_50 : decode prog_3_method_6_code 50 = .ok (.iload_n 3, 1) := by decide +kernel
theorem nd_Locks_longestSpinnerFor_51 : decode prog_3_method_6_code 51 = .ok (.istore_n 2, 1) := by decide +kernel
theorem nd_Locks_longestSpinnerFor_52 : decode prog_3_method_6_code 52 = .ok (.iinc 3 1, 3) := by decide +kernel
theorem nd_Locks_longestSpinnerFor_55 : decode prog_3_method_6_code 55 = .ok (.goto (-51), 3) := by decide +kernel
theorem nd_Locks_longestSpinnerFor_58 : decode prog_3_method_6_code 58 = .ok (.iload_n 2, 1) := by decide +kernel
theorem nd_Locks_longestSpinnerFor_59 : decode prog_3_method_6_code 59 = .ok (.ireturn, 1) := by decide +kernel
def lo_Locks_longestSpinnerFor_4 (lk : cr_S) (x1 : Int32) : Nat → Int32 → Int32 → Int32
  | 0, _, _ => 0
  | n_4 + 1, v2_4, v3_4 =>
    (if (3 : Int32) < v3_4 then v2_4 else (if v2_4 = 0 then (if (lk 2 v3_4.toNatClampNeg) = x1 then (lo_Locks_longestSpinnerFor_4 lk x1 n_4 v3_4 (v3_4 + (1 : Int32))) else (lo_Locks_longestSpinnerFor_4 lk x1 n_4 v2_4 (v3_4 + (1 : Int32)))) else (if (lk 3 v2_4.toNatClampNeg) ≤ (lk 3 v3_4.toNatClampNeg) then (if (lk 2 v3_4.toNatClampNeg) = x1 then (lo_Locks_longestSpinnerFor_4 lk x1 n_4 v2_4 (v3_4 + (1 : Int32))) else (lo_Locks_longestSpinnerFor_4 lk x1 n_4 v2_4 (v3_4 + (1 : Int32)))) else (if (lk 2 v3_4.toNatClampNeg) = x1 then (lo_Locks_longestSpinnerFor_4 lk x1 n_4 v3_4 (v3_4 + (1 : Int32))) else (lo_Locks_longestSpinnerFor_4 lk x1 n_4 v2_4 (v3_4 + (1 : Int32)))))))
def md_Locks_longestSpinnerFor (lk : cr_S) (x1 : Int32) : Int32 :=
  (lo_Locks_longestSpinnerFor_4 lk x1 4 (0 : Int32) (1 : Int32))
abbrev pq_Locks_longestSpinnerFor (dC : Nat → ClassId) (dI : Nat → Nat → Nat) (cI cZ cO : ClassId) (alk : Nat → Nat) (lk : cr_S) (x1 : Int32) (A : Nat → Prop) : Array Value → State → Outcome → State → Prop :=
  va_Qi (fun (r : Int32) (_ : Unit) => r = md_Locks_longestSpinnerFor lk x1 ∧ (0 ≤ r.toInt ∧ r.toInt ≤ 3)) (fun (_ : Unit) t => va_P (dC, dI) vwCl (cw_Locks cI cZ cO alk lk) t.heap ∧ va_K (dC, dI) vwCl [(cI, .int), (cZ, .boolean), (cO, .array .int)] t ∧ va_D A (cw_Locks cI cZ cO alk lk)) A
set_option maxHeartbeats 4000000 in
set_option maxRecDepth 100000 in
theorem ct_Locks_longestSpinnerFor (l : Launch) (dC : Nat → ClassId) (dI : Nat → Nat → Nat) (cI cZ cO : ClassId) (alk : Nat → Nat) (sz : Nat) (lk : cr_S) (x1 : Int32) (hR_lk : cr_RLocks lk) : Met l ny_Locks_longestSpinnerFor nw_Locks_longestSpinnerFor ({ frames := 0, cells := 0, slots := 0, locals := 0 } : Room) (va_Pc [.ref (alk 0), .int x1] (fun U => U.heap.size = sz ∧ va_P (dC, dI) vwCl (cw_Locks cI cZ cO alk lk) U.heap ∧ va_K (dC, dI) vwCl [(cI, .int), (cZ, .boolean), (cO, .array .int)] U ∧ va_D (fun _ => True) (cw_Locks cI cZ cO alk lk))) (pq_Locks_longestSpinnerFor dC dI cI cZ cO alk lk x1 (va_A (cw_Locks cI cZ cO alk lk) sz)) 0 0 (va_A (cw_Locks cI cZ cO alk lk) sz) := by
  refine Met.ofW (cc := prog_3_method_6_code) (maxL := 5) (ret := (some .int)) (by decide) rfl ?_
  intro p e s m args below meth c s₁ B hml hv
  obtain ⟨rfl, hsz, hP, hK, hD0⟩ := hv
  have hx := B.exec
  have hb := B.bytes
  have hr := B.returns
  have hts0 := atoms_spec (ws := nw_Locks_longestSpinnerFor) B.pre
  have hts : ∀ w ∈ ng_tbl, w.before ([.ref (alk 0), .int x1] : List Value).toArray s = true := fun w h => hts0 w (List.mem_cons_of_mem _ h)
  have hown : s.vm.findClass "CeilingRows$Locks" = some m.cls := findClass_of_methodNamed B.named
  have hlocks := B.notSynchronized
  subst hsz
  have hD := hD0.self (sz := s.heap.size)
  generalize hAe : va_A (cw_Locks cI cZ cO alk lk) s.heap.size = A at hD ⊢
  have hA : ∀ q : Nat, s.heap.size ≤ q → A q := fun q h => by rw [← hAe]; exact Or.inr h
  have hS : va_S A s.heap s.heap [] := va_S.rf
  have hP : va_P (dC, dI) vwCl (cw_Locks cI cZ cO alk lk) s.heap := hP
  have hl := lv_entry ([.ref (alk 0), .int x1]) (n := 5) (Nat.le_of_ble_eq_true rfl)
  rw [lg_entry_eq]
  generalize (lg_sl ([.ref (alk 0), .int x1]) ++ List.replicate (5 - (lg_sl ([.ref (alk 0), .int x1])).length) Slot.unset).toArray = ls at hl ⊢
  have hl : lv_has ls 5 [(0, .ref (alk 0)), (1, .int x1)] := hl
  have k_0 : (0 : Int32).toInt = 0 := by decide
  have k_1 : (1 : Int32).toInt = 1 := by decide
  have k_3 : (3 : Int32).toInt = 3 := by decide
  obtain ⟨tgt, hT⟩ : ∃ z, md_Locks_longestSpinnerFor lk x1 = z := ⟨_, rfl⟩
  have hM := hT
  unfold md_Locks_longestSpinnerFor at hM
  refine lv_iconst (v := 0) hx hb nd_Locks_longestSpinnerFor_0 (by decide) ?_
  refine lv_istore_n (lv' := [(2, .int (0 : Int32)), (0, .ref (alk 0)), (1, .int x1)]) hx hb nd_Locks_longestSpinnerFor_1 rfl hl (by decide) rfl (fun ls hl => ?_)
  refine lv_iconst (v := 1) hx hb nd_Locks_longestSpinnerFor_2 (by decide) ?_
  refine lv_istore_n (lv' := [(3, .int (1 : Int32)), (2, .int (0 : Int32)), (0, .ref (alk 0)), (1, .int x1)]) hx hb nd_Locks_longestSpinnerFor_3 rfl hl (by decide) rfl (fun ls hl => ?_)
  have hl := lv_sub hl [2, 3, 1, 0] rfl
  have lp_4 : ∀ (n_4 : Nat) (v2_4 : Int32) (v3_4 : Int32), (1 ≤ v3_4.toInt ∧ v3_4.toInt ≤ 4) → (0 ≤ v2_4.toInt ∧ v2_4.toInt ≤ 3) → (4 < v3_4.toInt + (n_4 : Int)) → lo_Locks_longestSpinnerFor_4 lk x1 n_4 v2_4 v3_4 = tgt → ∀ (H : Heap) (locs : List Loc), va_P (dC, dI) vwCl (cw_Locks cI cZ cO alk lk) H → va_D A (cw_Locks cI cZ cO alk lk) → va_S A s.heap H locs → ∀ ls : Array Slot, lv_has ls 5 [(0, .ref (alk 0)), (1, .int x1), (2, .int v2_4), (3, .int v3_4)] → W p l e (headSpec nw_Locks_longestSpinnerFor ({ frames := 0, cells := 0, slots := 0, locals := 0 } : Room)).room s m ([.ref (alk 0), .int x1] : List Value).toArray below meth c H locs 0 0 (MQ below (pq_Locks_longestSpinnerFor dC dI cI cZ cO alk lk x1 A) ([.ref (alk 0), .int x1] : List Value).toArray s 0 0 A) (F0 m 4 ls []) := by
    intro n_4
    induction n_4 with
    | zero =>
      intro v2_4 v3_4 hv3_4 hv2_4 hn_4
      exfalso; omega
    | succ n_4 ih_4 =>
      intro v2_4 v3_4 hv3_4 hv2_4 hn_4 hM H locs hP hD hS ls hl
      have hn_4 : 4 < v3_4.toInt + ((n_4 : Int) + 1) := by omega
      rw [lo_Locks_longestSpinnerFor_4] at hM
      refine lv_iload_n hx hb nd_Locks_longestSpinnerFor_4 rfl (lv_at hl 3 rfl) ?_
      refine lv_iconst (v := 3) hx hb nd_Locks_longestSpinnerFor_5 (by decide) ?_
      refine lv_icmp_gt (tgt := 58) hx hb nd_Locks_longestSpinnerFor_6 (by decide) (fun c_1 => ?_) (fun c_1 => ?_)
      · have c_1t := cr_lt c_1
        rw [if_pos c_1] at hM
        refine lv_iload_n hx hb nd_Locks_longestSpinnerFor_58 rfl (lv_at hl 2 rfl) ?_
        exact W.iret (v := v2_4) hx hb hr (fun t ht hW => ⟨⟨v2_4, (), rfl, ⟨by rw [hT, ← hM], by omega⟩, by rw [ht]; exact hP, va_K.moved hW.alike hK, hD⟩, hS.F ht⟩) hS.2.2 nd_Locks_longestSpinnerFor_59
      · have c_1t := cr_nlt c_1
        rw [if_neg c_1] at hM
        refine lv_iload_n hx hb nd_Locks_longestSpinnerFor_9 rfl (lv_at hl 2 rfl) ?_
        refine lv_if_eq (tgt := 28) hx hb nd_Locks_longestSpinnerFor_10 (by decide) (fun c_2 => ?_) (fun c_2 => ?_)
        · have c_2t := cr_eq c_2
          rw [if_pos c_2] at hM
          refine lv_iconst (v := 1) hx hb nd_Locks_longestSpinnerFor_28 (by decide) ?_
          refine lv_goto (tgt := 33) hx hb nd_Locks_longestSpinnerFor_29 (by decide) ?_
          refine lv_istore (lv' := [(4, .int (1 : Int32)), (0, .ref (alk 0)), (1, .int x1), (2, .int v2_4), (3, .int v3_4)]) hx hb nd_Locks_longestSpinnerFor_33 hl (by decide) rfl (fun ls hl => ?_)
          refine lv_aload_n hx hb nd_Locks_longestSpinnerFor_35 rfl (lv_at hl 1 rfl) ?_
          refine va_get (D := (dC, dI)) (ci := 2) (v := .ref (alk 2)) (C := "CeilingRows$Locks") (T := nf_Locks) (N := 4) hx hb hts nin_Locks hown hK hP 0 rfl rfl 1 (by decide) (hts _ tw_101) (fun _ h9 => h9) rfl nd_Locks_longestSpinnerFor_36 ?_
          refine lv_iload_n hx hb nd_Locks_longestSpinnerFor_39 rfl (lv_at hl 4 rfl) ?_
          have b_3 : vp_in v3_4 4 := vp_in_iff.mpr (by omega)
          refine va_iald hx hb hK hP 2 0 rfl rfl b_3 nd_Locks_longestSpinnerFor_40 ?_
          have f_4 := cr_rgo hR_lk.2 (v3_4.toNatClampNeg)
          refine lv_iload_n hx hb nd_Locks_longestSpinnerFor_41 rfl (lv_at hl 2 rfl) ?_
          refine lv_icmp_ne (tgt := 52) hx hb nd_Locks_longestSpinnerFor_42 (by decide) (fun c_5 => ?_) (fun c_5 => ?_)
          · have c_5t := cr_ne c_5
            rw [if_neg c_5] at hM
            have e_6 : (v3_4 + (1 : Int32)).toInt = v3_4.toInt + (1 : Int32).toInt := cr_add (by omega)
            refine lv_iinc (v := (v3_4 + (1 : Int32))) (lv' := [(3, .int (v3_4 + (1 : Int32))), (4, .int (1 : Int32)), (0, .ref (alk 0)), (1, .int x1), (2, .int v2_4)]) hx hb nd_Locks_longestSpinnerFor_52 hl (k := 4) rfl (by rfl) (by decide) rfl (fun ls hl => ?_)
            refine lv_goto (tgt := 4) hx hb nd_Locks_longestSpinnerFor_55 (by decide) ?_
            exact ih_4 v2_4 (v3_4 + (1 : Int32)) (by omega) (by omega) (by omega) hM _ _ hP hD hS _ (lv_sub hl [2, 3, 4, 0] rfl)
          · have c_5t := cr_eq c_5
            rw [if_pos c_5] at hM
            refine lv_iload hx hb nd_Locks_longestSpinnerFor_45 (lv_at hl 0 rfl) ?_
            refine lv_if_eq (tgt := 52) hx hb nd_Locks_longestSpinnerFor_47 (by decide) (fun c_7 => ?_) (fun c_7 => ?_)
            · exact absurd c_7 (by decide)
            · refine lv_iload_n hx hb nd_Locks_longestSpinnerFor_50 rfl (lv_at hl 4 rfl) ?_
              refine lv_istore_n (lv' := [(2, .int v3_4), (4, .int (1 : Int32)), (0, .ref (alk 0)), (1, .int x1), (3, .int v3_4)]) hx hb nd_Locks_longestSpinnerFor_51 rfl hl (by decide) rfl (fun ls hl => ?_)
              have e_8 : (v3_4 + (1 : Int32)).toInt = v3_4.toInt + (1 : Int32).toInt := cr_add (by omega)
              refine lv_iinc (v := (v3_4 + (1 : Int32))) (lv' := [(3, .int (v3_4 + (1 : Int32))), (2, .int v3_4), (4, .int (1 : Int32)), (0, .ref (alk 0)), (1, .int x1)]) hx hb nd_Locks_longestSpinnerFor_52 hl (k := 4) rfl (by rfl) (by decide) rfl (fun ls hl => ?_)
              refine lv_goto (tgt := 4) hx hb nd_Locks_longestSpinnerFor_55 (by decide) ?_
              exact ih_4 v3_4 (v3_4 + (1 : Int32)) (by omega) (by omega) (by omega) hM _ _ hP hD hS _ (lv_sub hl [3, 4, 1, 0] rfl)
        · have c_2t := cr_ne c_2
          rw [if_neg c_2] at hM
          refine lv_aload_n hx hb nd_Locks_longestSpinnerFor_13 rfl (lv_at hl 0 rfl) ?_
          refine va_get (D := (dC, dI)) (ci := 2) (v := .ref (alk 3)) (C := "CeilingRows$Locks") (T := nf_Locks) (N := 4) hx hb hts nin_Locks hown hK hP 0 rfl rfl 2 (by decide) (hts _ tw_102) (fun _ h9 => h9) rfl nd_Locks_longestSpinnerFor_14 ?_
          refine lv_iload_n hx hb nd_Locks_longestSpinnerFor_17 rfl (lv_at hl 3 rfl) ?_
          have b_9 : vp_in v3_4 4 := vp_in_iff.mpr (by omega)
          refine va_iald hx hb hK hP 3 0 rfl rfl b_9 nd_Locks_longestSpinnerFor_18 ?_
          refine lv_aload_n hx hb nd_Locks_longestSpinnerFor_19 rfl (lv_at hl 0 rfl) ?_
          refine va_get (D := (dC, dI)) (ci := 2) (v := .ref (alk 3)) (C := "CeilingRows$Locks") (T := nf_Locks) (N := 4) hx hb hts nin_Locks hown hK hP 0 rfl rfl 2 (by decide) (hts _ tw_102) (fun _ h9 => h9) rfl nd_Locks_longestSpinnerFor_20 ?_
          refine lv_iload_n hx hb nd_Locks_longestSpinnerFor_23 rfl (lv_at hl 2 rfl) ?_
          have b_10 : vp_in v2_4 4 := vp_in_iff.mpr (by omega)
          refine va_iald hx hb hK hP 3 0 rfl rfl b_10 nd_Locks_longestSpinnerFor_24 ?_
          refine lv_icmp_ge (tgt := 32) hx hb nd_Locks_longestSpinnerFor_25 (by decide) (fun c_11 => ?_) (fun c_11 => ?_)
          · have c_11t := cr_le c_11
            rw [if_pos c_11] at hM
            refine lv_iconst (v := 0) hx hb nd_Locks_longestSpinnerFor_32 (by decide) ?_
            refine lv_istore (lv' := [(4, .int (0 : Int32)), (0, .ref (alk 0)), (1, .int x1), (2, .int v2_4), (3, .int v3_4)]) hx hb nd_Locks_longestSpinnerFor_33 hl (by decide) rfl (fun ls hl => ?_)
            refine lv_aload_n hx hb nd_Locks_longestSpinnerFor_35 rfl (lv_at hl 1 rfl) ?_
            refine va_get (D := (dC, dI)) (ci := 2) (v := .ref (alk 2)) (C := "CeilingRows$Locks") (T := nf_Locks) (N := 4) hx hb hts nin_Locks hown hK hP 0 rfl rfl 1 (by decide) (hts _ tw_101) (fun _ h9 => h9) rfl nd_Locks_longestSpinnerFor_36 ?_
            refine lv_iload_n hx hb nd_Locks_longestSpinnerFor_39 rfl (lv_at hl 4 rfl) ?_
            have b_12 : vp_in v3_4 4 := vp_in_iff.mpr (by omega)
            refine va_iald hx hb hK hP 2 0 rfl rfl b_12 nd_Locks_longestSpinnerFor_40 ?_
            have f_13 := cr_rgo hR_lk.2 (v3_4.toNatClampNeg)
            refine lv_iload_n hx hb nd_Locks_longestSpinnerFor_41 rfl (lv_at hl 2 rfl) ?_
            refine lv_icmp_ne (tgt := 52) hx hb nd_Locks_longestSpinnerFor_42 (by decide) (fun c_14 => ?_) (fun c_14 => ?_)
            · have c_14t := cr_ne c_14
              rw [if_neg c_14] at hM
              have e_15 : (v3_4 + (1 : Int32)).toInt = v3_4.toInt + (1 : Int32).toInt := cr_add (by omega)
              refine lv_iinc (v := (v3_4 + (1 : Int32))) (lv' := [(3, .int (v3_4 + (1 : Int32))), (4, .int (0 : Int32)), (0, .ref (alk 0)), (1, .int x1), (2, .int v2_4)]) hx hb nd_Locks_longestSpinnerFor_52 hl (k := 4) rfl (by rfl) (by decide) rfl (fun ls hl => ?_)
              refine lv_goto (tgt := 4) hx hb nd_Locks_longestSpinnerFor_55 (by decide) ?_
              exact ih_4 v2_4 (v3_4 + (1 : Int32)) (by omega) (by omega) (by omega) hM _ _ hP hD hS _ (lv_sub hl [2, 3, 4, 0] rfl)
            · have c_14t := cr_eq c_14
              rw [if_pos c_14] at hM
              refine lv_iload hx hb nd_Locks_longestSpinnerFor_45 (lv_at hl 0 rfl) ?_
              refine lv_if_eq (tgt := 52) hx hb nd_Locks_longestSpinnerFor_47 (by decide) (fun c_16 => ?_) (fun c_16 => ?_)
              · have e_17 : (v3_4 + (1 : Int32)).toInt = v3_4.toInt + (1 : Int32).toInt := cr_add (by omega)
                refine lv_iinc (v := (v3_4 + (1 : Int32))) (lv' := [(3, .int (v3_4 + (1 : Int32))), (4, .int (0 : Int32)), (0, .ref (alk 0)), (1, .int x1), (2, .int v2_4)]) hx hb nd_Locks_longestSpinnerFor_52 hl (k := 4) rfl (by rfl) (by decide) rfl (fun ls hl => ?_)
                refine lv_goto (tgt := 4) hx hb nd_Locks_longestSpinnerFor_55 (by decide) ?_
                exact ih_4 v2_4 (v3_4 + (1 : Int32)) (by omega) (by omega) (by omega) hM _ _ hP hD hS _ (lv_sub hl [2, 3, 4, 0] rfl)
              · exact absurd c_16 (by decide)
          · have c_11t := cr_nle c_11
            rw [if_neg c_11] at hM
            refine lv_iconst (v := 1) hx hb nd_Locks_longestSpinnerFor_28 (by decide) ?_
            refine lv_goto (tgt := 33) hx hb nd_Locks_longestSpinnerFor_29 (by decide) ?_
            refine lv_istore (lv' := [(4, .int (1 : Int32)), (0, .ref (alk 0)), (1, .int x1), (2, .int v2_4), (3, .int v3_4)]) hx hb nd_Locks_longestSpinnerFor_33 hl (by decide) rfl (fun ls hl => ?_)
            refine lv_aload_n hx hb nd_Locks_longestSpinnerFor_35 rfl (lv_at hl 1 rfl) ?_
            refine va_get (D := (dC, dI)) (ci := 2) (v := .ref (alk 2)) (C := "CeilingRows$Locks") (T := nf_Locks) (N := 4) hx hb hts nin_Locks hown hK hP 0 rfl rfl 1 (by decide) (hts _ tw_101) (fun _ h9 => h9) rfl nd_Locks_longestSpinnerFor_36 ?_
            refine lv_iload_n hx hb nd_Locks_longestSpinnerFor_39 rfl (lv_at hl 4 rfl) ?_
            have b_18 : vp_in v3_4 4 := vp_in_iff.mpr (by omega)
            refine va_iald hx hb hK hP 2 0 rfl rfl b_18 nd_Locks_longestSpinnerFor_40 ?_
            have f_19 := cr_rgo hR_lk.2 (v3_4.toNatClampNeg)
            refine lv_iload_n hx hb nd_Locks_longestSpinnerFor_41 rfl (lv_at hl 2 rfl) ?_
            refine lv_icmp_ne (tgt := 52) hx hb nd_Locks_longestSpinnerFor_42 (by decide) (fun c_20 => ?_) (fun c_20 => ?_)
            · have c_20t := cr_ne c_20
              rw [if_neg c_20] at hM
              have e_21 : (v3_4 + (1 : Int32)).toInt = v3_4.toInt + (1 : Int32).toInt := cr_add (by omega)
              refine lv_iinc (v := (v3_4 + (1 : Int32))) (lv' := [(3, .int (v3_4 + (1 : Int32))), (4, .int (1 : Int32)), (0, .ref (alk 0)), (1, .int x1), (2, .int v2_4)]) hx hb nd_Locks_longestSpinnerFor_52 hl (k := 4) rfl (by rfl) (by decide) rfl (fun ls hl => ?_)
              refine lv_goto (tgt := 4) hx hb nd_Locks_longestSpinnerFor_55 (by decide) ?_
              exact ih_4 v2_4 (v3_4 + (1 : Int32)) (by omega) (by omega) (by omega) hM _ _ hP hD hS _ (lv_sub hl [2, 3, 4, 0] rfl)
            · have c_20t := cr_eq c_20
              rw [if_pos c_20] at hM
              refine lv_iload hx hb nd_Locks_longestSpinnerFor_45 (lv_at hl 0 rfl) ?_
              refine lv_if_eq (tgt := 52) hx hb nd_Locks_longestSpinnerFor_47 (by decide) (fun c_22 => ?_) (fun c_22 => ?_)
              · exact absurd c_22 (by decide)
              · refine lv_iload_n hx hb nd_Locks_longestSpinnerFor_50 rfl (lv_at hl 4 rfl) ?_
                refine lv_istore_n (lv' := [(2, .int v3_4), (4, .int (1 : Int32)), (0, .ref (alk 0)), (1, .int x1), (3, .int v3_4)]) hx hb nd_Locks_longestSpinnerFor_51 rfl hl (by decide) rfl (fun ls hl => ?_)
                have e_23 : (v3_4 + (1 : Int32)).toInt = v3_4.toInt + (1 : Int32).toInt := cr_add (by omega)
                refine lv_iinc (v := (v3_4 + (1 : Int32))) (lv' := [(3, .int (v3_4 + (1 : Int32))), (2, .int v3_4), (4, .int (1 : Int32)), (0, .ref (alk 0)), (1, .int x1)]) hx hb nd_Locks_longestSpinnerFor_52 hl (k := 4) rfl (by rfl) (by decide) rfl (fun ls hl => ?_)
                refine lv_goto (tgt := 4) hx hb nd_Locks_longestSpinnerFor_55 (by decide) ?_
                exact ih_4 v3_4 (v3_4 + (1 : Int32)) (by omega) (by omega) (by omega) hM _ _ hP hD hS _ (lv_sub hl [3, 4, 1, 0] rfl)
  exact lp_4 4 (0 : Int32) (1 : Int32) (by omega) (by omega) (by omega) hM _ _ hP hD hS _ hl

theorem nd_Locks_release_0 : decode prog_3_method_5_code 0 = .ok (.iload_n 2, 1) := by decide +kernel
theorem nd_Locks_release_1 : decode prog_3_method_5_code 1 = .ok (.aload_n 0, 1) := by decide +kernel
theorem nd_Locks_release_2 : decode prog_3_method_5_code 2 = .ok (.iload_n 1, 1) := by decide +kernel
theorem nd_Locks_release_3 : decode prog_3_method_5_code 3 = .ok (.invokevirtual 21, 3) := by decide +kernel
theorem nd_Locks_release_6 : decode prog_3_method_5_code 6 = .ok (.if_icmp .eq (6), 3) := by decide +kernel
theorem nd_Locks_release_9 : decode prog_3_method_5_code 9 = .ok (.bipush (-17), 2) := by decide +kernel
theorem nd_Locks_release_11 : decode prog_3_method_5_code 11 = .ok (.ireturn, 1) := by decide +kernel
theorem nd_Locks_release_12 : decode prog_3_method_5_code 12 = .ok (.aload_n 0, 1) := by decide +kernel
theorem nd_Locks_release_13 : decode prog_3_method_5_code 13 = .ok (.iload_n 2, 1) := by decide +kernel
theorem nd_Locks_release_14 : decode prog_3_method_5_code 14 = .ok (.invokevirtual 29, 3) := by decide +kernel
theorem nd_Locks_release_17 : decode prog_3_method_5_code 17 = .ok (.istore_n 3, 1) := by decide +kernel
theorem nd_Locks_release_18 : decode prog_3_method_5_code 18 = .ok (.aload_n 0, 1) := by decide +kernel
theorem nd_Locks_release_19 : decode prog_3_method_5_code 19 = .ok (.getfield 9, 3) := by decide +kernel
theorem nd_Locks_release_22 : decode prog_3_method_5_code 22 = .ok (.iload_n 2, 1) := by decide +kernel
theorem nd_Locks_release_23 : decode prog_3_method_5_code 23 = .ok (.iload_n 3, 1) := by decide +kernel
theorem nd_Locks_release_24 : decode prog_3_method_5_code 24 = .ok (.iastore, 1) := by decide +kernel
theorem nd_Locks_release_25 : decode prog_3_method_5_code 25 = .ok (.aload_n 0, 1) := by decide +kernel
theorem nd_Locks_release_26 : decode prog_3_method_5_code 26 = .ok (.getfield 15, 3) := by decide +kernel
theorem nd_Locks_release_29 : decode prog_3_method_5_code 29 = .ok (.iload_n 3, 1) := by decide +kernel
theorem nd_Locks_release_30 : decode prog_3_method_5_code 30 = .ok (.iconst 0, 1) := by decide +kernel
theorem nd_Locks_release_31 : decode prog_3_method_5_code 31 = .ok (.iastore, 1) := by decide +kernel
theorem nd_Locks_release_32 : decode prog_3_method_5_code 32 = .ok (.iconst 1, 1) := by decide +kernel
theorem nd_Locks_release_33 : decode prog_3_method_5_code 33 = .ok (.ireturn, 1) := by decide +kernel
def md_Locks_release (lk : cr_S) (x1 : Int32) (x2 : Int32) : Int32 × cr_S :=
  (if x2 = (md_Locks_lastTakenBy lk x1) then ((1 : Int32), (cr_up (cr_up lk 1 x2.toNatClampNeg (md_Locks_longestSpinnerFor lk x2)) 2 (md_Locks_longestSpinnerFor lk x2).toNatClampNeg (0 : Int32))) else ((-17 : Int32), lk))
abbrev pq_Locks_release (dC : Nat → ClassId) (dI : Nat → Nat → Nat) (cI cZ cO : ClassId) (alk : Nat → Nat) (lk : cr_S) (x1 : Int32) (x2 : Int32) (A : Nat → Prop) : Array Value → State → Outcome → State → Prop :=
  va_Qi (fun (r : Int32) (lk' : cr_S) => r = (md_Locks_release lk x1 x2).1 ∧ lk' = (md_Locks_release lk x1 x2).2 ∧ cr_RLocks lk') (fun (lk' : cr_S) t => va_P (dC, dI) vwCl (cw_Locks cI cZ cO alk lk') t.heap ∧ va_K (dC, dI) vwCl [(cI, .int), (cZ, .boolean), (cO, .array .int)] t ∧ va_D A (cw_Locks cI cZ cO alk lk')) A
set_option maxHeartbeats 4000000 in
set_option maxRecDepth 100000 in
theorem ct_Locks_release (l : Launch) (dC : Nat → ClassId) (dI : Nat → Nat → Nat) (cI cZ cO : ClassId) (alk : Nat → Nat) (sz : Nat) (lk : cr_S) (x1 : Int32) (x2 : Int32) (hR_lk : cr_RLocks lk) (hx1 : 1 ≤ x1.toInt ∧ x1.toInt ≤ 3) (hx2 : 1 ≤ x2.toInt ∧ x2.toInt ≤ 8) : Met l ny_Locks_release nw_Locks_release ({ frames := 1, cells := 0, slots := 0, locals := 24 } : Room) (va_Pc [.ref (alk 0), .int x1, .int x2] (fun U => U.heap.size = sz ∧ va_P (dC, dI) vwCl (cw_Locks cI cZ cO alk lk) U.heap ∧ va_K (dC, dI) vwCl [(cI, .int), (cZ, .boolean), (cO, .array .int)] U ∧ va_D (fun _ => True) (cw_Locks cI cZ cO alk lk))) (pq_Locks_release dC dI cI cZ cO alk lk x1 x2 (va_A (cw_Locks cI cZ cO alk lk) sz)) 0 0 (va_A (cw_Locks cI cZ cO alk lk) sz) := by
  refine Met.ofW (cc := prog_3_method_5_code) (maxL := 4) (ret := (some .int)) (by decide) rfl ?_
  intro p e s m args below meth c s₁ B hml hv
  obtain ⟨rfl, hsz, hP, hK, hD0⟩ := hv
  have hx := B.exec
  have hb := B.bytes
  have hr := B.returns
  have hts0 := atoms_spec (ws := nw_Locks_release) B.pre
  have hts : ∀ w ∈ ng_tbl, w.before ([.ref (alk 0), .int x1, .int x2] : List Value).toArray s = true := fun w h => hts0 w (List.mem_cons_of_mem _ h)
  have hown : s.vm.findClass "CeilingRows$Locks" = some m.cls := findClass_of_methodNamed B.named
  have hlocks := B.notSynchronized
  subst hsz
  have hD := hD0.self (sz := s.heap.size)
  generalize hAe : va_A (cw_Locks cI cZ cO alk lk) s.heap.size = A at hD ⊢
  have hA : ∀ q : Nat, s.heap.size ≤ q → A q := fun q h => by rw [← hAe]; exact Or.inr h
  have hS : va_S A s.heap s.heap [] := va_S.rf
  have hP : va_P (dC, dI) vwCl (cw_Locks cI cZ cO alk lk) s.heap := hP
  have hl := lv_entry ([.ref (alk 0), .int x1, .int x2]) (n := 4) (Nat.le_of_ble_eq_true rfl)
  rw [lg_entry_eq]
  generalize (lg_sl ([.ref (alk 0), .int x1, .int x2]) ++ List.replicate (4 - (lg_sl ([.ref (alk 0), .int x1, .int x2])).length) Slot.unset).toArray = ls at hl ⊢
  have hl : lv_has ls 4 [(0, .ref (alk 0)), (1, .int x1), (2, .int x2)] := hl
  have k_m17 : (-17 : Int32).toInt = -17 := by decide
  have k_0 : (0 : Int32).toInt = 0 := by decide
  have k_1 : (1 : Int32).toInt = 1 := by decide
  obtain ⟨tgt, hT⟩ : ∃ z, md_Locks_release lk x1 x2 = z := ⟨_, rfl⟩
  have hM := hT
  unfold md_Locks_release at hM
  refine lv_iload_n hx hb nd_Locks_release_0 rfl (lv_at hl 2 rfl) ?_
  refine lv_aload_n hx hb nd_Locks_release_1 rfl (lv_at hl 0 rfl) ?_
  refine lv_iload_n hx hb nd_Locks_release_2 rfl (lv_at hl 1 rfl) ?_
  have hPc := hP
  have hDc := hD
  have hFc := va_free (wc := cw_Locks cI cZ cO alk lk) hD hS hA [0, 1, 2, 3] rfl
  refine va_calli (va_runV (As := [.int x1]) (rest := [.int x2]) ⟨hx, hb, hml, hown, hts⟩ (ct_Locks_lastTakenBy l dC dI cI cZ cO alk s.heap.size lk x1 hR_lk) (cwV 1 hts (ng_V tw_316 tw_318 tp_8 tw_4 tw_319) rfl rfl rfl (by decide +kernel) ⟨Nat.le_of_ble_eq_true rfl, Nat.le_of_ble_eq_true rfl⟩) ⟨fun a U g mk q => by obtain ⟨q0, q1, qP, qK, qD⟩ := q; exact ⟨q0, q1, qP, va_K.moved (u := U) (U := U.calling g mk a) (Vm.Alike.refl U.vm) qK, qD⟩, va_recv hK hPc (ci := 2) (q0 := 0) rfl rfl, fun U hU hW => ⟨rfl, by rw [hU], by rw [hU]; exact hPc, va_K.moved hW.alike hK, hDc.weaken (fun _ _ _ _ => trivial)⟩⟩ rfl rfl hl.1 rfl (lv_room (Nat.le_of_ble_eq_true rfl)) nd_Locks_release_3 ⟨Nat.zero_le _, Nat.zero_le _⟩) hS (fun q _ h => hFc q h) hFc (fun r_1 u t H1 locs ht hvm hw hB hz1 hk1 hS => ?_)
  obtain ⟨hP1, hK1, hD1⟩ := hB
  rw [ht] at hP1
  obtain ⟨w_2, f_3⟩ := hw
  try rw [← w_2] at hM
  have hP := hP1
  have hD := cr_Dw hD1 hFc
  generalize H1 = H at hP hS ⊢
  refine lv_icmp_eq (tgt := 12) hx hb nd_Locks_release_6 (by decide) (fun c_4 => ?_) (fun c_4 => ?_)
  · have c_4t := cr_eq c_4
    rw [if_pos c_4] at hM
    refine lv_aload_n hx hb nd_Locks_release_12 rfl (lv_at hl 0 rfl) ?_
    refine lv_iload_n hx hb nd_Locks_release_13 rfl (lv_at hl 2 rfl) ?_
    have hPc := hP
    have hDc := hD
    have hFc := va_free (wc := cw_Locks cI cZ cO alk lk) hD hS hA [0, 1, 2, 3] rfl
    refine va_calli (va_runV (As := [.int x2]) (rest := []) ⟨hx, hb, hml, hown, hts⟩ (ct_Locks_longestSpinnerFor l dC dI cI cZ cO alk H.size lk x2 hR_lk) (cwV 1 hts (ng_V tw_324 tw_326 tp_9 tw_4 tw_327) rfl rfl rfl (by decide +kernel) ⟨Nat.le_of_ble_eq_true rfl, Nat.le_of_ble_eq_true rfl⟩) ⟨fun a U g mk q => by obtain ⟨q0, q1, qP, qK, qD⟩ := q; exact ⟨q0, q1, qP, va_K.moved (u := U) (U := U.calling g mk a) (Vm.Alike.refl U.vm) qK, qD⟩, va_recv hK hPc (ci := 2) (q0 := 0) rfl rfl, fun U hU hW => ⟨rfl, by rw [hU], by rw [hU]; exact hPc, va_K.moved hW.alike hK, hDc.weaken (fun _ _ _ _ => trivial)⟩⟩ rfl rfl hl.1 rfl (lv_room (Nat.le_of_ble_eq_true rfl)) nd_Locks_release_14 ⟨Nat.zero_le _, Nat.zero_le _⟩) hS (fun q _ h => hFc q h) hFc (fun r_5 u t H1 locs ht hvm hw hB hz1 hk1 hS => ?_)
    obtain ⟨hP1, hK1, hD1⟩ := hB
    rw [ht] at hP1
    obtain ⟨w_6, f_7⟩ := hw
    try rw [← w_6] at hM
    have hP := hP1
    have hD := cr_Dw hD1 hFc
    generalize H1 = H at hP hS ⊢
    refine lv_istore_n (lv' := [(3, .int r_5), (0, .ref (alk 0)), (1, .int x1), (2, .int x2)]) hx hb nd_Locks_release_17 rfl hl (by decide) rfl (fun ls hl => ?_)
    refine lv_aload_n hx hb nd_Locks_release_18 rfl (lv_at hl 1 rfl) ?_
    refine va_get (D := (dC, dI)) (ci := 2) (v := .ref (alk 1)) (C := "CeilingRows$Locks") (T := nf_Locks) (N := 4) hx hb hts nin_Locks hown hK hP 0 rfl rfl 0 (by decide) (hts _ tw_100) (fun _ h9 => h9) rfl nd_Locks_release_19 ?_
    refine lv_iload_n hx hb nd_Locks_release_22 rfl (lv_at hl 3 rfl) ?_
    refine lv_iload_n hx hb nd_Locks_release_23 rfl (lv_at hl 0 rfl) ?_
    have b_8 : vp_in x2 9 := vp_in_iff.mpr (by omega)
    refine va_iast hx hb hK hP hD hS 1 0 rfl rfl b_8 nd_Locks_release_24 (fun H locs hP hD hS => ?_)
    have hP : va_P (dC, dI) vwCl (cw_Locks cI cZ cO alk (cr_up lk 1 x2.toNatClampNeg r_5)) H := hP
    have hD : va_D A (cw_Locks cI cZ cO alk (cr_up lk 1 x2.toNatClampNeg r_5)) := hD
    have hR_9 : cr_RLocks (cr_up lk 1 x2.toNatClampNeg r_5) := ⟨cr_rg_up hR_lk.1 (fun _ => by omega), cr_rg_up hR_lk.2 (fun e => absurd e (by decide))⟩
    obtain ⟨lkq_10, hlkq_10⟩ : ∃ z, (cr_up lk 1 x2.toNatClampNeg r_5) = z := ⟨_, rfl⟩
    rw [hlkq_10] at hP hD hR_9
    try rw [hlkq_10] at hM
    refine lv_aload_n hx hb nd_Locks_release_25 rfl (lv_at hl 1 rfl) ?_
    refine va_get (D := (dC, dI)) (ci := 2) (v := .ref (alk 2)) (C := "CeilingRows$Locks") (T := nf_Locks) (N := 4) hx hb hts nin_Locks hown hK hP 0 rfl rfl 1 (by decide) (hts _ tw_101) (fun _ h9 => h9) rfl nd_Locks_release_26 ?_
    refine lv_iload_n hx hb nd_Locks_release_29 rfl (lv_at hl 0 rfl) ?_
    refine lv_iconst (v := 0) hx hb nd_Locks_release_30 (by decide) ?_
    have b_11 : vp_in r_5 4 := vp_in_iff.mpr (by omega)
    refine va_iast hx hb hK hP hD hS 2 0 rfl rfl b_11 nd_Locks_release_31 (fun H locs hP hD hS => ?_)
    have hP : va_P (dC, dI) vwCl (cw_Locks cI cZ cO alk (cr_up lkq_10 2 r_5.toNatClampNeg (0 : Int32))) H := hP
    have hD : va_D A (cw_Locks cI cZ cO alk (cr_up lkq_10 2 r_5.toNatClampNeg (0 : Int32))) := hD
    have hR_12 : cr_RLocks (cr_up lkq_10 2 r_5.toNatClampNeg (0 : Int32)) := ⟨cr_rg_up hR_9.1 (fun e => absurd e (by decide)), cr_rg_up hR_9.2 (fun _ => by omega)⟩
    obtain ⟨lkq_13, hlkq_13⟩ : ∃ z, (cr_up lkq_10 2 r_5.toNatClampNeg (0 : Int32)) = z := ⟨_, rfl⟩
    rw [hlkq_13] at hP hD hR_12
    try rw [hlkq_13] at hM
    refine lv_iconst (v := 1) hx hb nd_Locks_release_32 (by decide) ?_
    exact W.iret (v := (1 : Int32)) hx hb hr (fun t ht hW => ⟨⟨(1 : Int32), lkq_13, rfl, ⟨by rw [hT, ← hM], by rw [hT, ← hM], hR_12⟩, by rw [ht]; exact hP, va_K.moved hW.alike hK, hD⟩, hS.F ht⟩) hS.2.2 nd_Locks_release_33
  · have c_4t := cr_ne c_4
    rw [if_neg c_4] at hM
    refine lv_bipush (v := -17) hx hb nd_Locks_release_9 (by decide) ?_
    exact W.iret (v := (-17 : Int32)) hx hb hr (fun t ht hW => ⟨⟨(-17 : Int32), lk, rfl, ⟨by rw [hT, ← hM], by rw [hT, ← hM], hR_lk⟩, by rw [ht]; exact hP, va_K.moved hW.alike hK, hD⟩, hS.F ht⟩) hS.2.2 nd_Locks_release_11

theorem nd_Locks_waitsForItself_0 : decode prog_3_method_7_code 0 = .ok (.iload_n 1, 1) := by decide +kernel
theorem nd_Locks_waitsForItself_1 : decode prog_3_method_7_code 1 = .ok (.istore_n 2, 1) := by decide +kernel
theorem nd_Locks_waitsForItself_2 : decode prog_3_method_7_code 2 = .ok (.iconst 0, 1) := by decide +kernel
theorem nd_Locks_waitsForItself_3 : decode prog_3_method_7_code 3 = .ok (.istore_n 3, 1) := by decide +kernel
theorem nd_Locks_waitsForItself_4 : decode prog_3_method_7_code 4 = .ok (.iload_n 3, 1) := by decide +kernel
theorem nd_Locks_waitsForItself_5 : decode prog_3_method_7_code 5 = .ok (.iconst 3, 1) := by decide +kernel
theorem nd_Locks_waitsForItself_6 : decode prog_3_method_7_code 6 = .ok (.if_icmp .ge (36), 3) := by decide +kernel
theorem nd_Locks_waitsForItself_9 : decode prog_3_method_7_code 9 = .ok (.aload_n 0, 1) := by decide +kernel
theorem nd_Locks_waitsForItself_10 : decode prog_3_method_7_code 10 = .ok (.iload_n 2, 1) := by decide +kernel
theorem nd_Locks_waitsForItself_11 : decode prog_3_method_7_code 11 = .ok (.invokevirtual 32, 3) := by decide +kernel
theorem nd_Locks_waitsForItself_14 : decode prog_3_method_7_code 14 = .ok (.ifCond .eq (28), 3) := by decide +kernel
theorem nd_Locks_waitsForItself_17 : decode prog_3_method_7_code 17 = .ok (.aload_n 0, 1) := by decide +kernel
theorem nd_Locks_waitsForItself_18 : decode prog_3_method_7_code 18 = .ok (.getfield 9, 3) := by decide +kernel
theorem nd_Locks_waitsForItself_21 : decode prog_3_method_7_code 21 = .ok (.aload_n 0, 1) := by decide +kernel
theorem nd_Locks_waitsForItself_22 : decode prog_3_method_7_code 22 = .ok (.getfield 15, 3) := by decide +kernel
theorem nd_Locks_waitsForItself_25 : decode prog_3_method_7_code 25 = .ok (.iload_n 2, 1) := by decide +kernel
theorem nd_Locks_waitsForItself_26 : decode prog_3_method_7_code 26 = .ok (.iaload, 1) := by decide +kernel
theorem nd_Locks_waitsForItself_27 : decode prog_3_method_7_code 27 = .ok (.iaload, 1) := by decide +kernel
theorem nd_Locks_waitsForItself_28 : decode prog_3_method_7_code 28 = .ok (.istore_n 2, 1) := by decide +kernel
theorem nd_Locks_waitsForItself_29 : decode prog_3_method_7_code 29 = .ok (.iload_n 2, 1) := by decide +kernel
theorem nd_Locks_waitsForItself_30 : decode prog_3_method_7_code 30 = .ok (.iload_n 1, 1) := by decide +kernel
theorem nd_Locks_waitsForItself_31 : decode prog_3_method_7_code 31 = .ok (.if_icmp .ne (5), 3) := by decide +kernel
theorem nd_Locks_waitsForItself_34 : decode prog_3_method_7_code 34 = .ok (.iconst 1, 1) := by decide +kernel
theorem nd_Locks_waitsForItself_35 : decode prog_3_method_7_code 35 = .ok (.ireturn, 1) := by decide +kernel
theorem nd_Locks_waitsForItself_36 : decode prog_3_method_7_code 36 = .ok (.iinc 3 1, 3) := by decide +kernel
theorem nd_Locks_waitsForItself_39 : decode prog_3_method_7_code 39 = .ok (.goto (-35), 3) := by decide +kernel
theorem nd_Locks_waitsForItself_42 : decode prog_3_method_7_code 42 = .ok (.iconst 0, 1) := by decide +kernel
theorem nd_Locks_waitsForItself_43 : decode prog_3_method_7_code 43 = .ok (.ireturn, 1) := by decide +kernel
def lo_Locks_waitsForItself_4 (lk : cr_S) (x1 : Int32) : Nat → Int32 → Int32 → Int32
  | 0, _, _ => 0
  | n_4 + 1, v2_4, v3_4 =>
    (if (3 : Int32) ≤ v3_4 then (0 : Int32) else (if (md_Locks_spins lk v2_4) = 0 then (0 : Int32) else (if (lk 1 (lk 2 v2_4.toNatClampNeg).toNatClampNeg) = x1 then (1 : Int32) else (lo_Locks_waitsForItself_4 lk x1 n_4 (lk 1 (lk 2 v2_4.toNatClampNeg).toNatClampNeg) (v3_4 + (1 : Int32))))))
def md_Locks_waitsForItself (lk : cr_S) (x1 : Int32) : Int32 :=
  (lo_Locks_waitsForItself_4 lk x1 4 x1 (0 : Int32))
abbrev pq_Locks_waitsForItself (dC : Nat → ClassId) (dI : Nat → Nat → Nat) (cI cZ cO : ClassId) (alk : Nat → Nat) (lk : cr_S) (x1 : Int32) (A : Nat → Prop) : Array Value → State → Outcome → State → Prop :=
  va_Qi (fun (r : Int32) (_ : Unit) => r = md_Locks_waitsForItself lk x1) (fun (_ : Unit) t => va_P (dC, dI) vwCl (cw_Locks cI cZ cO alk lk) t.heap ∧ va_K (dC, dI) vwCl [(cI, .int), (cZ, .boolean), (cO, .array .int)] t ∧ va_D A (cw_Locks cI cZ cO alk lk)) A
set_option maxHeartbeats 4000000 in
set_option maxRecDepth 100000 in
theorem ct_Locks_waitsForItself (l : Launch) (dC : Nat → ClassId) (dI : Nat → Nat → Nat) (cI cZ cO : ClassId) (alk : Nat → Nat) (sz : Nat) (lk : cr_S) (x1 : Int32) (hR_lk : cr_RLocks lk) (hx1 : 1 ≤ x1.toInt ∧ x1.toInt ≤ 3) : Met l ny_Locks_waitsForItself nw_Locks_waitsForItself ({ frames := 1, cells := 0, slots := 0, locals := 21 } : Room) (va_Pc [.ref (alk 0), .int x1] (fun U => U.heap.size = sz ∧ va_P (dC, dI) vwCl (cw_Locks cI cZ cO alk lk) U.heap ∧ va_K (dC, dI) vwCl [(cI, .int), (cZ, .boolean), (cO, .array .int)] U ∧ va_D (fun _ => True) (cw_Locks cI cZ cO alk lk))) (pq_Locks_waitsForItself dC dI cI cZ cO alk lk x1 (va_A (cw_Locks cI cZ cO alk lk) sz)) 0 0 (va_A (cw_Locks cI cZ cO alk lk) sz) := by
  refine Met.ofW (cc := prog_3_method_7_code) (maxL := 4) (ret := (some .boolean)) (by decide) rfl ?_
  intro p e s m args below meth c s₁ B hml hv
  obtain ⟨rfl, hsz, hP, hK, hD0⟩ := hv
  have hx := B.exec
  have hb := B.bytes
  have hr := B.returns
  have hts0 := atoms_spec (ws := nw_Locks_waitsForItself) B.pre
  have hts : ∀ w ∈ ng_tbl, w.before ([.ref (alk 0), .int x1] : List Value).toArray s = true := fun w h => hts0 w (List.mem_cons_of_mem _ h)
  have hown : s.vm.findClass "CeilingRows$Locks" = some m.cls := findClass_of_methodNamed B.named
  have hlocks := B.notSynchronized
  subst hsz
  have hD := hD0.self (sz := s.heap.size)
  generalize hAe : va_A (cw_Locks cI cZ cO alk lk) s.heap.size = A at hD ⊢
  have hA : ∀ q : Nat, s.heap.size ≤ q → A q := fun q h => by rw [← hAe]; exact Or.inr h
  have hS : va_S A s.heap s.heap [] := va_S.rf
  have hP : va_P (dC, dI) vwCl (cw_Locks cI cZ cO alk lk) s.heap := hP
  have hl := lv_entry ([.ref (alk 0), .int x1]) (n := 4) (Nat.le_of_ble_eq_true rfl)
  rw [lg_entry_eq]
  generalize (lg_sl ([.ref (alk 0), .int x1]) ++ List.replicate (4 - (lg_sl ([.ref (alk 0), .int x1])).length) Slot.unset).toArray = ls at hl ⊢
  have hl : lv_has ls 4 [(0, .ref (alk 0)), (1, .int x1)] := hl
  have k_0 : (0 : Int32).toInt = 0 := by decide
  have k_1 : (1 : Int32).toInt = 1 := by decide
  have k_3 : (3 : Int32).toInt = 3 := by decide
  obtain ⟨tgt, hT⟩ : ∃ z, md_Locks_waitsForItself lk x1 = z := ⟨_, rfl⟩
  have hM := hT
  unfold md_Locks_waitsForItself at hM
  refine lv_iload_n hx hb nd_Locks_waitsForItself_0 rfl (lv_at hl 1 rfl) ?_
  refine lv_istore_n (lv' := [(2, .int x1), (0, .ref (alk 0)), (1, .int x1)]) hx hb nd_Locks_waitsForItself_1 rfl hl (by decide) rfl (fun ls hl => ?_)
  refine lv_iconst (v := 0) hx hb nd_Locks_waitsForItself_2 (by decide) ?_
  refine lv_istore_n (lv' := [(3, .int (0 : Int32)), (2, .int x1), (0, .ref (alk 0)), (1, .int x1)]) hx hb nd_Locks_waitsForItself_3 rfl hl (by decide) rfl (fun ls hl => ?_)
  have hl := lv_sub hl [2, 3, 1, 0] rfl
  have lp_4 : ∀ (n_4 : Nat) (v2_4 : Int32) (v3_4 : Int32), (0 ≤ v3_4.toInt ∧ v3_4.toInt ≤ 3) → (0 ≤ v2_4.toInt ∧ v2_4.toInt ≤ 3) → (3 < v3_4.toInt + (n_4 : Int)) → lo_Locks_waitsForItself_4 lk x1 n_4 v2_4 v3_4 = tgt → ∀ (H : Heap) (locs : List Loc), va_P (dC, dI) vwCl (cw_Locks cI cZ cO alk lk) H → va_D A (cw_Locks cI cZ cO alk lk) → va_S A s.heap H locs → ∀ ls : Array Slot, lv_has ls 4 [(0, .ref (alk 0)), (1, .int x1), (2, .int v2_4), (3, .int v3_4)] → W p l e (headSpec nw_Locks_waitsForItself ({ frames := 1, cells := 0, slots := 0, locals := 21 } : Room)).room s m ([.ref (alk 0), .int x1] : List Value).toArray below meth c H locs 0 0 (MQ below (pq_Locks_waitsForItself dC dI cI cZ cO alk lk x1 A) ([.ref (alk 0), .int x1] : List Value).toArray s 0 0 A) (F0 m 4 ls []) := by
    intro n_4
    induction n_4 with
    | zero =>
      intro v2_4 v3_4 hv3_4 hv2_4 hn_4
      exfalso; omega
    | succ n_4 ih_4 =>
      intro v2_4 v3_4 hv3_4 hv2_4 hn_4 hM H locs hP hD hS ls hl
      have hn_4 : 3 < v3_4.toInt + ((n_4 : Int) + 1) := by omega
      rw [lo_Locks_waitsForItself_4] at hM
      refine lv_iload_n hx hb nd_Locks_waitsForItself_4 rfl (lv_at hl 3 rfl) ?_
      refine lv_iconst (v := 3) hx hb nd_Locks_waitsForItself_5 (by decide) ?_
      refine lv_icmp_ge (tgt := 42) hx hb nd_Locks_waitsForItself_6 (by decide) (fun c_1 => ?_) (fun c_1 => ?_)
      · have c_1t := cr_le c_1
        rw [if_pos c_1] at hM
        refine lv_iconst (v := 0) hx hb nd_Locks_waitsForItself_42 (by decide) ?_
        exact W.zret (v := (0 : Int32)) (ty := .boolean) hx hb hr (by decide) (fun t ht hW => ⟨⟨(0 : Int32), (), rfl, by rw [hT, ← hM], by rw [ht]; exact hP, va_K.moved hW.alike hK, hD⟩, hS.F ht⟩) hS.2.2 nd_Locks_waitsForItself_43
      · have c_1t := cr_nle c_1
        rw [if_neg c_1] at hM
        refine lv_aload_n hx hb nd_Locks_waitsForItself_9 rfl (lv_at hl 0 rfl) ?_
        refine lv_iload_n hx hb nd_Locks_waitsForItself_10 rfl (lv_at hl 2 rfl) ?_
        have hPc := hP
        have hDc := hD
        have hFc := va_free (wc := cw_Locks cI cZ cO alk lk) hD hS hA [0, 1, 2, 3] rfl
        refine va_calli (va_runV (As := [.int v2_4]) (rest := []) ⟨hx, hb, hml, hown, hts⟩ (ct_Locks_spins l dC dI cI cZ cO alk H.size lk v2_4 hR_lk (by omega)) (cwV 1 hts (ng_V tw_336 tw_235 tw_236 tw_4 tw_237) rfl rfl rfl (by decide +kernel) ⟨Nat.le_of_ble_eq_true rfl, Nat.le_of_ble_eq_true rfl⟩) ⟨fun a U g mk q => by obtain ⟨q0, q1, qP, qK, qD⟩ := q; exact ⟨q0, q1, qP, va_K.moved (u := U) (U := U.calling g mk a) (Vm.Alike.refl U.vm) qK, qD⟩, va_recv hK hPc (ci := 2) (q0 := 0) rfl rfl, fun U hU hW => ⟨rfl, by rw [hU], by rw [hU]; exact hPc, va_K.moved hW.alike hK, hDc.weaken (fun _ _ _ _ => trivial)⟩⟩ rfl rfl hl.1 rfl (lv_room (Nat.le_of_ble_eq_true rfl)) nd_Locks_waitsForItself_11 ⟨Nat.zero_le _, Nat.zero_le _⟩) hS (fun q _ h => hFc q h) hFc (fun r_2 u t H1 locs ht hvm hw hB hz1 hk1 hS => ?_)
        obtain ⟨hP1, hK1, hD1⟩ := hB
        rw [ht] at hP1
        have w_3 := hw
        try rw [← w_3] at hM
        have hP := hP1
        have hD := cr_Dw hD1 hFc
        generalize H1 = H at hP hS ⊢
        refine lv_if_eq (tgt := 42) hx hb nd_Locks_waitsForItself_14 (by decide) (fun c_4 => ?_) (fun c_4 => ?_)
        · have c_4t := cr_eq c_4
          rw [if_pos c_4] at hM
          refine lv_iconst (v := 0) hx hb nd_Locks_waitsForItself_42 (by decide) ?_
          exact W.zret (v := (0 : Int32)) (ty := .boolean) hx hb hr (by decide) (fun t ht hW => ⟨⟨(0 : Int32), (), rfl, by rw [hT, ← hM], by rw [ht]; exact hP, va_K.moved hW.alike hK, hD⟩, hS.F ht⟩) hS.2.2 nd_Locks_waitsForItself_43
        · have c_4t := cr_ne c_4
          rw [if_neg c_4] at hM
          refine lv_aload_n hx hb nd_Locks_waitsForItself_17 rfl (lv_at hl 0 rfl) ?_
          refine va_get (D := (dC, dI)) (ci := 2) (v := .ref (alk 1)) (C := "CeilingRows$Locks") (T := nf_Locks) (N := 4) hx hb hts nin_Locks hown hK hP 0 rfl rfl 0 (by decide) (hts _ tw_100) (fun _ h9 => h9) rfl nd_Locks_waitsForItself_18 ?_
          refine lv_aload_n hx hb nd_Locks_waitsForItself_21 rfl (lv_at hl 0 rfl) ?_
          refine va_get (D := (dC, dI)) (ci := 2) (v := .ref (alk 2)) (C := "CeilingRows$Locks") (T := nf_Locks) (N := 4) hx hb hts nin_Locks hown hK hP 0 rfl rfl 1 (by decide) (hts _ tw_101) (fun _ h9 => h9) rfl nd_Locks_waitsForItself_22 ?_
          refine lv_iload_n hx hb nd_Locks_waitsForItself_25 rfl (lv_at hl 2 rfl) ?_
          have b_5 : vp_in v2_4 4 := vp_in_iff.mpr (by omega)
          refine va_iald hx hb hK hP 2 0 rfl rfl b_5 nd_Locks_waitsForItself_26 ?_
          have f_6 := cr_rgo hR_lk.2 (v2_4.toNatClampNeg)
          have b_7 : vp_in (lk 2 v2_4.toNatClampNeg) 9 := vp_in_iff.mpr (by omega)
          refine va_iald hx hb hK hP 1 0 rfl rfl b_7 nd_Locks_waitsForItself_27 ?_
          have f_8 := cr_rgo hR_lk.1 ((lk 2 v2_4.toNatClampNeg).toNatClampNeg)
          refine lv_istore_n (lv' := [(2, .int (lk 1 (lk 2 v2_4.toNatClampNeg).toNatClampNeg)), (0, .ref (alk 0)), (1, .int x1), (3, .int v3_4)]) hx hb nd_Locks_waitsForItself_28 rfl hl (by decide) rfl (fun ls hl => ?_)
          refine lv_iload_n hx hb nd_Locks_waitsForItself_29 rfl (lv_at hl 0 rfl) ?_
          refine lv_iload_n hx hb nd_Locks_waitsForItself_30 rfl (lv_at hl 2 rfl) ?_
          refine lv_icmp_ne (tgt := 36) hx hb nd_Locks_waitsForItself_31 (by decide) (fun c_9 => ?_) (fun c_9 => ?_)
          · have c_9t := cr_ne c_9
            rw [if_neg c_9] at hM
            have e_10 : (v3_4 + (1 : Int32)).toInt = v3_4.toInt + (1 : Int32).toInt := cr_add (by omega)
            refine lv_iinc (v := (v3_4 + (1 : Int32))) (lv' := [(3, .int (v3_4 + (1 : Int32))), (2, .int (lk 1 (lk 2 v2_4.toNatClampNeg).toNatClampNeg)), (0, .ref (alk 0)), (1, .int x1)]) hx hb nd_Locks_waitsForItself_36 hl (k := 3) rfl (by rfl) (by decide) rfl (fun ls hl => ?_)
            refine lv_goto (tgt := 4) hx hb nd_Locks_waitsForItself_39 (by decide) ?_
            exact ih_4 (lk 1 (lk 2 v2_4.toNatClampNeg).toNatClampNeg) (v3_4 + (1 : Int32)) (by omega) (by omega) (by omega) hM _ _ hP hD hS _ (lv_sub hl [2, 3, 1, 0] rfl)
          · have c_9t := cr_eq c_9
            rw [if_pos c_9] at hM
            refine lv_iconst (v := 1) hx hb nd_Locks_waitsForItself_34 (by decide) ?_
            exact W.zret (v := (1 : Int32)) (ty := .boolean) hx hb hr (by decide) (fun t ht hW => ⟨⟨(1 : Int32), (), rfl, by rw [hT, ← hM], by rw [ht]; exact hP, va_K.moved hW.alike hK, hD⟩, hS.F ht⟩) hS.2.2 nd_Locks_waitsForItself_35
  exact lp_4 4 x1 (0 : Int32) (by omega) (by omega) (by omega) hM _ _ hP hD hS _ hl
end
section
theorem nd_Trial_ticksWith_0 : decode prog_5_method_8_code 0 = .ok (.aload_n 0, 1) := by decide +kernel
theorem nd_Trial_ticksWith_1 : decode prog_5_method_8_code 1 = .ok (.getfield 20, 3) := by decide +kernel
theorem nd_Trial_ticksWith_4 : decode prog_5_method_8_code 4 = .ok (.getfield 112, 3) := by decide +kernel
theorem nd_Trial_ticksWith_7 : decode prog_5_method_8_code 7 = .ok (.iload_n 1, 1) := by decide +kernel
theorem nd_Trial_ticksWith_8 : decode prog_5_method_8_code 8 = .ok (.aaload, 1) := by decide +kernel
theorem nd_Trial_ticksWith_9 : decode prog_5_method_8_code 9 = .ok (.iload_n 2, 1) := by decide +kernel
theorem nd_Trial_ticksWith_10 : decode prog_5_method_8_code 10 = .ok (.iaload, 1) := by decide +kernel
theorem nd_Trial_ticksWith_11 : decode prog_5_method_8_code 11 = .ok (.iconst 3, 1) := by decide +kernel
theorem nd_Trial_ticksWith_12 : decode prog_5_method_8_code 12 = .ok (.invokestatic 115, 3) := by decide +kernel
theorem nd_Trial_ticksWith_15 : decode prog_5_method_8_code 15 = .ok (.ireturn, 1) := by decide +kernel
def md_Trial_ticksWith (pl : cr_S) (tr : cr_S) (tb : cr_S) (x1 : Int32) (x2 : Int32) : Int32 :=
  (cr_min (pl (6 + x1.toNatClampNeg) x2.toNatClampNeg) (3 : Int32))
abbrev pq_Trial_ticksWith (dC : Nat → ClassId) (dI : Nat → Nat → Nat) (cI cZ cO : ClassId) (apl atr atb : Nat → Nat) (pl : cr_S) (tr : cr_S) (tb : cr_S) (x1 : Int32) (x2 : Int32) (A : Nat → Prop) : Array Value → State → Outcome → State → Prop :=
  va_Qi (fun (r : Int32) (_ : Unit) => r = md_Trial_ticksWith pl tr tb x1 x2) (fun (_ : Unit) t => va_P (dC, dI) vwCl (cw_Plan cI cZ cO apl pl ++ cw_Trial cI cZ cO atr apl atb tr ++ cw_Board cI cZ cO atb apl tb) t.heap ∧ va_K (dC, dI) vwCl [(cI, .int), (cZ, .boolean), (cO, .array .int)] t ∧ va_D A (cw_Plan cI cZ cO apl pl ++ cw_Trial cI cZ cO atr apl atb tr ++ cw_Board cI cZ cO atb apl tb)) A
set_option maxHeartbeats 4000000 in
set_option maxRecDepth 100000 in
theorem ct_Trial_ticksWith (l : Launch) (dC : Nat → ClassId) (dI : Nat → Nat → Nat) (cI cZ cO : ClassId) (apl atr atb : Nat → Nat) (sz : Nat) (pl : cr_S) (tr : cr_S) (tb : cr_S) (x1 : Int32) (x2 : Int32) (hR_tb : cr_RBoard tb) (hR_pl : cr_RPlan pl) (hx1 : 0 ≤ x1.toInt ∧ x1.toInt ≤ 10) (hx2 : 0 ≤ x2.toInt ∧ x2.toInt ≤ 8) : Met l ny_Trial_ticksWith nw_Trial_ticksWith ({ frames := 1, cells := 0, slots := 0, locals := 21 } : Room) (va_Pc [.ref (atr 0), .int x1, .int x2] (fun U => U.heap.size = sz ∧ va_P (dC, dI) vwCl (cw_Plan cI cZ cO apl pl ++ cw_Trial cI cZ cO atr apl atb tr ++ cw_Board cI cZ cO atb apl tb) U.heap ∧ va_K (dC, dI) vwCl [(cI, .int), (cZ, .boolean), (cO, .array .int)] U ∧ va_D (fun _ => True) (cw_Plan cI cZ cO apl pl ++ cw_Trial cI cZ cO atr apl atb tr ++ cw_Board cI cZ cO atb apl tb))) (pq_Trial_ticksWith dC dI cI cZ cO apl atr atb pl tr tb x1 x2 (va_A (cw_Plan cI cZ cO apl pl ++ cw_Trial cI cZ cO atr apl atb tr ++ cw_Board cI cZ cO atb apl tb) sz)) 0 0 (va_A (cw_Plan cI cZ cO apl pl ++ cw_Trial cI cZ cO atr apl atb tr ++ cw_Board cI cZ cO atb apl tb) sz) := by
  refine Met.ofW (cc := prog_5_method_8_code) (maxL := 3) (ret := (some .int)) (by decide) rfl ?_
  intro p e s m args below meth c s₁ B hml hv
  obtain ⟨rfl, hsz, hP, hK, hD0⟩ := hv
  have hx := B.exec
  have hb := B.bytes
  have hr := B.returns
  have hts0 := atoms_spec (ws := nw_Trial_ticksWith) B.pre
  have hts : ∀ w ∈ ng_tbl, w.before ([.ref (atr 0), .int x1, .int x2] : List Value).toArray s = true := fun w h => hts0 w (List.mem_cons_of_mem _ h)
  have hown : s.vm.findClass "CeilingRows$Trial" = some m.cls := findClass_of_methodNamed B.named
  have hlocks := B.notSynchronized
  subst hsz
  have hD := hD0.self (sz := s.heap.size)
  generalize hAe : va_A (cw_Plan cI cZ cO apl pl ++ cw_Trial cI cZ cO atr apl atb tr ++ cw_Board cI cZ cO atb apl tb) s.heap.size = A at hD ⊢
  have hA : ∀ q : Nat, s.heap.size ≤ q → A q := fun q h => by rw [← hAe]; exact Or.inr h
  have hS : va_S A s.heap s.heap [] := va_S.rf
  have hP : va_P (dC, dI) vwCl (cw_Plan cI cZ cO apl pl ++ cw_Trial cI cZ cO atr apl atb tr ++ cw_Board cI cZ cO atb apl tb) s.heap := hP
  have hl := lv_entry ([.ref (atr 0), .int x1, .int x2]) (n := 3) (Nat.le_of_ble_eq_true rfl)
  rw [lg_entry_eq]
  generalize (lg_sl ([.ref (atr 0), .int x1, .int x2]) ++ List.replicate (3 - (lg_sl ([.ref (atr 0), .int x1, .int x2])).length) Slot.unset).toArray = ls at hl ⊢
  have hl : lv_has ls 3 [(0, .ref (atr 0)), (1, .int x1), (2, .int x2)] := hl
  have k_3 : (3 : Int32).toInt = 3 := by decide
  obtain ⟨tgt, hT⟩ : ∃ z, md_Trial_ticksWith pl tr tb x1 x2 = z := ⟨_, rfl⟩
  have hM := hT
  unfold md_Trial_ticksWith at hM
  refine lv_aload_n hx hb nd_Trial_ticksWith_0 rfl (lv_at hl 0 rfl) ?_
  refine va_get (D := (dC, dI)) (ci := 3) (v := .ref (apl 0)) (C := "CeilingRows$Trial") (T := nf_Trial) (N := 5) hx hb hts nin_Trial hown hK hP 17 rfl rfl 0 (by decide) (hts _ tw_122) (fun _ h9 => h9) rfl nd_Trial_ticksWith_1 ?_
  refine va_get (D := (dC, dI)) (ci := 0) (v := .ref (apl 5)) (C := "CeilingRows$Plan") (T := nf_Plan) (N := 7) hx hb hts nin_Plan hown hK hP 0 rfl rfl 6 (by decide) (hts _ tw_44) (fun _ h9 => h9) rfl nd_Trial_ticksWith_4 ?_
  refine lv_iload_n hx hb nd_Trial_ticksWith_7 rfl (lv_at hl 1 rfl) ?_
  have b_1 : vp_in x1 11 := vp_in_iff.mpr (by omega)
  have g_2 : x1.toNatClampNeg < 11 := cr_ix b_1
  refine ga_ald hx hb hK hP 5 2 rfl rfl b_1 g_2 nd_Trial_ticksWith_8 ?_
  refine lv_iload_n hx hb nd_Trial_ticksWith_9 rfl (lv_at hl 2 rfl) ?_
  have b_3 : vp_in x2 9 := vp_in_iff.mpr (by omega)
  refine va_iald hx hb hK hP (6 + x1.toNatClampNeg) 0 (cr_getL (cr_getL (cg_Plan_6 cI cZ cO apl pl _ g_2))) rfl b_3 nd_Trial_ticksWith_10 ?_
  refine lv_iconst (v := 3) hx hb nd_Trial_ticksWith_11 (by decide) ?_
  refine va_mmin hx hb (by rw [hml]; exact hl.1.symm) hown (hts _ tw_381) (hts _ tw_382) (hts _ tw_7) (hts _ tw_383) (Nat.le_of_ble_eq_true rfl) (Nat.le_of_ble_eq_true rfl) (Nat.zero_le _) (Nat.zero_le _) nd_Trial_ticksWith_12 ?_
  exact W.iret (v := (cr_min (pl (6 + x1.toNatClampNeg) x2.toNatClampNeg) (3 : Int32))) hx hb hr (fun t ht hW => ⟨⟨(cr_min (pl (6 + x1.toNatClampNeg) x2.toNatClampNeg) (3 : Int32)), (), rfl, by rw [hT, ← hM], by rw [ht]; exact hP, va_K.moved hW.alike hK, hD⟩, hS.F ht⟩) hS.2.2 nd_Trial_ticksWith_15

theorem nd_Trial_ticksOf_0 : decode prog_5_method_9_code 0 = .ok (.iconst 1, 1) := by decide +kernel
theorem nd_Trial_ticksOf_1 : decode prog_5_method_9_code 1 = .ok (.istore_n 2, 1) := by decide +kernel
theorem nd_Trial_ticksOf_2 : decode prog_5_method_9_code 2 = .ok (.iconst 1, 1) := by decide +kernel
theorem nd_Trial_ticksOf_3 : decode prog_5_method_9_code 3 = .ok (.istore_n 3, 1) := by decide +kernel
theorem nd_Trial_ticksOf_4 : decode prog_5_method_9_code 4 = .ok (.iload_n 3, 1) := by decide +kernel
theorem nd_Trial_ticksOf_5 : decode prog_5_method_9_code 5 = .ok (.aload_n 0, 1) := by decide +kernel
theorem nd_Trial_ticksOf_6 : decode prog_5_method_9_code 6 = .ok (.getfield 20, 3) := by decide +kernel
theorem nd_Trial_ticksOf_9 : decode prog_5_method_9_code 9 = .ok (.getfield 118, 3) := by decide +kernel
theorem nd_Trial_ticksOf_12 : decode prog_5_method_9_code 12 = .ok (.if_icmp .gt (32), 3) := by decide +kernel
theorem nd_Trial_ticksOf_15 : decode prog_5_method_9_code 15 = .ok (.aload_n 0, 1) := by decide +kernel
theorem nd_Trial_ticksOf_16 : decode prog_5_method_9_code 16 = .ok (.getfield 20, 3) := by decide +kernel
theorem nd_Trial_ticksOf_19 : decode prog_5_method_9_code 19 = .ok (.iload_n 1, 1) := by decide +kernel
theorem nd_Trial_ticksOf_20 : decode prog_5_method_9_code 20 = .ok (.iload_n 3, 1) := by decide +kernel
theorem nd_Trial_ticksOf_21 : decode prog_5_method_9_code 21 = .ok (.invokevirtual 121, 3) := by decide +kernel
theorem nd_Trial_ticksOf_24 : decode prog_5_method_9_code 24 = .ok (.ifCond .eq (14), 3) := by decide +kernel
theorem nd_Trial_ticksOf_27 : decode prog_5_method_9_code 27 = .ok (.iload_n 2, 1) := by decide +kernel
theorem nd_Trial_ticksOf_28 : decode prog_5_method_9_code 28 = .ok (.aload_n 0, 1) := by decide +kernel
theorem nd_Trial_ticksOf_29 : decode prog_5_method_9_code 29 = .ok (.iload_n 1, 1) := by decide +kernel
theorem nd_Trial_ticksOf_30 : decode prog_5_method_9_code 30 = .ok (.iload_n 3, 1) := by decide +kernel
theorem nd_Trial_ticksOf_31 : decode prog_5_method_9_code 31 = .ok (.invokevirtual 124, 3) := by decide +kernel
theorem nd_Trial_ticksOf_34 : decode prog_5_method_9_code 34 = .ok (.iconst 1, 1) := by decide +kernel
theorem nd_Trial_ticksOf_35 : decode prog_5_method_9_code 35 = .ok (.iadd, 1) := by decide +kernel
theorem nd_Trial_ticksOf_36 : decode prog_5_method_9_code 36 = .ok (.iadd, 1) := by decide +kernel
theorem nd_Trial_ticksOf_37 : decode prog_5_method_9_code 37 = .ok (.istore_n 2, 1) := by decide +kernel
theorem nd_Trial_ticksOf_38 : decode prog_5_method_9_code 38 = .ok (.iinc 3 1, 3) := by decide +kernel
theorem nd_Trial_ticksOf_41 : decode prog_5_method_9_code 41 = .ok (.goto (-37), 3) := by decide +kernel
theorem nd_Trial_ticksOf_44 : decode prog_5_method_9_code 44 = .ok (.iload_n 2, 1) := by decide +kernel
theorem nd_Trial_ticksOf_45 : decode prog_5_method_9_code 45 = .ok (.ireturn, 1) := by decide +kernel
def lo_Trial_ticksOf_4 (pl : cr_S) (tr : cr_S) (tb : cr_S) (x1 : Int32) : Nat → Int32 → Int32 → Int32
  | 0, _, _ => 0
  | n_4 + 1, v2_4, v3_4 =>
    (if (pl 0 1) < v3_4 then v2_4 else (if (md_Plan_isUsedBy pl x1 v3_4) = 0 then (lo_Trial_ticksOf_4 pl tr tb x1 n_4 v2_4 (v3_4 + (1 : Int32))) else (lo_Trial_ticksOf_4 pl tr tb x1 n_4 (v2_4 + ((md_Trial_ticksWith pl tr tb x1 v3_4) + (1 : Int32))) (v3_4 + (1 : Int32)))))
def md_Trial_ticksOf (pl : cr_S) (tr : cr_S) (tb : cr_S) (x1 : Int32) : Int32 :=
  (lo_Trial_ticksOf_4 pl tr tb x1 9 (1 : Int32) (1 : Int32))
abbrev pq_Trial_ticksOf (dC : Nat → ClassId) (dI : Nat → Nat → Nat) (cI cZ cO : ClassId) (apl atr atb : Nat → Nat) (pl : cr_S) (tr : cr_S) (tb : cr_S) (x1 : Int32) (A : Nat → Prop) : Array Value → State → Outcome → State → Prop :=
  va_Qi (fun (r : Int32) (_ : Unit) => r = md_Trial_ticksOf pl tr tb x1) (fun (_ : Unit) t => va_P (dC, dI) vwCl (cw_Plan cI cZ cO apl pl ++ cw_Trial cI cZ cO atr apl atb tr ++ cw_Board cI cZ cO atb apl tb) t.heap ∧ va_K (dC, dI) vwCl [(cI, .int), (cZ, .boolean), (cO, .array .int)] t ∧ va_D A (cw_Plan cI cZ cO apl pl ++ cw_Trial cI cZ cO atr apl atb tr ++ cw_Board cI cZ cO atb apl tb)) A
set_option maxHeartbeats 4000000 in
set_option maxRecDepth 100000 in
theorem ct_Trial_ticksOf (l : Launch) (dC : Nat → ClassId) (dI : Nat → Nat → Nat) (cI cZ cO : ClassId) (apl atr atb : Nat → Nat) (sz : Nat) (pl : cr_S) (tr : cr_S) (tb : cr_S) (x1 : Int32) (hR_tb : cr_RBoard tb) (hR_pl : cr_RPlan pl) (hx1 : 0 ≤ x1.toInt ∧ x1.toInt ≤ 10) : Met l ny_Trial_ticksOf nw_Trial_ticksOf ({ frames := 2, cells := 0, slots := 0, locals := 43 } : Room) (va_Pc [.ref (atr 0), .int x1] (fun U => U.heap.size = sz ∧ va_P (dC, dI) vwCl (cw_Plan cI cZ cO apl pl ++ cw_Trial cI cZ cO atr apl atb tr ++ cw_Board cI cZ cO atb apl tb) U.heap ∧ va_K (dC, dI) vwCl [(cI, .int), (cZ, .boolean), (cO, .array .int)] U ∧ va_D (fun _ => True) (cw_Plan cI cZ cO apl pl ++ cw_Trial cI cZ cO atr apl atb tr ++ cw_Board cI cZ cO atb apl tb))) (pq_Trial_ticksOf dC dI cI cZ cO apl atr atb pl tr tb x1 (va_A (cw_Plan cI cZ cO apl pl ++ cw_Trial cI cZ cO atr apl atb tr ++ cw_Board cI cZ cO atb apl tb) sz)) 0 0 (va_A (cw_Plan cI cZ cO apl pl ++ cw_Trial cI cZ cO atr apl atb tr ++ cw_Board cI cZ cO atb apl tb) sz) := by
  refine Met.ofW (cc := prog_5_method_9_code) (maxL := 4) (ret := (some .int)) (by decide) rfl ?_
  intro p e s m args below meth c s₁ B hml hv
  obtain ⟨rfl, hsz, hP, hK, hD0⟩ := hv
  have hx := B.exec
  have hb := B.bytes
  have hr := B.returns
  have hts0 := atoms_spec (ws := nw_Trial_ticksOf) B.pre
  have hts : ∀ w ∈ ng_tbl, w.before ([.ref (atr 0), .int x1] : List Value).toArray s = true := fun w h => hts0 w (List.mem_cons_of_mem _ h)
  have hown : s.vm.findClass "CeilingRows$Trial" = some m.cls := findClass_of_methodNamed B.named
  have hlocks := B.notSynchronized
  subst hsz
  have hD := hD0.self (sz := s.heap.size)
  generalize hAe : va_A (cw_Plan cI cZ cO apl pl ++ cw_Trial cI cZ cO atr apl atb tr ++ cw_Board cI cZ cO atb apl tb) s.heap.size = A at hD ⊢
  have hA : ∀ q : Nat, s.heap.size ≤ q → A q := fun q h => by rw [← hAe]; exact Or.inr h
  have hS : va_S A s.heap s.heap [] := va_S.rf
  have hP : va_P (dC, dI) vwCl (cw_Plan cI cZ cO apl pl ++ cw_Trial cI cZ cO atr apl atb tr ++ cw_Board cI cZ cO atb apl tb) s.heap := hP
  have hl := lv_entry ([.ref (atr 0), .int x1]) (n := 4) (Nat.le_of_ble_eq_true rfl)
  rw [lg_entry_eq]
  generalize (lg_sl ([.ref (atr 0), .int x1]) ++ List.replicate (4 - (lg_sl ([.ref (atr 0), .int x1])).length) Slot.unset).toArray = ls at hl ⊢
  have hl : lv_has ls 4 [(0, .ref (atr 0)), (1, .int x1)] := hl
  have k_0 : (0 : Int32).toInt = 0 := by decide
  have k_1 : (1 : Int32).toInt = 1 := by decide
  obtain ⟨tgt, hT⟩ : ∃ z, md_Trial_ticksOf pl tr tb x1 = z := ⟨_, rfl⟩
  have hM := hT
  unfold md_Trial_ticksOf at hM
  refine lv_iconst (v := 1) hx hb nd_Trial_ticksOf_0 (by decide) ?_
  refine lv_istore_n (lv' := [(2, .int (1 : Int32)), (0, .ref (atr 0)), (1, .int x1)]) hx hb nd_Trial_ticksOf_1 rfl hl (by decide) rfl (fun ls hl => ?_)
  refine lv_iconst (v := 1) hx hb nd_Trial_ticksOf_2 (by decide) ?_
  refine lv_istore_n (lv' := [(3, .int (1 : Int32)), (2, .int (1 : Int32)), (0, .ref (atr 0)), (1, .int x1)]) hx hb nd_Trial_ticksOf_3 rfl hl (by decide) rfl (fun ls hl => ?_)
  have hl := lv_sub hl [2, 3, 1, 0] rfl
  have lp_4 : ∀ (n_4 : Nat) (v2_4 : Int32) (v3_4 : Int32), (1 ≤ v3_4.toInt ∧ v3_4.toInt ≤ 9) → (9 < v3_4.toInt + (n_4 : Int)) → lo_Trial_ticksOf_4 pl tr tb x1 n_4 v2_4 v3_4 = tgt → ∀ (H : Heap) (locs : List Loc), va_P (dC, dI) vwCl (cw_Plan cI cZ cO apl pl ++ cw_Trial cI cZ cO atr apl atb tr ++ cw_Board cI cZ cO atb apl tb) H → va_D A (cw_Plan cI cZ cO apl pl ++ cw_Trial cI cZ cO atr apl atb tr ++ cw_Board cI cZ cO atb apl tb) → va_S A s.heap H locs → ∀ ls : Array Slot, lv_has ls 4 [(0, .ref (atr 0)), (1, .int x1), (2, .int v2_4), (3, .int v3_4)] → W p l e (headSpec nw_Trial_ticksOf ({ frames := 2, cells := 0, slots := 0, locals := 43 } : Room)).room s m ([.ref (atr 0), .int x1] : List Value).toArray below meth c H locs 0 0 (MQ below (pq_Trial_ticksOf dC dI cI cZ cO apl atr atb pl tr tb x1 A) ([.ref (atr 0), .int x1] : List Value).toArray s 0 0 A) (F0 m 4 ls []) := by
    intro n_4
    induction n_4 with
    | zero =>
      intro v2_4 v3_4 hv3_4 hn_4
      exfalso; omega
    | succ n_4 ih_4 =>
      intro v2_4 v3_4 hv3_4 hn_4 hM H locs hP hD hS ls hl
      have hn_4 : 9 < v3_4.toInt + ((n_4 : Int) + 1) := by omega
      rw [lo_Trial_ticksOf_4] at hM
      refine lv_iload_n hx hb nd_Trial_ticksOf_4 rfl (lv_at hl 3 rfl) ?_
      refine lv_aload_n hx hb nd_Trial_ticksOf_5 rfl (lv_at hl 0 rfl) ?_
      refine va_get (D := (dC, dI)) (ci := 3) (v := .ref (apl 0)) (C := "CeilingRows$Trial") (T := nf_Trial) (N := 5) hx hb hts nin_Trial hown hK hP 17 rfl rfl 0 (by decide) (hts _ tw_122) (fun _ h9 => h9) rfl nd_Trial_ticksOf_6 ?_
      refine va_get (D := (dC, dI)) (ci := 0) (v := .int (pl 0 1)) (C := "CeilingRows$Plan") (T := nf_Plan) (N := 7) hx hb hts nin_Plan hown hK hP 0 rfl rfl 1 (by decide) (hts _ tw_33) (fun _ h9 => h9) rfl nd_Trial_ticksOf_9 ?_
      have f_1 := cr_rfo hR_pl.2.1
      refine lv_icmp_gt (tgt := 44) hx hb nd_Trial_ticksOf_12 (by decide) (fun c_2 => ?_) (fun c_2 => ?_)
      · have c_2t := cr_lt c_2
        rw [if_pos c_2] at hM
        refine lv_iload_n hx hb nd_Trial_ticksOf_44 rfl (lv_at hl 2 rfl) ?_
        exact W.iret (v := v2_4) hx hb hr (fun t ht hW => ⟨⟨v2_4, (), rfl, by rw [hT, ← hM], by rw [ht]; exact hP, va_K.moved hW.alike hK, hD⟩, hS.F ht⟩) hS.2.2 nd_Trial_ticksOf_45
      · have c_2t := cr_nlt c_2
        rw [if_neg c_2] at hM
        refine lv_aload_n hx hb nd_Trial_ticksOf_15 rfl (lv_at hl 0 rfl) ?_
        refine va_get (D := (dC, dI)) (ci := 3) (v := .ref (apl 0)) (C := "CeilingRows$Trial") (T := nf_Trial) (N := 5) hx hb hts nin_Trial hown hK hP 17 rfl rfl 0 (by decide) (hts _ tw_122) (fun _ h9 => h9) rfl nd_Trial_ticksOf_16 ?_
        refine lv_iload_n hx hb nd_Trial_ticksOf_19 rfl (lv_at hl 1 rfl) ?_
        refine lv_iload_n hx hb nd_Trial_ticksOf_20 rfl (lv_at hl 3 rfl) ?_
        have hPc := hP.sub (ws' := cw_Plan cI cZ cO apl pl) [0, 1, 2, 3, 4, 5, 6, 7, 8, 9, 10, 11, 12, 13, 14, 15, 16] rfl
        have hDc := hD.sub (ws' := cw_Plan cI cZ cO apl pl) [0, 1, 2, 3, 4, 5, 6, 7, 8, 9, 10, 11, 12, 13, 14, 15, 16] (by decide) rfl
        have hFc := va_free (wc := cw_Plan cI cZ cO apl pl) hD hS hA [0, 1, 2, 3, 4, 5, 6, 7, 8, 9, 10, 11, 12, 13, 14, 15, 16] rfl
        refine va_calli (va_runV (As := [.int x1, .int v3_4]) (rest := []) ⟨hx, hb, hml, hown, hts⟩ (ct_Plan_isUsedBy l dC dI cI cZ cO apl H.size pl x1 v3_4 hR_pl (by omega) (by omega)) (cwV 2 hts (ng_V tw_376 tw_199 tw_200 tw_2 tw_201) rfl rfl rfl (by decide +kernel) ⟨Nat.le_of_ble_eq_true rfl, Nat.le_of_ble_eq_true rfl⟩) ⟨fun a U g mk q => by obtain ⟨q0, q1, qP, qK, qD⟩ := q; exact ⟨q0, q1, qP, va_K.moved (u := U) (U := U.calling g mk a) (Vm.Alike.refl U.vm) qK, qD⟩, va_recv hK hPc (ci := 0) (q0 := 0) rfl rfl, fun U hU hW => ⟨rfl, by rw [hU], by rw [hU]; exact hPc, va_K.moved hW.alike hK, hDc.weaken (fun _ _ _ _ => trivial)⟩⟩ rfl rfl hl.1 rfl (lv_room (Nat.le_of_ble_eq_true rfl)) nd_Trial_ticksOf_21 ⟨Nat.zero_le _, Nat.zero_le _⟩) hS (fun q _ h => hFc q h) hFc (fun r_3 u t H1 locs ht hvm hw hB hz1 hk1 hS => ?_)
        obtain ⟨hP1, hK1, hD1⟩ := hB
        rw [ht] at hP1
        have w_4 := hw
        try rw [← w_4] at hM
        obtain ⟨hP, hD⟩ := va_join (wr := cw_Trial cI cZ cO atr apl atb tr ++ cw_Board cI cZ cO atb apl tb) (w1 := cw_Plan cI cZ cO apl pl) hP hD [0, 1, 2, 3, 4, 5, 6, 7, 8, 9, 10, 11, 12, 13, 14, 15, 16] [17, 18, 19, 20, 21, 22, 23, 24, 25, 26, 27, 28, 29, 30, 31, 32, 33, 34, 35, 36] rfl rfl (by decide) (by decide) hk1 hFc hP1 hD1
        have hP := hP.sub (ws' := cw_Plan cI cZ cO apl pl ++ cw_Trial cI cZ cO atr apl atb tr ++ cw_Board cI cZ cO atb apl tb) [20, 21, 22, 23, 24, 25, 26, 27, 28, 29, 30, 31, 32, 33, 34, 35, 36, 0, 1, 2, 3, 4, 5, 6, 7, 8, 9, 10, 11, 12, 13, 14, 15, 16, 17, 18, 19] rfl
        have hD := hD.sub (ws' := cw_Plan cI cZ cO apl pl ++ cw_Trial cI cZ cO atr apl atb tr ++ cw_Board cI cZ cO atb apl tb) [20, 21, 22, 23, 24, 25, 26, 27, 28, 29, 30, 31, 32, 33, 34, 35, 36, 0, 1, 2, 3, 4, 5, 6, 7, 8, 9, 10, 11, 12, 13, 14, 15, 16, 17, 18, 19] (by decide) rfl
        generalize H1 = H at hP hS ⊢
        refine lv_if_eq (tgt := 38) hx hb nd_Trial_ticksOf_24 (by decide) (fun c_5 => ?_) (fun c_5 => ?_)
        · have c_5t := cr_eq c_5
          rw [if_pos c_5] at hM
          have e_6 : (v3_4 + (1 : Int32)).toInt = v3_4.toInt + (1 : Int32).toInt := cr_add (by omega)
          refine lv_iinc (v := (v3_4 + (1 : Int32))) (lv' := [(3, .int (v3_4 + (1 : Int32))), (0, .ref (atr 0)), (1, .int x1), (2, .int v2_4)]) hx hb nd_Trial_ticksOf_38 hl (k := 3) rfl (by rfl) (by decide) rfl (fun ls hl => ?_)
          refine lv_goto (tgt := 4) hx hb nd_Trial_ticksOf_41 (by decide) ?_
          exact ih_4 v2_4 (v3_4 + (1 : Int32)) (by omega) (by omega) hM _ _ hP hD hS _ (lv_sub hl [1, 2, 3, 0] rfl)
        · have c_5t := cr_ne c_5
          rw [if_neg c_5] at hM
          refine lv_iload_n hx hb nd_Trial_ticksOf_27 rfl (lv_at hl 2 rfl) ?_
          refine lv_aload_n hx hb nd_Trial_ticksOf_28 rfl (lv_at hl 0 rfl) ?_
          refine lv_iload_n hx hb nd_Trial_ticksOf_29 rfl (lv_at hl 1 rfl) ?_
          refine lv_iload_n hx hb nd_Trial_ticksOf_30 rfl (lv_at hl 3 rfl) ?_
          have hPc := hP
          have hDc := hD
          have hFc := va_free (wc := cw_Plan cI cZ cO apl pl ++ cw_Trial cI cZ cO atr apl atb tr ++ cw_Board cI cZ cO atb apl tb) hD hS hA [0, 1, 2, 3, 4, 5, 6, 7, 8, 9, 10, 11, 12, 13, 14, 15, 16, 17, 18, 19, 20, 21, 22, 23, 24, 25, 26, 27, 28, 29, 30, 31, 32, 33, 34, 35, 36] rfl
          refine va_calli (va_runV (As := [.int x1, .int v3_4]) (rest := [.int v2_4]) ⟨hx, hb, hml, hown, hts⟩ (ct_Trial_ticksWith l dC dI cI cZ cO apl atr atb H.size pl tr tb x1 v3_4 hR_tb hR_pl (by omega) (by omega)) (cwV 2 hts (ng_V tw_377 tw_379 tp_14 tw_5 tw_380) rfl rfl rfl (by decide +kernel) ⟨Nat.le_of_ble_eq_true rfl, Nat.le_of_ble_eq_true rfl⟩) ⟨fun a U g mk q => by obtain ⟨q0, q1, qP, qK, qD⟩ := q; exact ⟨q0, q1, qP, va_K.moved (u := U) (U := U.calling g mk a) (Vm.Alike.refl U.vm) qK, qD⟩, va_recv hK hPc (ci := 3) (q0 := 17) rfl rfl, fun U hU hW => ⟨rfl, by rw [hU], by rw [hU]; exact hPc, va_K.moved hW.alike hK, hDc.weaken (fun _ _ _ _ => trivial)⟩⟩ rfl rfl hl.1 rfl (lv_room (Nat.le_of_ble_eq_true rfl)) nd_Trial_ticksOf_31 ⟨Nat.zero_le _, Nat.zero_le _⟩) hS (fun q _ h => hFc q h) hFc (fun r_7 u t H1 locs ht hvm hw hB hz1 hk1 hS => ?_)
          obtain ⟨hP1, hK1, hD1⟩ := hB
          rw [ht] at hP1
          have w_8 := hw
          try rw [← w_8] at hM
          have hP := hP1
          have hD := cr_Dw hD1 hFc
          generalize H1 = H at hP hS ⊢
          refine lv_iconst (v := 1) hx hb nd_Trial_ticksOf_34 (by decide) ?_
          refine lv_iadd hx hb nd_Trial_ticksOf_35 ?_
          refine lv_iadd hx hb nd_Trial_ticksOf_36 ?_
          refine lv_istore_n (lv' := [(2, .int (v2_4 + (r_7 + (1 : Int32)))), (0, .ref (atr 0)), (1, .int x1), (3, .int v3_4)]) hx hb nd_Trial_ticksOf_37 rfl hl (by decide) rfl (fun ls hl => ?_)
          have e_9 : (v3_4 + (1 : Int32)).toInt = v3_4.toInt + (1 : Int32).toInt := cr_add (by omega)
          refine lv_iinc (v := (v3_4 + (1 : Int32))) (lv' := [(3, .int (v3_4 + (1 : Int32))), (2, .int (v2_4 + (r_7 + (1 : Int32)))), (0, .ref (atr 0)), (1, .int x1)]) hx hb nd_Trial_ticksOf_38 hl (k := 3) rfl (by rfl) (by decide) rfl (fun ls hl => ?_)
          refine lv_goto (tgt := 4) hx hb nd_Trial_ticksOf_41 (by decide) ?_
          exact ih_4 (v2_4 + (r_7 + (1 : Int32))) (v3_4 + (1 : Int32)) (by omega) (by omega) hM _ _ hP hD hS _ (lv_sub hl [2, 3, 1, 0] rfl)
  exact lp_4 9 (1 : Int32) (1 : Int32) (by omega) (by omega) hM _ _ hP hD hS _ hl

theorem nd_Trial_resourceAt_0 : decode prog_5_method_10_code 0 = .ok (.iconst 1, 1) := by decide +kernel
theorem nd_Trial_resourceAt_1 : decode prog_5_method_10_code 1 = .ok (.istore_n 3, 1) := by decide +kernel
theorem nd_Trial_resourceAt_2 : decode prog_5_method_10_code 2 = .ok (.iconst 1, 1) := by decide +kernel
theorem nd_Trial_resourceAt_3 : decode prog_5_method_10_code 3 = .ok (.istore 4, 2) := by decide +kernel
theorem nd_Trial_resourceAt_5 : decode prog_5_method_10_code 5 = .ok (.iload 4, 2) := by decide +kernel
theorem nd_Trial_resourceAt_7 : decode prog_5_method_10_code 7 = .ok (.aload_n 0, 1) := by decide +kernel
theorem nd_Trial_resourceAt_8 : decode prog_5_method_10_code 8 = .ok (.getfield 20, 3) := by decide +kernel
theorem nd_Trial_resourceAt_11 : decode prog_5_method_10_code 11 = .ok (.getfield 118, 3) := by decide +kernel
theorem nd_Trial_resourceAt_14 : decode prog_5_method_10_code 14 = .ok (.if_icmp .gt (52), 3) := by decide +kernel
theorem nd_Trial_resourceAt_17 : decode prog_5_method_10_code 17 = .ok (.aload_n 0, 1) := by decide +kernel
theorem nd_Trial_resourceAt_18 : decode prog_5_method_10_code 18 = .ok (.getfield 20, 3) := by decide +kernel
theorem nd_Trial_resourceAt_21 : decode prog_5_method_10_code 21 = .ok (.iload_n 1, 1) := by decide +kernel
theorem nd_Trial_resourceAt_22 : decode prog_5_method_10_code 22 = .ok (.iload 4, 2) := by decide +kernel
theorem nd_Trial_resourceAt_24 : decode prog_5_method_10_code 24 = .ok (.invokevirtual 121, 3) := by decide +kernel
theorem nd_Trial_resourceAt_27 : decode prog_5_method_10_code 27 = .ok (.ifCond .eq (33), 3) := by decide +kernel
theorem nd_Trial_resourceAt_30 : decode prog_5_method_10_code 30 = .ok (.iload_n 3, 1) := by decide +kernel
theorem nd_Trial_resourceAt_31 : decode prog_5_method_10_code 31 = .ok (.aload_n 0, 1) := by decide +kernel
theorem nd_Trial_resourceAt_32 : decode prog_5_method_10_code 32 = .ok (.iload_n 1, 1) := by decide +kernel
theorem nd_Trial_resourceAt_33 : decode prog_5_method_10_code 33 = .ok (.iload 4, 2) := by decide +kernel
theorem nd_Trial_resourceAt_35 : decode prog_5_method_10_code 35 = .ok (.invokevirtual 124, 3) := by decide +kernel
theorem nd_Trial_resourceAt_38 : decode prog_5_method_10_code 38 = .ok (.iadd, 1) := by decide +kernel
theorem nd_Trial_resourceAt_39 : decode prog_5_method_10_code 39 = .ok (.istore 5, 2) := by decide +kernel
theorem nd_Trial_resourceAt_41 : decode prog_5_method_10_code 41 = .ok (.iload_n 2, 1) := by decide +kernel
theorem nd_Trial_resourceAt_42 : decode prog_5_method_10_code 42 = .ok (.iload_n 3, 1) := by decide +kernel
theorem nd_Trial_resourceAt_43 : decode prog_5_method_10_code 43 = .ok (.if_icmp .lt (12), 3) := by decide +kernel
theorem nd_Trial_resourceAt_46 : decode prog_5_method_10_code 46 = .ok (.iload_n 2, 1) := by decide +kernel
theorem nd_Trial_resourceAt_47 : decode prog_5_method_10_code 47 = .ok (.iload 5, 2) := by decide +kernel
theorem nd_Trial_resourceAt_49 : decode prog_5_method_10_code 49 = .ok (.if_icmp .ge (6), 3) := by decide +kernel
theorem nd_Trial_resourceAt_52 : decode prog_5_method_10_code 52 = .ok (.iload 4, 2) := by decide +kernel
theorem nd_Trial_resourceAt_54 : decode prog_5_method_10_code 54 = .ok (.ireturn, 1) := by decide +kernel
theorem nd_Trial_resourceAt_55 : decode prog_5_method_10_code 55 = .ok (.iload 5, 2) := by decide +kernel
theorem nd_Trial_resourceAt_57 : decode prog_5_method_10_code 57 = .ok (.iconst 1, 1) := by decide +kernel
theorem nd_Trial_resourceAt_58 : decode prog_5_method_10_code 58 = .ok (.iadd, 1) := by decide +kernel
theorem nd_Trial_resourceAt_59 : decode prog_5_method_10_code 59 = .ok (.istore_n 3, 1) := by decide +kernel
theorem nd_Trial_resourceAt_60 : decode prog_5_method_10_code 60 = .ok (.iinc 4 1, 3) := by decide +kernel
theorem nd_Trial_resourceAt_63 : decode prog_5_method_10_code 63 = .ok (.goto (-58), 3) := by decide +kernel
theorem nd_Trial_resourceAt_66 : decode prog_5_method_10_code 66 = .ok (.iconst 0, 1) := by decide +kernel
theorem nd_Trial_resourceAt_67 : decode prog_5_method_10_code 67 = .ok (.ireturn, 1) := by decide +kernel
def lo_Trial_resourceAt_5 (pl : cr_S) (tr : cr_S) (tb : cr_S) (x1 : Int32) (x2 : Int32) : Nat → Int32 → Int32 → Int32
  | 0, _, _ => 0
  | n_5 + 1, v3_5, v4_5 =>
    (if (pl 0 1) < v4_5 then (0 : Int32) else (if (md_Plan_isUsedBy pl x1 v4_5) = 0 then (lo_Trial_resourceAt_5 pl tr tb x1 x2 n_5 v3_5 (v4_5 + (1 : Int32))) else (if x2 < v3_5 then (lo_Trial_resourceAt_5 pl tr tb x1 x2 n_5 ((v3_5 + (md_Trial_ticksWith pl tr tb x1 v4_5)) + (1 : Int32)) (v4_5 + (1 : Int32))) else (if (v3_5 + (md_Trial_ticksWith pl tr tb x1 v4_5)) ≤ x2 then (lo_Trial_resourceAt_5 pl tr tb x1 x2 n_5 ((v3_5 + (md_Trial_ticksWith pl tr tb x1 v4_5)) + (1 : Int32)) (v4_5 + (1 : Int32))) else v4_5))))
def md_Trial_resourceAt (pl : cr_S) (tr : cr_S) (tb : cr_S) (x1 : Int32) (x2 : Int32) : Int32 :=
  (lo_Trial_resourceAt_5 pl tr tb x1 x2 9 (1 : Int32) (1 : Int32))
abbrev pq_Trial_resourceAt (dC : Nat → ClassId) (dI : Nat → Nat → Nat) (cI cZ cO : ClassId) (apl atr atb : Nat → Nat) (pl : cr_S) (tr : cr_S) (tb : cr_S) (x1 : Int32) (x2 : Int32) (A : Nat → Prop) : Array Value → State → Outcome → State → Prop :=
  va_Qi (fun (r : Int32) (_ : Unit) => r = md_Trial_resourceAt pl tr tb x1 x2 ∧ (0 ≤ r.toInt ∧ r.toInt ≤ 8)) (fun (_ : Unit) t => va_P (dC, dI) vwCl (cw_Plan cI cZ cO apl pl ++ cw_Trial cI cZ cO atr apl atb tr ++ cw_Board cI cZ cO atb apl tb) t.heap ∧ va_K (dC, dI) vwCl [(cI, .int), (cZ, .boolean), (cO, .array .int)] t ∧ va_D A (cw_Plan cI cZ cO apl pl ++ cw_Trial cI cZ cO atr apl atb tr ++ cw_Board cI cZ cO atb apl tb)) A
set_option maxHeartbeats 4000000 in
set_option maxRecDepth 100000 in
theorem ct_Trial_resourceAt (l : Launch) (dC : Nat → ClassId) (dI : Nat → Nat → Nat) (cI cZ cO : ClassId) (apl atr atb : Nat → Nat) (sz : Nat) (pl : cr_S) (tr : cr_S) (tb : cr_S) (x1 : Int32) (x2 : Int32) (hR_tb : cr_RBoard tb) (hR_pl : cr_RPlan pl) (hx1 : 0 ≤ x1.toInt ∧ x1.toInt ≤ 10) : Met l ny_Trial_resourceAt nw_Trial_resourceAt ({ frames := 2, cells := 0, slots := 0, locals := 43 } : Room) (va_Pc [.ref (atr 0), .int x1, .int x2] (fun U => U.heap.size = sz ∧ va_P (dC, dI) vwCl (cw_Plan cI cZ cO apl pl ++ cw_Trial cI cZ cO atr apl atb tr ++ cw_Board cI cZ cO atb apl tb) U.heap ∧ va_K (dC, dI) vwCl [(cI, .int), (cZ, .boolean), (cO, .array .int)] U ∧ va_D (fun _ => True) (cw_Plan cI cZ cO apl pl ++ cw_Trial cI cZ cO atr apl atb tr ++ cw_Board cI cZ cO atb apl tb))) (pq_Trial_resourceAt dC dI cI cZ cO apl atr atb pl tr tb x1 x2 (va_A (cw_Plan cI cZ cO apl pl ++ cw_Trial cI cZ cO atr apl atb tr ++ cw_Board cI cZ cO atb apl tb) sz)) 0 0 (va_A (cw_Plan cI cZ cO apl pl ++ cw_Trial cI cZ cO atr apl atb tr ++ cw_Board cI cZ cO atb apl tb) sz) := by
  refine Met.ofW (cc := prog_5_method_10_code) (maxL := 6) (ret := (some .int)) (by decide) rfl ?_
  intro p e s m args below meth c s₁ B hml hv
  obtain ⟨rfl, hsz, hP, hK, hD0⟩ := hv
  have hx := B.exec
  have hb := B.bytes
  have hr := B.returns
  have hts0 := atoms_spec (ws := nw_Trial_resourceAt) B.pre
  have hts : ∀ w ∈ ng_tbl, w.before ([.ref (atr 0), .int x1, .int x2] : List Value).toArray s = true := fun w h => hts0 w (List.mem_cons_of_mem _ h)
  have hown : s.vm.findClass "CeilingRows$Trial" = some m.cls := findClass_of_methodNamed B.named
  have hlocks := B.notSynchronized
  subst hsz
  have hD := hD0.self (sz := s.heap.size)
  generalize hAe : va_A (cw_Plan cI cZ cO apl pl ++ cw_Trial cI cZ cO atr apl atb tr ++ cw_Board cI cZ cO atb apl tb) s.heap.size = A at hD ⊢
  have hA : ∀ q : Nat, s.heap.size ≤ q → A q := fun q h => by rw [← hAe]; exact Or.inr h
  have hS : va_S A s.heap s.heap [] := va_S.rf
  have hP : va_P (dC, dI) vwCl (cw_Plan cI cZ cO apl pl ++ cw_Trial cI cZ cO atr apl atb tr ++ cw_Board cI cZ cO atb apl tb) s.heap := hP
  have hl := lv_entry ([.ref (atr 0), .int x1, .int x2]) (n := 6) (Nat.le_of_ble_eq_true rfl)
  rw [lg_entry_eq]
  generalize (lg_sl ([.ref (atr 0), .int x1, .int x2]) ++ List.replicate (6 - (lg_sl ([.ref (atr 0), .int x1, .int x2])).length) Slot.unset).toArray = ls at hl ⊢
  have hl : lv_has ls 6 [(0, .ref (atr 0)), (1, .int x1), (2, .int x2)] := hl
  have k_0 : (0 : Int32).toInt = 0 := by decide
  have k_1 : (1 : Int32).toInt = 1 := by decide
  obtain ⟨tgt, hT⟩ : ∃ z, md_Trial_resourceAt pl tr tb x1 x2 = z := ⟨_, rfl⟩
  have hM := hT
  unfold md_Trial_resourceAt at hM
  refine lv_iconst (v := 1) hx hb nd_Trial_resourceAt_0 (by decide) ?_
  refine lv_istore_n (lv' := [(3, .int (1 : Int32)), (0, .ref (atr 0)), (1, .int x1), (2, .int x2)]) hx hb nd_Trial_resourceAt_1 rfl hl (by decide) rfl (fun ls hl => ?_)
  refine lv_iconst (v := 1) hx hb nd_Trial_resourceAt_2 (by decide) ?_
  refine lv_istore (lv' := [(4, .int (1 : Int32)), (3, .int (1 : Int32)), (0, .ref (atr 0)), (1, .int x1), (2, .int x2)]) hx hb nd_Trial_resourceAt_3 hl (by decide) rfl (fun ls hl => ?_)
  have hl := lv_sub hl [2, 3, 4, 1, 0] rfl
  have lp_5 : ∀ (n_5 : Nat) (v3_5 : Int32) (v4_5 : Int32), (1 ≤ v4_5.toInt ∧ v4_5.toInt ≤ 9) → (9 < v4_5.toInt + (n_5 : Int)) → lo_Trial_resourceAt_5 pl tr tb x1 x2 n_5 v3_5 v4_5 = tgt → ∀ (H : Heap) (locs : List Loc), va_P (dC, dI) vwCl (cw_Plan cI cZ cO apl pl ++ cw_Trial cI cZ cO atr apl atb tr ++ cw_Board cI cZ cO atb apl tb) H → va_D A (cw_Plan cI cZ cO apl pl ++ cw_Trial cI cZ cO atr apl atb tr ++ cw_Board cI cZ cO atb apl tb) → va_S A s.heap H locs → ∀ ls : Array Slot, lv_has ls 6 [(0, .ref (atr 0)), (1, .int x1), (2, .int x2), (3, .int v3_5), (4, .int v4_5)] → W p l e (headSpec nw_Trial_resourceAt ({ frames := 2, cells := 0, slots := 0, locals := 43 } : Room)).room s m ([.ref (atr 0), .int x1, .int x2] : List Value).toArray below meth c H locs 0 0 (MQ below (pq_Trial_resourceAt dC dI cI cZ cO apl atr atb pl tr tb x1 x2 A) ([.ref (atr 0), .int x1, .int x2] : List Value).toArray s 0 0 A) (F0 m 5 ls []) := by
    intro n_5
    induction n_5 with
    | zero =>
      intro v3_5 v4_5 hv4_5 hn_5
      exfalso; omega
    | succ n_5 ih_5 =>
      intro v3_5 v4_5 hv4_5 hn_5 hM H locs hP hD hS ls hl
      have hn_5 : 9 < v4_5.toInt + ((n_5 : Int) + 1) := by omega
      rw [lo_Trial_resourceAt_5] at hM
      refine lv_iload hx hb nd_Trial_resourceAt_5 (lv_at hl 4 rfl) ?_
      refine lv_aload_n hx hb nd_Trial_resourceAt_7 rfl (lv_at hl 0 rfl) ?_
      refine va_get (D := (dC, dI)) (ci := 3) (v := .ref (apl 0)) (C := "CeilingRows$Trial") (T := nf_Trial) (N := 5) hx hb hts nin_Trial hown hK hP 17 rfl rfl 0 (by decide) (hts _ tw_122) (fun _ h9 => h9) rfl nd_Trial_resourceAt_8 ?_
      refine va_get (D := (dC, dI)) (ci := 0) (v := .int (pl 0 1)) (C := "CeilingRows$Plan") (T := nf_Plan) (N := 7) hx hb hts nin_Plan hown hK hP 0 rfl rfl 1 (by decide) (hts _ tw_33) (fun _ h9 => h9) rfl nd_Trial_resourceAt_11 ?_
      have f_1 := cr_rfo hR_pl.2.1
      refine lv_icmp_gt (tgt := 66) hx hb nd_Trial_resourceAt_14 (by decide) (fun c_2 => ?_) (fun c_2 => ?_)
      · have c_2t := cr_lt c_2
        rw [if_pos c_2] at hM
        refine lv_iconst (v := 0) hx hb nd_Trial_resourceAt_66 (by decide) ?_
        exact W.iret (v := (0 : Int32)) hx hb hr (fun t ht hW => ⟨⟨(0 : Int32), (), rfl, ⟨by rw [hT, ← hM], by omega⟩, by rw [ht]; exact hP, va_K.moved hW.alike hK, hD⟩, hS.F ht⟩) hS.2.2 nd_Trial_resourceAt_67
      · have c_2t := cr_nlt c_2
        rw [if_neg c_2] at hM
        refine lv_aload_n hx hb nd_Trial_resourceAt_17 rfl (lv_at hl 0 rfl) ?_
        refine va_get (D := (dC, dI)) (ci := 3) (v := .ref (apl 0)) (C := "CeilingRows$Trial") (T := nf_Trial) (N := 5) hx hb hts nin_Trial hown hK hP 17 rfl rfl 0 (by decide) (hts _ tw_122) (fun _ h9 => h9) rfl nd_Trial_resourceAt_18 ?_
        refine lv_iload_n hx hb nd_Trial_resourceAt_21 rfl (lv_at hl 1 rfl) ?_
        refine lv_iload hx hb nd_Trial_resourceAt_22 (lv_at hl 4 rfl) ?_
        have hPc := hP.sub (ws' := cw_Plan cI cZ cO apl pl) [0, 1, 2, 3, 4, 5, 6, 7, 8, 9, 10, 11, 12, 13, 14, 15, 16] rfl
        have hDc := hD.sub (ws' := cw_Plan cI cZ cO apl pl) [0, 1, 2, 3, 4, 5, 6, 7, 8, 9, 10, 11, 12, 13, 14, 15, 16] (by decide) rfl
        have hFc := va_free (wc := cw_Plan cI cZ cO apl pl) hD hS hA [0, 1, 2, 3, 4, 5, 6, 7, 8, 9, 10, 11, 12, 13, 14, 15, 16] rfl
        refine va_calli (va_runV (As := [.int x1, .int v4_5]) (rest := []) ⟨hx, hb, hml, hown, hts⟩ (ct_Plan_isUsedBy l dC dI cI cZ cO apl H.size pl x1 v4_5 hR_pl (by omega) (by omega)) (cwV 2 hts (ng_V tw_376 tw_199 tw_200 tw_2 tw_201) rfl rfl rfl (by decide +kernel) ⟨Nat.le_of_ble_eq_true rfl, Nat.le_of_ble_eq_true rfl⟩) ⟨fun a U g mk q => by obtain ⟨q0, q1, qP, qK, qD⟩ := q; exact ⟨q0, q1, qP, va_K.moved (u := U) (U := U.calling g mk a) (Vm.Alike.refl U.vm) qK, qD⟩, va_recv hK hPc (ci := 0) (q0 := 0) rfl rfl, fun U hU hW => ⟨rfl, by rw [hU], by rw [hU]; exact hPc, va_K.moved hW.alike hK, hDc.weaken (fun _ _ _ _ => trivial)⟩⟩ rfl rfl hl.1 rfl (lv_room (Nat.le_of_ble_eq_true rfl)) nd_Trial_resourceAt_24 ⟨Nat.zero_le _, Nat.zero_le _⟩) hS (fun q _ h => hFc q h) hFc (fun r_3 u t H1 locs ht hvm hw hB hz1 hk1 hS => ?_)
        obtain ⟨hP1, hK1, hD1⟩ := hB
        rw [ht] at hP1
        have w_4 := hw
        try rw [← w_4] at hM
        obtain ⟨hP, hD⟩ := va_join (wr := cw_Trial cI cZ cO atr apl atb tr ++ cw_Board cI cZ cO atb apl tb) (w1 := cw_Plan cI cZ cO apl pl) hP hD [0, 1, 2, 3, 4, 5, 6, 7, 8, 9, 10, 11, 12, 13, 14, 15, 16] [17, 18, 19, 20, 21, 22, 23, 24, 25, 26, 27, 28, 29, 30, 31, 32, 33, 34, 35, 36] rfl rfl (by decide) (by decide) hk1 hFc hP1 hD1
        have hP := hP.sub (ws' := cw_Plan cI cZ cO apl pl ++ cw_Trial cI cZ cO atr apl atb tr ++ cw_Board cI cZ cO atb apl tb) [20, 21, 22, 23, 24, 25, 26, 27, 28, 29, 30, 31, 32, 33, 34, 35, 36, 0, 1, 2, 3, 4, 5, 6, 7, 8, 9, 10, 11, 12, 13, 14, 15, 16, 17, 18, 19] rfl
        have hD := hD.sub (ws' := cw_Plan cI cZ cO apl pl ++ cw_Trial cI cZ cO atr apl atb tr ++ cw_Board cI cZ cO atb apl tb) [20, 21, 22, 23, 24, 25, 26, 27, 28, 29, 30, 31, 32, 33, 34, 35, 36, 0, 1, 2, 3, 4, 5, 6, 7, 8, 9, 10, 11, 12, 13, 14, 15, 16, 17, 18, 19] (by decide) rfl
        generalize H1 = H at hP hS ⊢
        refine lv_if_eq (tgt := 60) hx hb nd_Trial_resourceAt_27 (by decide) (fun c_5 => ?_) (fun c_5 => ?_)
        · have c_5t := cr_eq c_5
          rw [if_pos c_5] at hM
          have e_6 : (v4_5 + (1 : Int32)).toInt = v4_5.toInt + (1 : Int32).toInt := cr_add (by omega)
          refine lv_iinc (v := (v4_5 + (1 : Int32))) (lv' := [(4, .int (v4_5 + (1 : Int32))), (0, .ref (atr 0)), (1, .int x1), (2, .int x2), (3, .int v3_5)]) hx hb nd_Trial_resourceAt_60 hl (k := 4) rfl (by rfl) (by decide) rfl (fun ls hl => ?_)
          refine lv_goto (tgt := 5) hx hb nd_Trial_resourceAt_63 (by decide) ?_
          exact ih_5 v3_5 (v4_5 + (1 : Int32)) (by omega) (by omega) hM _ _ hP hD hS _ (lv_sub hl [1, 2, 3, 4, 0] rfl)
        · have c_5t := cr_ne c_5
          rw [if_neg c_5] at hM
          refine lv_iload_n hx hb nd_Trial_resourceAt_30 rfl (lv_at hl 3 rfl) ?_
          refine lv_aload_n hx hb nd_Trial_resourceAt_31 rfl (lv_at hl 0 rfl) ?_
          refine lv_iload_n hx hb nd_Trial_resourceAt_32 rfl (lv_at hl 1 rfl) ?_
          refine lv_iload hx hb nd_Trial_resourceAt_33 (lv_at hl 4 rfl) ?_
          have hPc := hP
          have hDc := hD
          have hFc := va_free (wc := cw_Plan cI cZ cO apl pl ++ cw_Trial cI cZ cO atr apl atb tr ++ cw_Board cI cZ cO atb apl tb) hD hS hA [0, 1, 2, 3, 4, 5, 6, 7, 8, 9, 10, 11, 12, 13, 14, 15, 16, 17, 18, 19, 20, 21, 22, 23, 24, 25, 26, 27, 28, 29, 30, 31, 32, 33, 34, 35, 36] rfl
          refine va_calli (va_runV (As := [.int x1, .int v4_5]) (rest := [.int v3_5]) ⟨hx, hb, hml, hown, hts⟩ (ct_Trial_ticksWith l dC dI cI cZ cO apl atr atb H.size pl tr tb x1 v4_5 hR_tb hR_pl (by omega) (by omega)) (cwV 2 hts (ng_V tw_377 tw_379 tp_14 tw_5 tw_380) rfl rfl rfl (by decide +kernel) ⟨Nat.le_of_ble_eq_true rfl, Nat.le_of_ble_eq_true rfl⟩) ⟨fun a U g mk q => by obtain ⟨q0, q1, qP, qK, qD⟩ := q; exact ⟨q0, q1, qP, va_K.moved (u := U) (U := U.calling g mk a) (Vm.Alike.refl U.vm) qK, qD⟩, va_recv hK hPc (ci := 3) (q0 := 17) rfl rfl, fun U hU hW => ⟨rfl, by rw [hU], by rw [hU]; exact hPc, va_K.moved hW.alike hK, hDc.weaken (fun _ _ _ _ => trivial)⟩⟩ rfl rfl hl.1 rfl (lv_room (Nat.le_of_ble_eq_true rfl)) nd_Trial_resourceAt_35 ⟨Nat.zero_le _, Nat.zero_le _⟩) hS (fun q _ h => hFc q h) hFc (fun r_7 u t H1 locs ht hvm hw hB hz1 hk1 hS => ?_)
          obtain ⟨hP1, hK1, hD1⟩ := hB
          rw [ht] at hP1
          have w_8 := hw
          try rw [← w_8] at hM
          have hP := hP1
          have hD := cr_Dw hD1 hFc
          generalize H1 = H at hP hS ⊢
          refine lv_iadd hx hb nd_Trial_resourceAt_38 ?_
          refine lv_istore (lv' := [(5, .int (v3_5 + r_7)), (0, .ref (atr 0)), (1, .int x1), (2, .int x2), (3, .int v3_5), (4, .int v4_5)]) hx hb nd_Trial_resourceAt_39 hl (by decide) rfl (fun ls hl => ?_)
          refine lv_iload_n hx hb nd_Trial_resourceAt_41 rfl (lv_at hl 3 rfl) ?_
          refine lv_iload_n hx hb nd_Trial_resourceAt_42 rfl (lv_at hl 4 rfl) ?_
          refine lv_icmp_lt (tgt := 55) hx hb nd_Trial_resourceAt_43 (by decide) (fun c_9 => ?_) (fun c_9 => ?_)
          · have c_9t := cr_lt c_9
            rw [if_pos c_9] at hM
            refine lv_iload hx hb nd_Trial_resourceAt_55 (lv_at hl 0 rfl) ?_
            refine lv_iconst (v := 1) hx hb nd_Trial_resourceAt_57 (by decide) ?_
            refine lv_iadd hx hb nd_Trial_resourceAt_58 ?_
            refine lv_istore_n (lv' := [(3, .int ((v3_5 + r_7) + (1 : Int32))), (5, .int (v3_5 + r_7)), (0, .ref (atr 0)), (1, .int x1), (2, .int x2), (4, .int v4_5)]) hx hb nd_Trial_resourceAt_59 rfl hl (by decide) rfl (fun ls hl => ?_)
            have e_10 : (v4_5 + (1 : Int32)).toInt = v4_5.toInt + (1 : Int32).toInt := cr_add (by omega)
            refine lv_iinc (v := (v4_5 + (1 : Int32))) (lv' := [(4, .int (v4_5 + (1 : Int32))), (3, .int ((v3_5 + r_7) + (1 : Int32))), (5, .int (v3_5 + r_7)), (0, .ref (atr 0)), (1, .int x1), (2, .int x2)]) hx hb nd_Trial_resourceAt_60 hl (k := 5) rfl (by rfl) (by decide) rfl (fun ls hl => ?_)
            refine lv_goto (tgt := 5) hx hb nd_Trial_resourceAt_63 (by decide) ?_
            exact ih_5 ((v3_5 + r_7) + (1 : Int32)) (v4_5 + (1 : Int32)) (by omega) (by omega) hM _ _ hP hD hS _ (lv_sub hl [3, 4, 5, 1, 0] rfl)
          · have c_9t := cr_nlt c_9
            rw [if_neg c_9] at hM
            refine lv_iload_n hx hb nd_Trial_resourceAt_46 rfl (lv_at hl 3 rfl) ?_
            refine lv_iload hx hb nd_Trial_resourceAt_47 (lv_at hl 0 rfl) ?_
            refine lv_icmp_ge (tgt := 55) hx hb nd_Trial_resourceAt_49 (by decide) (fun c_11 => ?_) (fun c_11 => ?_)
            · have c_11t := cr_le c_11
              rw [if_pos c_11] at hM
              refine lv_iload hx hb nd_Trial_resourceAt_55 (lv_at hl 0 rfl) ?_
              refine lv_iconst (v := 1) hx hb nd_Trial_resourceAt_57 (by decide) ?_
              refine lv_iadd hx hb nd_Trial_resourceAt_58 ?_
              refine lv_istore_n (lv' := [(3, .int ((v3_5 + r_7) + (1 : Int32))), (5, .int (v3_5 + r_7)), (0, .ref (atr 0)), (1, .int x1), (2, .int x2), (4, .int v4_5)]) hx hb nd_Trial_resourceAt_59 rfl hl (by decide) rfl (fun ls hl => ?_)
              have e_12 : (v4_5 + (1 : Int32)).toInt = v4_5.toInt + (1 : Int32).toInt := cr_add (by omega)
              refine lv_iinc (v := (v4_5 + (1 : Int32))) (lv' := [(4, .int (v4_5 + (1 : Int32))), (3, .int ((v3_5 + r_7) + (1 : Int32))), (5, .int (v3_5 + r_7)), (0, .ref (atr 0)), (1, .int x1), (2, .int x2)]) hx hb nd_Trial_resourceAt_60 hl (k := 5) rfl (by rfl) (by decide) rfl (fun ls hl => ?_)
              refine lv_goto (tgt := 5) hx hb nd_Trial_resourceAt_63 (by decide) ?_
              exact ih_5 ((v3_5 + r_7) + (1 : Int32)) (v4_5 + (1 : Int32)) (by omega) (by omega) hM _ _ hP hD hS _ (lv_sub hl [3, 4, 5, 1, 0] rfl)
            · have c_11t := cr_nle c_11
              rw [if_neg c_11] at hM
              refine lv_iload hx hb nd_Trial_resourceAt_52 (lv_at hl 5 rfl) ?_
              exact W.iret (v := v4_5) hx hb hr (fun t ht hW => ⟨⟨v4_5, (), rfl, ⟨by rw [hT, ← hM], by omega⟩, by rw [ht]; exact hP, va_K.moved hW.alike hK, hD⟩, hS.F ht⟩) hS.2.2 nd_Trial_resourceAt_54
  exact lp_5 9 (1 : Int32) (1 : Int32) (by omega) (by omega) hM _ _ hP hD hS _ hl

theorem nd_Trial_noteDelays_0 : decode prog_5_method_6_code 0 = .ok (.iconst 1, 1) := by decide +kernel
theorem nd_Trial_noteDelays_1 : decode prog_5_method_6_code 1 = .ok (.istore_n 3, 1) := by decide +kernel
theorem nd_Trial_noteDelays_2 : decode prog_5_method_6_code 2 = .ok (.iload_n 3, 1) := by decide +kernel
theorem nd_Trial_noteDelays_3 : decode prog_5_method_6_code 3 = .ok (.aload_n 0, 1) := by decide +kernel
theorem nd_Trial_noteDelays_4 : decode prog_5_method_6_code 4 = .ok (.getfield 20, 3) := by decide +kernel
theorem nd_Trial_noteDelays_7 : decode prog_5_method_6_code 7 = .ok (.getfield 40, 3) := by decide +kernel
theorem nd_Trial_noteDelays_10 : decode prog_5_method_6_code 10 = .ok (.if_icmp .gt (48), 3) := by decide +kernel
theorem nd_Trial_noteDelays_13 : decode prog_5_method_6_code 13 = .ok (.aload_n 0, 1) := by decide +kernel
theorem nd_Trial_noteDelays_14 : decode prog_5_method_6_code 14 = .ok (.getfield 29, 3) := by decide +kernel
theorem nd_Trial_noteDelays_17 : decode prog_5_method_6_code 17 = .ok (.getfield 100, 3) := by decide +kernel
theorem nd_Trial_noteDelays_20 : decode prog_5_method_6_code 20 = .ok (.iload_n 3, 1) := by decide +kernel
theorem nd_Trial_noteDelays_21 : decode prog_5_method_6_code 21 = .ok (.iaload, 1) := by decide +kernel
theorem nd_Trial_noteDelays_22 : decode prog_5_method_6_code 22 = .ok (.iconst 1, 1) := by decide +kernel
theorem nd_Trial_noteDelays_23 : decode prog_5_method_6_code 23 = .ok (.if_icmp .ne (29), 3) := by decide +kernel
theorem nd_Trial_noteDelays_26 : decode prog_5_method_6_code 26 = .ok (.aload_n 0, 1) := by decide +kernel
theorem nd_Trial_noteDelays_27 : decode prog_5_method_6_code 27 = .ok (.getfield 20, 3) := by decide +kernel
theorem nd_Trial_noteDelays_30 : decode prog_5_method_6_code 30 = .ok (.iload_n 1, 1) := by decide +kernel
theorem nd_Trial_noteDelays_31 : decode prog_5_method_6_code 31 = .ok (.iload_n 3, 1) := by decide +kernel
theorem nd_Trial_noteDelays_32 : decode prog_5_method_6_code 32 = .ok (.invokevirtual 103, 3) := by decide +kernel
theorem nd_Trial_noteDelays_35 : decode prog_5_method_6_code 35 = .ok (.ifCond .eq (17), 3) := by decide +kernel
theorem nd_Trial_noteDelays_38 : decode prog_5_method_6_code 38 = .ok (.aload_n 0, 1) := by decide +kernel
theorem nd_Trial_noteDelays_39 : decode prog_5_method_6_code 39 = .ok (.getfield 17, 3) := by decide +kernel
theorem nd_Trial_noteDelays_42 : decode prog_5_method_6_code 42 = .ok (.iload_n 3, 1) := by decide +kernel
theorem nd_Trial_noteDelays_43 : decode prog_5_method_6_code 43 = .ok (.aaload, 1) := by decide +kernel
theorem nd_Trial_noteDelays_44 : decode prog_5_method_6_code 44 = .ok (.iload_n 1, 1) := by decide +kernel
theorem nd_Trial_noteDelays_45 : decode prog_5_method_6_code 45 = .ok (.dup2, 1) := by decide +kernel
theorem nd_Trial_noteDelays_46 : decode prog_5_method_6_code 46 = .ok (.iaload, 1) := by decide +kernel
theorem nd_Trial_noteDelays_47 : decode prog_5_method_6_code 47 = .ok (.iconst 1, 1) := by decide +kernel
theorem nd_Trial_noteDelays_48 : decode prog_5_method_6_code 48 = .ok (.iload_n 2, 1) := by decide +kernel
theorem nd_Trial_noteDelays_49 : decode prog_5_method_6_code 49 = .ok (.ishl, 1) := by decide +kernel
theorem nd_Trial_noteDelays_50 : decode prog_5_method_6_code 50 = .ok (.ior, 1) := by decide +kernel
theorem nd_Trial_noteDelays_51 : decode prog_5_method_6_code 51 = .ok (.iastore, 1) := by decide +kernel
theorem nd_Trial_noteDelays_52 : decode prog_5_method_6_code 52 = .ok (.iinc 3 1, 3) := by decide +kernel
theorem nd_Trial_noteDelays_55 : decode prog_5_method_6_code 55 = .ok (.goto (-53), 3) := by decide +kernel
theorem nd_Trial_noteDelays_58 : decode prog_5_method_6_code 58 = .ok (.return_, 1) := by decide +kernel
def lo_Trial_noteDelays_2 (pl : cr_S) (tb : cr_S) (x1 : Int32) (x2 : Int32) : Nat → cr_S → Int32 → cr_S
  | 0, tr_2, _ => tr_2
  | n_2 + 1, tr_2, v3_2 =>
    (if (pl 0 0) < v3_2 then tr_2 else (if (tb 1 v3_2.toNatClampNeg) = (1 : Int32) then (if (md_Plan_isBelow pl x1 v3_2) = 0 then (lo_Trial_noteDelays_2 pl tb x1 x2 n_2 tr_2 (v3_2 + (1 : Int32))) else (lo_Trial_noteDelays_2 pl tb x1 x2 n_2 (cr_up tr_2 (3 + v3_2.toNatClampNeg) x1.toNatClampNeg ((tr_2 (3 + v3_2.toNatClampNeg) x1.toNatClampNeg) ||| ((1 : Int32) <<< (x2 &&& 31)))) (v3_2 + (1 : Int32)))) else (lo_Trial_noteDelays_2 pl tb x1 x2 n_2 tr_2 (v3_2 + (1 : Int32)))))
def md_Trial_noteDelays (pl : cr_S) (tr : cr_S) (tb : cr_S) (x1 : Int32) (x2 : Int32) : cr_S :=
  (lo_Trial_noteDelays_2 pl tb x1 x2 11 tr (1 : Int32))
abbrev pq_Trial_noteDelays (dC : Nat → ClassId) (dI : Nat → Nat → Nat) (cI cZ cO : ClassId) (apl atr atb : Nat → Nat) (pl : cr_S) (tr : cr_S) (tb : cr_S) (x1 : Int32) (x2 : Int32) (A : Nat → Prop) : Array Value → State → Outcome → State → Prop :=
  va_Qv (fun (tr' : cr_S) => tr' = md_Trial_noteDelays pl tr tb x1 x2) (fun (tr' : cr_S) t => va_P (dC, dI) vwCl (cw_Plan cI cZ cO apl pl ++ cw_Trial cI cZ cO atr apl atb tr' ++ cw_Board cI cZ cO atb apl tb) t.heap ∧ va_K (dC, dI) vwCl [(cI, .int), (cZ, .boolean), (cO, .array .int)] t ∧ va_D A (cw_Plan cI cZ cO apl pl ++ cw_Trial cI cZ cO atr apl atb tr' ++ cw_Board cI cZ cO atb apl tb)) A
set_option maxHeartbeats 4000000 in
set_option maxRecDepth 100000 in
theorem ct_Trial_noteDelays (l : Launch) (dC : Nat → ClassId) (dI : Nat → Nat → Nat) (cI cZ cO : ClassId) (apl atr atb : Nat → Nat) (sz : Nat) (pl : cr_S) (tr : cr_S) (tb : cr_S) (x1 : Int32) (x2 : Int32) (hR_tb : cr_RBoard tb) (hR_pl : cr_RPlan pl) (hx1 : 0 ≤ x1.toInt ∧ x1.toInt ≤ 10) : Met l ny_Trial_noteDelays nw_Trial_noteDelays ({ frames := 1, cells := 0, slots := 0, locals := 22 } : Room) (va_Pc [.ref (atr 0), .int x1, .int x2] (fun U => U.heap.size = sz ∧ va_P (dC, dI) vwCl (cw_Plan cI cZ cO apl pl ++ cw_Trial cI cZ cO atr apl atb tr ++ cw_Board cI cZ cO atb apl tb) U.heap ∧ va_K (dC, dI) vwCl [(cI, .int), (cZ, .boolean), (cO, .array .int)] U ∧ va_D (fun _ => True) (cw_Plan cI cZ cO apl pl ++ cw_Trial cI cZ cO atr apl atb tr ++ cw_Board cI cZ cO atb apl tb))) (pq_Trial_noteDelays dC dI cI cZ cO apl atr atb pl tr tb x1 x2 (va_A (cw_Plan cI cZ cO apl pl ++ cw_Trial cI cZ cO atr apl atb tr ++ cw_Board cI cZ cO atb apl tb) sz)) 0 0 (va_A (cw_Plan cI cZ cO apl pl ++ cw_Trial cI cZ cO atr apl atb tr ++ cw_Board cI cZ cO atb apl tb) sz) := by
  refine Met.ofW (cc := prog_5_method_6_code) (maxL := 4) (ret := none) (by decide) rfl ?_
  intro p e s m args below meth c s₁ B hml hv
  obtain ⟨rfl, hsz, hP, hK, hD0⟩ := hv
  have hx := B.exec
  have hb := B.bytes
  have hr := B.returns
  have hts0 := atoms_spec (ws := nw_Trial_noteDelays) B.pre
  have hts : ∀ w ∈ ng_tbl, w.before ([.ref (atr 0), .int x1, .int x2] : List Value).toArray s = true := fun w h => hts0 w (List.mem_cons_of_mem _ h)
  have hown : s.vm.findClass "CeilingRows$Trial" = some m.cls := findClass_of_methodNamed B.named
  have hlocks := B.notSynchronized
  subst hsz
  have hD := hD0.self (sz := s.heap.size)
  generalize hAe : va_A (cw_Plan cI cZ cO apl pl ++ cw_Trial cI cZ cO atr apl atb tr ++ cw_Board cI cZ cO atb apl tb) s.heap.size = A at hD ⊢
  have hA : ∀ q : Nat, s.heap.size ≤ q → A q := fun q h => by rw [← hAe]; exact Or.inr h
  have hS : va_S A s.heap s.heap [] := va_S.rf
  have hP : va_P (dC, dI) vwCl (cw_Plan cI cZ cO apl pl ++ cw_Trial cI cZ cO atr apl atb tr ++ cw_Board cI cZ cO atb apl tb) s.heap := hP
  have hl := lv_entry ([.ref (atr 0), .int x1, .int x2]) (n := 4) (Nat.le_of_ble_eq_true rfl)
  rw [lg_entry_eq]
  generalize (lg_sl ([.ref (atr 0), .int x1, .int x2]) ++ List.replicate (4 - (lg_sl ([.ref (atr 0), .int x1, .int x2])).length) Slot.unset).toArray = ls at hl ⊢
  have hl : lv_has ls 4 [(0, .ref (atr 0)), (1, .int x1), (2, .int x2)] := hl
  have k_0 : (0 : Int32).toInt = 0 := by decide
  have k_1 : (1 : Int32).toInt = 1 := by decide
  obtain ⟨tgt, hT⟩ : ∃ z, md_Trial_noteDelays pl tr tb x1 x2 = z := ⟨_, rfl⟩
  have hM := hT
  unfold md_Trial_noteDelays at hM
  refine lv_iconst (v := 1) hx hb nd_Trial_noteDelays_0 (by decide) ?_
  refine lv_istore_n (lv' := [(3, .int (1 : Int32)), (0, .ref (atr 0)), (1, .int x1), (2, .int x2)]) hx hb nd_Trial_noteDelays_1 rfl hl (by decide) rfl (fun ls hl => ?_)
  have hl := lv_sub hl [1, 2, 3, 0] rfl
  have lp_2 : ∀ (n_2 : Nat) (tr_2 : cr_S) (v3_2 : Int32), (1 ≤ v3_2.toInt ∧ v3_2.toInt ≤ 11) → (11 < v3_2.toInt + (n_2 : Int)) → lo_Trial_noteDelays_2 pl tb x1 x2 n_2 tr_2 v3_2 = tgt → ∀ (H : Heap) (locs : List Loc), va_P (dC, dI) vwCl (cw_Plan cI cZ cO apl pl ++ cw_Trial cI cZ cO atr apl atb tr_2 ++ cw_Board cI cZ cO atb apl tb) H → va_D A (cw_Plan cI cZ cO apl pl ++ cw_Trial cI cZ cO atr apl atb tr_2 ++ cw_Board cI cZ cO atb apl tb) → va_S A s.heap H locs → ∀ ls : Array Slot, lv_has ls 4 [(0, .ref (atr 0)), (1, .int x1), (2, .int x2), (3, .int v3_2)] → W p l e (headSpec nw_Trial_noteDelays ({ frames := 1, cells := 0, slots := 0, locals := 22 } : Room)).room s m ([.ref (atr 0), .int x1, .int x2] : List Value).toArray below meth c H locs 0 0 (MQ below (pq_Trial_noteDelays dC dI cI cZ cO apl atr atb pl tr tb x1 x2 A) ([.ref (atr 0), .int x1, .int x2] : List Value).toArray s 0 0 A) (F0 m 2 ls []) := by
    intro n_2
    induction n_2 with
    | zero =>
      intro tr_2 v3_2 hv3_2 hn_2
      exfalso; omega
    | succ n_2 ih_2 =>
      intro tr_2 v3_2 hv3_2 hn_2 hM H locs hP hD hS ls hl
      have hn_2 : 11 < v3_2.toInt + ((n_2 : Int) + 1) := by omega
      rw [lo_Trial_noteDelays_2] at hM
      refine lv_iload_n hx hb nd_Trial_noteDelays_2 rfl (lv_at hl 3 rfl) ?_
      refine lv_aload_n hx hb nd_Trial_noteDelays_3 rfl (lv_at hl 0 rfl) ?_
      refine va_get (D := (dC, dI)) (ci := 3) (v := .ref (apl 0)) (C := "CeilingRows$Trial") (T := nf_Trial) (N := 5) hx hb hts nin_Trial hown hK hP 17 rfl rfl 0 (by decide) (hts _ tw_122) (fun _ h9 => h9) rfl nd_Trial_noteDelays_4 ?_
      refine va_get (D := (dC, dI)) (ci := 0) (v := .int (pl 0 0)) (C := "CeilingRows$Plan") (T := nf_Plan) (N := 7) hx hb hts nin_Plan hown hK hP 0 rfl rfl 0 (by decide) (hts _ tw_27) (fun _ h9 => h9) rfl nd_Trial_noteDelays_7 ?_
      have f_1 := cr_rfo hR_pl.1
      refine lv_icmp_gt (tgt := 58) hx hb nd_Trial_noteDelays_10 (by decide) (fun c_2 => ?_) (fun c_2 => ?_)
      · have c_2t := cr_lt c_2
        rw [if_pos c_2] at hM
        exact W.vret hx hb hr (fun t ht hW => ⟨⟨tr_2, rfl, by rw [hT, ← hM], by rw [ht]; exact hP, va_K.moved hW.alike hK, hD⟩, hS.F ht⟩) hS.2.2 nd_Trial_noteDelays_58
      · have c_2t := cr_nlt c_2
        rw [if_neg c_2] at hM
        refine lv_aload_n hx hb nd_Trial_noteDelays_13 rfl (lv_at hl 0 rfl) ?_
        refine va_get (D := (dC, dI)) (ci := 3) (v := .ref (atb 0)) (C := "CeilingRows$Trial") (T := nf_Trial) (N := 5) hx hb hts nin_Trial hown hK hP 17 rfl rfl 1 (by decide) (hts _ tw_123) (fun _ h9 => h9) rfl nd_Trial_noteDelays_14 ?_
        refine va_get (D := (dC, dI)) (ci := 1) (v := .ref (atb 1)) (C := "CeilingRows$Board") (T := nf_Board) (N := 7) hx hb hts nin_Board hown hK hP 31 rfl rfl 1 (by decide) (hts _ tw_69) (fun _ h9 => h9) rfl nd_Trial_noteDelays_17 ?_
        refine lv_iload_n hx hb nd_Trial_noteDelays_20 rfl (lv_at hl 3 rfl) ?_
        have b_3 : vp_in v3_2 11 := vp_in_iff.mpr (by omega)
        refine va_iald hx hb hK hP 32 0 rfl rfl b_3 nd_Trial_noteDelays_21 ?_
        refine lv_iconst (v := 1) hx hb nd_Trial_noteDelays_22 (by decide) ?_
        refine lv_icmp_ne (tgt := 52) hx hb nd_Trial_noteDelays_23 (by decide) (fun c_4 => ?_) (fun c_4 => ?_)
        · have c_4t := cr_ne c_4
          rw [if_neg c_4] at hM
          have e_5 : (v3_2 + (1 : Int32)).toInt = v3_2.toInt + (1 : Int32).toInt := cr_add (by omega)
          refine lv_iinc (v := (v3_2 + (1 : Int32))) (lv' := [(3, .int (v3_2 + (1 : Int32))), (0, .ref (atr 0)), (1, .int x1), (2, .int x2)]) hx hb nd_Trial_noteDelays_52 hl (k := 3) rfl (by rfl) (by decide) rfl (fun ls hl => ?_)
          refine lv_goto (tgt := 2) hx hb nd_Trial_noteDelays_55 (by decide) ?_
          exact ih_2 tr_2 (v3_2 + (1 : Int32)) (by omega) (by omega) hM _ _ hP hD hS _ (lv_sub hl [1, 2, 3, 0] rfl)
        · have c_4t := cr_eq c_4
          rw [if_pos c_4] at hM
          refine lv_aload_n hx hb nd_Trial_noteDelays_26 rfl (lv_at hl 0 rfl) ?_
          refine va_get (D := (dC, dI)) (ci := 3) (v := .ref (apl 0)) (C := "CeilingRows$Trial") (T := nf_Trial) (N := 5) hx hb hts nin_Trial hown hK hP 17 rfl rfl 0 (by decide) (hts _ tw_122) (fun _ h9 => h9) rfl nd_Trial_noteDelays_27 ?_
          refine lv_iload_n hx hb nd_Trial_noteDelays_30 rfl (lv_at hl 1 rfl) ?_
          refine lv_iload_n hx hb nd_Trial_noteDelays_31 rfl (lv_at hl 3 rfl) ?_
          have hPc := hP.sub (ws' := cw_Plan cI cZ cO apl pl) [0, 1, 2, 3, 4, 5, 6, 7, 8, 9, 10, 11, 12, 13, 14, 15, 16] rfl
          have hDc := hD.sub (ws' := cw_Plan cI cZ cO apl pl) [0, 1, 2, 3, 4, 5, 6, 7, 8, 9, 10, 11, 12, 13, 14, 15, 16] (by decide) rfl
          have hFc := va_free (wc := cw_Plan cI cZ cO apl pl) hD hS hA [0, 1, 2, 3, 4, 5, 6, 7, 8, 9, 10, 11, 12, 13, 14, 15, 16] rfl
          refine va_calli (va_runV (As := [.int x1, .int v3_2]) (rest := []) ⟨hx, hb, hml, hown, hts⟩ (ct_Plan_isBelow l dC dI cI cZ cO apl H.size pl x1 v3_2 hR_pl (by omega) (by omega)) (cwV 2 hts (ng_V tw_389 tw_304 tw_305 tw_2 tw_306) rfl rfl rfl (by decide +kernel) ⟨Nat.le_of_ble_eq_true rfl, Nat.le_of_ble_eq_true rfl⟩) ⟨fun a U g mk q => by obtain ⟨q0, q1, qP, qK, qD⟩ := q; exact ⟨q0, q1, qP, va_K.moved (u := U) (U := U.calling g mk a) (Vm.Alike.refl U.vm) qK, qD⟩, va_recv hK hPc (ci := 0) (q0 := 0) rfl rfl, fun U hU hW => ⟨rfl, by rw [hU], by rw [hU]; exact hPc, va_K.moved hW.alike hK, hDc.weaken (fun _ _ _ _ => trivial)⟩⟩ rfl rfl hl.1 rfl (lv_room (Nat.le_of_ble_eq_true rfl)) nd_Trial_noteDelays_32 ⟨Nat.zero_le _, Nat.zero_le _⟩) hS (fun q _ h => hFc q h) hFc (fun r_6 u t H1 locs ht hvm hw hB hz1 hk1 hS => ?_)
          obtain ⟨hP1, hK1, hD1⟩ := hB
          rw [ht] at hP1
          have w_7 := hw
          try rw [← w_7] at hM
          obtain ⟨hP, hD⟩ := va_join (wr := cw_Trial cI cZ cO atr apl atb tr_2 ++ cw_Board cI cZ cO atb apl tb) (w1 := cw_Plan cI cZ cO apl pl) hP hD [0, 1, 2, 3, 4, 5, 6, 7, 8, 9, 10, 11, 12, 13, 14, 15, 16] [17, 18, 19, 20, 21, 22, 23, 24, 25, 26, 27, 28, 29, 30, 31, 32, 33, 34, 35, 36] rfl rfl (by decide) (by decide) hk1 hFc hP1 hD1
          have hP := hP.sub (ws' := cw_Plan cI cZ cO apl pl ++ cw_Trial cI cZ cO atr apl atb tr_2 ++ cw_Board cI cZ cO atb apl tb) [20, 21, 22, 23, 24, 25, 26, 27, 28, 29, 30, 31, 32, 33, 34, 35, 36, 0, 1, 2, 3, 4, 5, 6, 7, 8, 9, 10, 11, 12, 13, 14, 15, 16, 17, 18, 19] rfl
          have hD := hD.sub (ws' := cw_Plan cI cZ cO apl pl ++ cw_Trial cI cZ cO atr apl atb tr_2 ++ cw_Board cI cZ cO atb apl tb) [20, 21, 22, 23, 24, 25, 26, 27, 28, 29, 30, 31, 32, 33, 34, 35, 36, 0, 1, 2, 3, 4, 5, 6, 7, 8, 9, 10, 11, 12, 13, 14, 15, 16, 17, 18, 19] (by decide) rfl
          generalize H1 = H at hP hS ⊢
          refine lv_if_eq (tgt := 52) hx hb nd_Trial_noteDelays_35 (by decide) (fun c_8 => ?_) (fun c_8 => ?_)
          · have c_8t := cr_eq c_8
            rw [if_pos c_8] at hM
            have e_9 : (v3_2 + (1 : Int32)).toInt = v3_2.toInt + (1 : Int32).toInt := cr_add (by omega)
            refine lv_iinc (v := (v3_2 + (1 : Int32))) (lv' := [(3, .int (v3_2 + (1 : Int32))), (0, .ref (atr 0)), (1, .int x1), (2, .int x2)]) hx hb nd_Trial_noteDelays_52 hl (k := 3) rfl (by rfl) (by decide) rfl (fun ls hl => ?_)
            refine lv_goto (tgt := 2) hx hb nd_Trial_noteDelays_55 (by decide) ?_
            exact ih_2 tr_2 (v3_2 + (1 : Int32)) (by omega) (by omega) hM _ _ hP hD hS _ (lv_sub hl [1, 2, 3, 0] rfl)
          · have c_8t := cr_ne c_8
            rw [if_neg c_8] at hM
            refine lv_aload_n hx hb nd_Trial_noteDelays_38 rfl (lv_at hl 0 rfl) ?_
            refine va_get (D := (dC, dI)) (ci := 3) (v := .ref (atr 2)) (C := "CeilingRows$Trial") (T := nf_Trial) (N := 5) hx hb hts nin_Trial hown hK hP 17 rfl rfl 3 (by decide) (hts _ tw_125) (fun _ h9 => h9) rfl nd_Trial_noteDelays_39 ?_
            refine lv_iload_n hx hb nd_Trial_noteDelays_42 rfl (lv_at hl 3 rfl) ?_
            have b_10 : vp_in v3_2 11 := vp_in_iff.mpr (by omega)
            have g_11 : v3_2.toNatClampNeg < 11 := cr_ix b_10
            refine ga_ald hx hb hK hP 19 2 rfl rfl b_10 g_11 nd_Trial_noteDelays_43 ?_
            refine lv_iload_n hx hb nd_Trial_noteDelays_44 rfl (lv_at hl 1 rfl) ?_
            refine lv_dup2_11 hx hb nd_Trial_noteDelays_45 rfl rfl ?_
            have b_12 : vp_in x1 11 := vp_in_iff.mpr (by omega)
            refine va_iald hx hb hK hP (17 + (3 + v3_2.toNatClampNeg)) 0 (cr_getL (cr_getR (o := 17) rfl (cg_Trial_3 cI cZ cO atr apl atb tr_2 _ g_11))) rfl b_12 nd_Trial_noteDelays_46 ?_
            refine lv_iconst (v := 1) hx hb nd_Trial_noteDelays_47 (by decide) ?_
            refine lv_iload_n hx hb nd_Trial_noteDelays_48 rfl (lv_at hl 2 rfl) ?_
            refine lv_ishl hx hb nd_Trial_noteDelays_49 ?_
            refine lv_ior hx hb nd_Trial_noteDelays_50 ?_
            have b_13 : vp_in x1 11 := vp_in_iff.mpr (by omega)
            refine va_iast hx hb hK hP hD hS (17 + (3 + v3_2.toNatClampNeg)) 0 (cr_getL (cr_getR (o := 17) rfl (cg_Trial_3 cI cZ cO atr apl atb tr_2 _ g_11))) rfl b_13 nd_Trial_noteDelays_51 (fun H locs hP hD hS => ?_)
            rw [(cr_setL (by simp only [List.length_append, List.length_cons, List.length_nil]; omega) (cr_setR (o := 17) rfl (cs_Trial_3 cI cZ cO atr apl atb tr_2 x1.toNatClampNeg ((tr_2 (3 + v3_2.toNatClampNeg) x1.toNatClampNeg) ||| ((1 : Int32) <<< (x2 &&& 31))) _ g_11)))] at hP hD
            have hP : va_P (dC, dI) vwCl (cw_Plan cI cZ cO apl pl ++ cw_Trial cI cZ cO atr apl atb (cr_up tr_2 (3 + v3_2.toNatClampNeg) x1.toNatClampNeg ((tr_2 (3 + v3_2.toNatClampNeg) x1.toNatClampNeg) ||| ((1 : Int32) <<< (x2 &&& 31)))) ++ cw_Board cI cZ cO atb apl tb) H := hP
            have hD : va_D A (cw_Plan cI cZ cO apl pl ++ cw_Trial cI cZ cO atr apl atb (cr_up tr_2 (3 + v3_2.toNatClampNeg) x1.toNatClampNeg ((tr_2 (3 + v3_2.toNatClampNeg) x1.toNatClampNeg) ||| ((1 : Int32) <<< (x2 &&& 31)))) ++ cw_Board cI cZ cO atb apl tb) := hD
            obtain ⟨trq_14, htrq_14⟩ : ∃ z, (cr_up tr_2 (3 + v3_2.toNatClampNeg) x1.toNatClampNeg ((tr_2 (3 + v3_2.toNatClampNeg) x1.toNatClampNeg) ||| ((1 : Int32) <<< (x2 &&& 31)))) = z := ⟨_, rfl⟩
            rw [htrq_14] at hP hD
            try rw [htrq_14] at hM
            have e_15 : (v3_2 + (1 : Int32)).toInt = v3_2.toInt + (1 : Int32).toInt := cr_add (by omega)
            refine lv_iinc (v := (v3_2 + (1 : Int32))) (lv' := [(3, .int (v3_2 + (1 : Int32))), (0, .ref (atr 0)), (1, .int x1), (2, .int x2)]) hx hb nd_Trial_noteDelays_52 hl (k := 3) rfl (by rfl) (by decide) rfl (fun ls hl => ?_)
            refine lv_goto (tgt := 2) hx hb nd_Trial_noteDelays_55 (by decide) ?_
            exact ih_2 trq_14 (v3_2 + (1 : Int32)) (by omega) (by omega) hM _ _ hP hD hS _ (lv_sub hl [1, 2, 3, 0] rfl)
  exact lp_2 11 tr (1 : Int32) (by omega) (by omega) hM _ _ hP hD hS _ hl

theorem nd_Trial_countDelays_0 : decode prog_5_method_7_code 0 = .ok (.iconst 0, 1) := by decide +kernel
theorem nd_Trial_countDelays_1 : decode prog_5_method_7_code 1 = .ok (.istore_n 2, 1) := by decide +kernel
theorem nd_Trial_countDelays_2 : decode prog_5_method_7_code 2 = .ok (.iconst 1, 1) := by decide +kernel
theorem nd_Trial_countDelays_3 : decode prog_5_method_7_code 3 = .ok (.istore_n 3, 1) := by decide +kernel
theorem nd_Trial_countDelays_4 : decode prog_5_method_7_code 4 = .ok (.iload_n 3, 1) := by decide +kernel
theorem nd_Trial_countDelays_5 : decode prog_5_method_7_code 5 = .ok (.aload_n 0, 1) := by decide +kernel
theorem nd_Trial_countDelays_6 : decode prog_5_method_7_code 6 = .ok (.getfield 20, 3) := by decide +kernel
theorem nd_Trial_countDelays_9 : decode prog_5_method_7_code 9 = .ok (.getfield 40, 3) := by decide +kernel
theorem nd_Trial_countDelays_12 : decode prog_5_method_7_code 12 = .ok (.if_icmp .gt (23), 3) := by decide +kernel
theorem nd_Trial_countDelays_15 : decode prog_5_method_7_code 15 = .ok (.iload_n 2, 1) := by decide +kernel
theorem nd_Trial_countDelays_16 : decode prog_5_method_7_code 16 = .ok (.aload_n 0, 1) := by decide +kernel
theorem nd_Trial_countDelays_17 : decode prog_5_method_7_code 17 = .ok (.getfield 17, 3) := by decide +kernel
theorem nd_Trial_countDelays_20 : decode prog_5_method_7_code 20 = .ok (.iload_n 1, 1) := by decide +kernel
theorem nd_Trial_countDelays_21 : decode prog_5_method_7_code 21 = .ok (.aaload, 1) := by decide +kernel
theorem nd_Trial_countDelays_22 : decode prog_5_method_7_code 22 = .ok (.iload_n 3, 1) := by decide +kernel
theorem nd_Trial_countDelays_23 : decode prog_5_method_7_code 23 = .ok (.iaload, 1) := by decide +kernel
theorem nd_Trial_countDelays_24 : decode prog_5_method_7_code 24 = .ok (.invokestatic 107, 3) := by decide +kernel
theorem nd_Trial_countDelays_27 : decode prog_5_method_7_code 27 = .ok (.iadd, 1) := by decide +kernel
theorem nd_Trial_countDelays_28 : decode prog_5_method_7_code 28 = .ok (.istore_n 2, 1) := by decide +kernel
theorem nd_Trial_countDelays_29 : decode prog_5_method_7_code 29 = .ok (.iinc 3 1, 3) := by decide +kernel
theorem nd_Trial_countDelays_32 : decode prog_5_method_7_code 32 = .ok (.goto (-28), 3) := by decide +kernel
theorem nd_Trial_countDelays_35 : decode prog_5_method_7_code 35 = .ok (.iload_n 2, 1) := by decide +kernel
theorem nd_Trial_countDelays_36 : decode prog_5_method_7_code 36 = .ok (.ireturn, 1) := by decide +kernel
def lo_Trial_countDelays_4 (pl : cr_S) (tr : cr_S) (tb : cr_S) (x1 : Int32) : Nat → Int32 → Int32 → Int32
  | 0, _, _ => 0
  | n_4 + 1, v2_4, v3_4 =>
    (if (pl 0 0) < v3_4 then v2_4 else (lo_Trial_countDelays_4 pl tr tb x1 n_4 (v2_4 + (md_Integer_bitCount  (tr (3 + x1.toNatClampNeg) v3_4.toNatClampNeg))) (v3_4 + (1 : Int32))))
def md_Trial_countDelays (pl : cr_S) (tr : cr_S) (tb : cr_S) (x1 : Int32) : Int32 :=
  (lo_Trial_countDelays_4 pl tr tb x1 11 (0 : Int32) (1 : Int32))
abbrev pq_Trial_countDelays (dC : Nat → ClassId) (dI : Nat → Nat → Nat) (cI cZ cO : ClassId) (apl atr atb : Nat → Nat) (pl : cr_S) (tr : cr_S) (tb : cr_S) (x1 : Int32) (A : Nat → Prop) : Array Value → State → Outcome → State → Prop :=
  va_Qi (fun (r : Int32) (_ : Unit) => r = md_Trial_countDelays pl tr tb x1) (fun (_ : Unit) t => va_P (dC, dI) vwCl (cw_Plan cI cZ cO apl pl ++ cw_Trial cI cZ cO atr apl atb tr ++ cw_Board cI cZ cO atb apl tb) t.heap ∧ va_K (dC, dI) vwCl [(cI, .int), (cZ, .boolean), (cO, .array .int)] t ∧ va_D A (cw_Plan cI cZ cO apl pl ++ cw_Trial cI cZ cO atr apl atb tr ++ cw_Board cI cZ cO atb apl tb)) A
set_option maxHeartbeats 4000000 in
set_option maxRecDepth 100000 in
theorem ct_Trial_countDelays (l : Launch) (dC : Nat → ClassId) (dI : Nat → Nat → Nat) (cI cZ cO : ClassId) (apl atr atb : Nat → Nat) (sz : Nat) (pl : cr_S) (tr : cr_S) (tb : cr_S) (x1 : Int32) (hR_tb : cr_RBoard tb) (hR_pl : cr_RPlan pl) (hx1 : 0 ≤ x1.toInt ∧ x1.toInt ≤ 10) : Met l ny_Trial_countDelays nw_Trial_countDelays ({ frames := 1, cells := 0, slots := 0, locals := 20 } : Room) (va_Pc [.ref (atr 0), .int x1] (fun U => U.heap.size = sz ∧ va_P (dC, dI) vwCl (cw_Plan cI cZ cO apl pl ++ cw_Trial cI cZ cO atr apl atb tr ++ cw_Board cI cZ cO atb apl tb) U.heap ∧ va_K (dC, dI) vwCl [(cI, .int), (cZ, .boolean), (cO, .array .int)] U ∧ va_D (fun _ => True) (cw_Plan cI cZ cO apl pl ++ cw_Trial cI cZ cO atr apl atb tr ++ cw_Board cI cZ cO atb apl tb))) (pq_Trial_countDelays dC dI cI cZ cO apl atr atb pl tr tb x1 (va_A (cw_Plan cI cZ cO apl pl ++ cw_Trial cI cZ cO atr apl atb tr ++ cw_Board cI cZ cO atb apl tb) sz)) 0 0 (va_A (cw_Plan cI cZ cO apl pl ++ cw_Trial cI cZ cO atr apl atb tr ++ cw_Board cI cZ cO atb apl tb) sz) := by
  refine Met.ofW (cc := prog_5_method_7_code) (maxL := 4) (ret := (some .int)) (by decide) rfl ?_
  intro p e s m args below meth c s₁ B hml hv
  obtain ⟨rfl, hsz, hP, hK, hD0⟩ := hv
  have hx := B.exec
  have hb := B.bytes
  have hr := B.returns
  have hts0 := atoms_spec (ws := nw_Trial_countDelays) B.pre
  have hts : ∀ w ∈ ng_tbl, w.before ([.ref (atr 0), .int x1] : List Value).toArray s = true := fun w h => hts0 w (List.mem_cons_of_mem _ h)
  have hown : s.vm.findClass "CeilingRows$Trial" = some m.cls := findClass_of_methodNamed B.named
  have hlocks := B.notSynchronized
  subst hsz
  have hD := hD0.self (sz := s.heap.size)
  generalize hAe : va_A (cw_Plan cI cZ cO apl pl ++ cw_Trial cI cZ cO atr apl atb tr ++ cw_Board cI cZ cO atb apl tb) s.heap.size = A at hD ⊢
  have hA : ∀ q : Nat, s.heap.size ≤ q → A q := fun q h => by rw [← hAe]; exact Or.inr h
  have hS : va_S A s.heap s.heap [] := va_S.rf
  have hP : va_P (dC, dI) vwCl (cw_Plan cI cZ cO apl pl ++ cw_Trial cI cZ cO atr apl atb tr ++ cw_Board cI cZ cO atb apl tb) s.heap := hP
  have hl := lv_entry ([.ref (atr 0), .int x1]) (n := 4) (Nat.le_of_ble_eq_true rfl)
  rw [lg_entry_eq]
  generalize (lg_sl ([.ref (atr 0), .int x1]) ++ List.replicate (4 - (lg_sl ([.ref (atr 0), .int x1])).length) Slot.unset).toArray = ls at hl ⊢
  have hl : lv_has ls 4 [(0, .ref (atr 0)), (1, .int x1)] := hl
  have k_0 : (0 : Int32).toInt = 0 := by decide
  have k_1 : (1 : Int32).toInt = 1 := by decide
  obtain ⟨tgt, hT⟩ : ∃ z, md_Trial_countDelays pl tr tb x1 = z := ⟨_, rfl⟩
  have hM := hT
  unfold md_Trial_countDelays at hM
  refine lv_iconst (v := 0) hx hb nd_Trial_countDelays_0 (by decide) ?_
  refine lv_istore_n (lv' := [(2, .int (0 : Int32)), (0, .ref (atr 0)), (1, .int x1)]) hx hb nd_Trial_countDelays_1 rfl hl (by decide) rfl (fun ls hl => ?_)
  refine lv_iconst (v := 1) hx hb nd_Trial_countDelays_2 (by decide) ?_
  refine lv_istore_n (lv' := [(3, .int (1 : Int32)), (2, .int (0 : Int32)), (0, .ref (atr 0)), (1, .int x1)]) hx hb nd_Trial_countDelays_3 rfl hl (by decide) rfl (fun ls hl => ?_)
  have hl := lv_sub hl [2, 3, 1, 0] rfl
  have lp_4 : ∀ (n_4 : Nat) (v2_4 : Int32) (v3_4 : Int32), (1 ≤ v3_4.toInt ∧ v3_4.toInt ≤ 11) → (11 < v3_4.toInt + (n_4 : Int)) → lo_Trial_countDelays_4 pl tr tb x1 n_4 v2_4 v3_4 = tgt → ∀ (H : Heap) (locs : List Loc), va_P (dC, dI) vwCl (cw_Plan cI cZ cO apl pl ++ cw_Trial cI cZ cO atr apl atb tr ++ cw_Board cI cZ cO atb apl tb) H → va_D A (cw_Plan cI cZ cO apl pl ++ cw_Trial cI cZ cO atr apl atb tr ++ cw_Board cI cZ cO atb apl tb) → va_S A s.heap H locs → ∀ ls : Array Slot, lv_has ls 4 [(0, .ref (atr 0)), (1, .int x1), (2, .int v2_4), (3, .int v3_4)] → W p l e (headSpec nw_Trial_countDelays ({ frames := 1, cells := 0, slots := 0, locals := 20 } : Room)).room s m ([.ref (atr 0), .int x1] : List Value).toArray below meth c H locs 0 0 (MQ below (pq_Trial_countDelays dC dI cI cZ cO apl atr atb pl tr tb x1 A) ([.ref (atr 0), .int x1] : List Value).toArray s 0 0 A) (F0 m 4 ls []) := by
    intro n_4
    induction n_4 with
    | zero =>
      intro v2_4 v3_4 hv3_4 hn_4
      exfalso; omega
    | succ n_4 ih_4 =>
      intro v2_4 v3_4 hv3_4 hn_4 hM H locs hP hD hS ls hl
      have hn_4 : 11 < v3_4.toInt + ((n_4 : Int) + 1) := by omega
      rw [lo_Trial_countDelays_4] at hM
      refine lv_iload_n hx hb nd_Trial_countDelays_4 rfl (lv_at hl 3 rfl) ?_
      refine lv_aload_n hx hb nd_Trial_countDelays_5 rfl (lv_at hl 0 rfl) ?_
      refine va_get (D := (dC, dI)) (ci := 3) (v := .ref (apl 0)) (C := "CeilingRows$Trial") (T := nf_Trial) (N := 5) hx hb hts nin_Trial hown hK hP 17 rfl rfl 0 (by decide) (hts _ tw_122) (fun _ h9 => h9) rfl nd_Trial_countDelays_6 ?_
      refine va_get (D := (dC, dI)) (ci := 0) (v := .int (pl 0 0)) (C := "CeilingRows$Plan") (T := nf_Plan) (N := 7) hx hb hts nin_Plan hown hK hP 0 rfl rfl 0 (by decide) (hts _ tw_27) (fun _ h9 => h9) rfl nd_Trial_countDelays_9 ?_
      have f_1 := cr_rfo hR_pl.1
      refine lv_icmp_gt (tgt := 35) hx hb nd_Trial_countDelays_12 (by decide) (fun c_2 => ?_) (fun c_2 => ?_)
      · have c_2t := cr_lt c_2
        rw [if_pos c_2] at hM
        refine lv_iload_n hx hb nd_Trial_countDelays_35 rfl (lv_at hl 2 rfl) ?_
        exact W.iret (v := v2_4) hx hb hr (fun t ht hW => ⟨⟨v2_4, (), rfl, by rw [hT, ← hM], by rw [ht]; exact hP, va_K.moved hW.alike hK, hD⟩, hS.F ht⟩) hS.2.2 nd_Trial_countDelays_36
      · have c_2t := cr_nlt c_2
        rw [if_neg c_2] at hM
        refine lv_iload_n hx hb nd_Trial_countDelays_15 rfl (lv_at hl 2 rfl) ?_
        refine lv_aload_n hx hb nd_Trial_countDelays_16 rfl (lv_at hl 0 rfl) ?_
        refine va_get (D := (dC, dI)) (ci := 3) (v := .ref (atr 2)) (C := "CeilingRows$Trial") (T := nf_Trial) (N := 5) hx hb hts nin_Trial hown hK hP 17 rfl rfl 3 (by decide) (hts _ tw_125) (fun _ h9 => h9) rfl nd_Trial_countDelays_17 ?_
        refine lv_iload_n hx hb nd_Trial_countDelays_20 rfl (lv_at hl 1 rfl) ?_
        have b_3 : vp_in x1 11 := vp_in_iff.mpr (by omega)
        have g_4 : x1.toNatClampNeg < 11 := cr_ix b_3
        refine ga_ald hx hb hK hP 19 2 rfl rfl b_3 g_4 nd_Trial_countDelays_21 ?_
        refine lv_iload_n hx hb nd_Trial_countDelays_22 rfl (lv_at hl 3 rfl) ?_
        have b_5 : vp_in v3_4 11 := vp_in_iff.mpr (by omega)
        refine va_iald hx hb hK hP (17 + (3 + x1.toNatClampNeg)) 0 (cr_getL (cr_getR (o := 17) rfl (cg_Trial_3 cI cZ cO atr apl atb tr _ g_4))) rfl b_5 nd_Trial_countDelays_23 ?_
        have hPc := hP.sub (ws' := ([] : va_W)) [] rfl
        have hDc := hD.sub (ws' := ([] : va_W)) [] (by decide) rfl
        have hFc := va_free (wc := ([] : va_W)) hD hS hA [] rfl
        refine va_calli (va_runS (As := [.int (tr (3 + x1.toNatClampNeg) v3_4.toNatClampNeg)]) (rest := [.int v2_4]) ⟨hx, hb, hml, hown, hts⟩ (ct_Integer_bitCount l dC dI cI cZ cO  H.size  (tr (3 + x1.toNatClampNeg) v3_4.toNatClampNeg) ) (va_cwS 1 hts (ng_S tw_400 tw_401 tw_9 tw_402) rfl rfl rfl (by decide +kernel) ⟨Nat.le_of_ble_eq_true rfl, Nat.le_of_ble_eq_true rfl⟩) ⟨fun a U g mk q => by obtain ⟨q0, q1, qP, qK, qD⟩ := q; exact ⟨q0, q1, qP, va_K.moved (u := U) (U := U.calling g mk a) (Vm.Alike.refl U.vm) qK, qD⟩, fun U hU hW => ⟨rfl, by rw [hU], by rw [hU]; exact hPc, va_K.moved hW.alike hK, hDc.weaken (fun _ _ _ _ => trivial)⟩⟩ rfl rfl hl.1 rfl (lv_room (Nat.le_of_ble_eq_true rfl)) nd_Trial_countDelays_24 ⟨Nat.zero_le _, Nat.zero_le _⟩) hS (fun q _ h => hFc q h) hFc (fun r_6 u t H1 locs ht hvm hw hB hz1 hk1 hS => ?_)
        obtain ⟨hP1, hK1, hD1⟩ := hB
        rw [ht] at hP1
        have w_7 := hw
        try rw [← w_7] at hM
        obtain ⟨hP, hD⟩ := va_join (wr := cw_Plan cI cZ cO apl pl ++ cw_Trial cI cZ cO atr apl atb tr ++ cw_Board cI cZ cO atb apl tb) (w1 := ([] : va_W)) hP hD [] [0, 1, 2, 3, 4, 5, 6, 7, 8, 9, 10, 11, 12, 13, 14, 15, 16, 17, 18, 19, 20, 21, 22, 23, 24, 25, 26, 27, 28, 29, 30, 31, 32, 33, 34, 35, 36] rfl rfl (by decide) (by decide) hk1 hFc hP1 hD1
        have hP := hP.sub (ws' := cw_Plan cI cZ cO apl pl ++ cw_Trial cI cZ cO atr apl atb tr ++ cw_Board cI cZ cO atb apl tb) [0, 1, 2, 3, 4, 5, 6, 7, 8, 9, 10, 11, 12, 13, 14, 15, 16, 17, 18, 19, 20, 21, 22, 23, 24, 25, 26, 27, 28, 29, 30, 31, 32, 33, 34, 35, 36] rfl
        have hD := hD.sub (ws' := cw_Plan cI cZ cO apl pl ++ cw_Trial cI cZ cO atr apl atb tr ++ cw_Board cI cZ cO atb apl tb) [0, 1, 2, 3, 4, 5, 6, 7, 8, 9, 10, 11, 12, 13, 14, 15, 16, 17, 18, 19, 20, 21, 22, 23, 24, 25, 26, 27, 28, 29, 30, 31, 32, 33, 34, 35, 36] (by decide) rfl
        generalize H1 = H at hP hS ⊢
        refine lv_iadd hx hb nd_Trial_countDelays_27 ?_
        refine lv_istore_n (lv' := [(2, .int (v2_4 + r_6)), (0, .ref (atr 0)), (1, .int x1), (3, .int v3_4)]) hx hb nd_Trial_countDelays_28 rfl hl (by decide) rfl (fun ls hl => ?_)
        have e_8 : (v3_4 + (1 : Int32)).toInt = v3_4.toInt + (1 : Int32).toInt := cr_add (by omega)
        refine lv_iinc (v := (v3_4 + (1 : Int32))) (lv' := [(3, .int (v3_4 + (1 : Int32))), (2, .int (v2_4 + r_6)), (0, .ref (atr 0)), (1, .int x1)]) hx hb nd_Trial_countDelays_29 hl (k := 3) rfl (by rfl) (by decide) rfl (fun ls hl => ?_)
        refine lv_goto (tgt := 4) hx hb nd_Trial_countDelays_32 (by decide) ?_
        exact ih_4 (v2_4 + r_6) (v3_4 + (1 : Int32)) (by omega) (by omega) hM _ _ hP hD hS _ (lv_sub hl [2, 3, 1, 0] rfl)
  exact lp_4 11 (0 : Int32) (1 : Int32) (by omega) (by omega) hM _ _ hP hD hS _ hl

theorem nd_Trial_clear_0 : decode prog_5_method_3_code 0 = .ok (.aload_n 0, 1) := by decide +kernel
theorem nd_Trial_clear_1 : decode prog_5_method_3_code 1 = .ok (.getfield 29, 3) := by decide +kernel
theorem nd_Trial_clear_4 : decode prog_5_method_3_code 4 = .ok (.invokevirtual 66, 3) := by decide +kernel
theorem nd_Trial_clear_7 : decode prog_5_method_3_code 7 = .ok (.aload_n 0, 1) := by decide +kernel
theorem nd_Trial_clear_8 : decode prog_5_method_3_code 8 = .ok (.iconst 0, 1) := by decide +kernel
theorem nd_Trial_clear_9 : decode prog_5_method_3_code 9 = .ok (.putfield 36, 3) := by decide +kernel
theorem nd_Trial_clear_12 : decode prog_5_method_3_code 12 = .ok (.aload_n 0, 1) := by decide +kernel
theorem nd_Trial_clear_13 : decode prog_5_method_3_code 13 = .ok (.getfield 9, 3) := by decide +kernel
theorem nd_Trial_clear_16 : decode prog_5_method_3_code 16 = .ok (.iconst 0, 1) := by decide +kernel
theorem nd_Trial_clear_17 : decode prog_5_method_3_code 17 = .ok (.invokestatic 67, 3) := by decide +kernel
theorem nd_Trial_clear_20 : decode prog_5_method_3_code 20 = .ok (.iconst 1, 1) := by decide +kernel
theorem nd_Trial_clear_21 : decode prog_5_method_3_code 21 = .ok (.istore_n 1, 1) := by decide +kernel
theorem nd_Trial_clear_22 : decode prog_5_method_3_code 22 = .ok (.iload_n 1, 1) := by decide +kernel
theorem nd_Trial_clear_23 : decode prog_5_method_3_code 23 = .ok (.aload_n 0, 1) := by decide +kernel
theorem nd_Trial_clear_24 : decode prog_5_method_3_code 24 = .ok (.getfield 20, 3) := by decide +kernel
theorem nd_Trial_clear_27 : decode prog_5_method_3_code 27 = .ok (.getfield 40, 3) := by decide +kernel
theorem nd_Trial_clear_30 : decode prog_5_method_3_code 30 = .ok (.if_icmp .gt (19), 3) := by decide +kernel
theorem nd_Trial_clear_33 : decode prog_5_method_3_code 33 = .ok (.aload_n 0, 1) := by decide +kernel
theorem nd_Trial_clear_34 : decode prog_5_method_3_code 34 = .ok (.getfield 17, 3) := by decide +kernel
theorem nd_Trial_clear_37 : decode prog_5_method_3_code 37 = .ok (.iload_n 1, 1) := by decide +kernel
theorem nd_Trial_clear_38 : decode prog_5_method_3_code 38 = .ok (.aaload, 1) := by decide +kernel
theorem nd_Trial_clear_39 : decode prog_5_method_3_code 39 = .ok (.iconst 0, 1) := by decide +kernel
theorem nd_Trial_clear_40 : decode prog_5_method_3_code 40 = .ok (.invokestatic 67, 3) := by decide +kernel
theorem nd_Trial_clear_43 : decode prog_5_method_3_code 43 = .ok (.iinc 1 1, 3) := by decide +kernel
theorem nd_Trial_clear_46 : decode prog_5_method_3_code 46 = .ok (.goto (-24), 3) := by decide +kernel
theorem nd_Trial_clear_49 : decode prog_5_method_3_code 49 = .ok (.return_, 1) := by decide +kernel
def lo_Trial_clear_22 (pl : cr_S)  : Nat → cr_S → cr_S → Int32 → cr_S × cr_S
  | 0, tr_22, tb_22, _ => (tr_22, tb_22)
  | n_22 + 1, tr_22, tb_22, v1_22 =>
    (if (pl 0 0) < v1_22 then (tr_22, tb_22) else (lo_Trial_clear_22 pl n_22 (cr_fill tr_22 (3 + v1_22.toNatClampNeg) 11 (0 : Int32)) tb_22 (v1_22 + (1 : Int32))))
def md_Trial_clear (pl : cr_S) (tr : cr_S) (tb : cr_S) : cr_S × cr_S :=
  (lo_Trial_clear_22 pl 11 (cr_fill (cr_up tr 0 0 (0 : Int32)) 1 11 (0 : Int32)) (md_Board_clear pl tb) (1 : Int32))
abbrev pq_Trial_clear (dC : Nat → ClassId) (dI : Nat → Nat → Nat) (cI cZ cO : ClassId) (apl atr atb : Nat → Nat) (pl : cr_S) (tr : cr_S) (tb : cr_S)  (A : Nat → Prop) : Array Value → State → Outcome → State → Prop :=
  va_Qv (fun (u : cr_S × cr_S) => u.1 = (md_Trial_clear pl tr tb).1 ∧ u.2 = (md_Trial_clear pl tr tb).2 ∧ cr_RBoard u.2) (fun (u : cr_S × cr_S) t => va_P (dC, dI) vwCl (cw_Plan cI cZ cO apl pl ++ cw_Trial cI cZ cO atr apl atb u.1 ++ cw_Board cI cZ cO atb apl u.2) t.heap ∧ va_K (dC, dI) vwCl [(cI, .int), (cZ, .boolean), (cO, .array .int)] t ∧ va_D A (cw_Plan cI cZ cO apl pl ++ cw_Trial cI cZ cO atr apl atb u.1 ++ cw_Board cI cZ cO atb apl u.2)) A
set_option maxHeartbeats 4000000 in
set_option maxRecDepth 100000 in
theorem ct_Trial_clear (l : Launch) (dC : Nat → ClassId) (dI : Nat → Nat → Nat) (cI cZ cO : ClassId) (apl atr atb : Nat → Nat) (sz : Nat) (pl : cr_S) (tr : cr_S) (tb : cr_S)  (hR_tb : cr_RBoard tb) (hR_pl : cr_RPlan pl) : Met l ny_Trial_clear nw_Trial_clear ({ frames := 2, cells := 0, slots := 0, locals := 43 } : Room) (va_Pc [.ref (atr 0)] (fun U => U.heap.size = sz ∧ va_P (dC, dI) vwCl (cw_Plan cI cZ cO apl pl ++ cw_Trial cI cZ cO atr apl atb tr ++ cw_Board cI cZ cO atb apl tb) U.heap ∧ va_K (dC, dI) vwCl [(cI, .int), (cZ, .boolean), (cO, .array .int)] U ∧ va_D (fun _ => True) (cw_Plan cI cZ cO apl pl ++ cw_Trial cI cZ cO atr apl atb tr ++ cw_Board cI cZ cO atb apl tb))) (pq_Trial_clear dC dI cI cZ cO apl atr atb pl tr tb  (va_A (cw_Plan cI cZ cO apl pl ++ cw_Trial cI cZ cO atr apl atb tr ++ cw_Board cI cZ cO atb apl tb) sz)) 0 0 (va_A (cw_Plan cI cZ cO apl pl ++ cw_Trial cI cZ cO atr apl atb tr ++ cw_Board cI cZ cO atb apl tb) sz) := by
  refine Met.ofW (cc := prog_5_method_3_code) (maxL := 2) (ret := none) (by decide) rfl ?_
  intro p e s m args below meth c s₁ B hml hv
  obtain ⟨rfl, hsz, hP, hK, hD0⟩ := hv
  have hx := B.exec
  have hb := B.bytes
  have hr := B.returns
  have hts0 := atoms_spec (ws := nw_Trial_clear) B.pre
  have hts : ∀ w ∈ ng_tbl, w.before ([.ref (atr 0)] : List Value).toArray s = true := fun w h => hts0 w (List.mem_cons_of_mem _ h)
  have hown : s.vm.findClass "CeilingRows$Trial" = some m.cls := findClass_of_methodNamed B.named
  have hlocks := B.notSynchronized
  subst hsz
  have hD := hD0.self (sz := s.heap.size)
  generalize hAe : va_A (cw_Plan cI cZ cO apl pl ++ cw_Trial cI cZ cO atr apl atb tr ++ cw_Board cI cZ cO atb apl tb) s.heap.size = A at hD ⊢
  have hA : ∀ q : Nat, s.heap.size ≤ q → A q := fun q h => by rw [← hAe]; exact Or.inr h
  have hS : va_S A s.heap s.heap [] := va_S.rf
  have hP : va_P (dC, dI) vwCl (cw_Plan cI cZ cO apl pl ++ cw_Trial cI cZ cO atr apl atb tr ++ cw_Board cI cZ cO atb apl tb) s.heap := hP
  have hl := lv_entry ([.ref (atr 0)]) (n := 2) (Nat.le_of_ble_eq_true rfl)
  rw [lg_entry_eq]
  generalize (lg_sl ([.ref (atr 0)]) ++ List.replicate (2 - (lg_sl ([.ref (atr 0)])).length) Slot.unset).toArray = ls at hl ⊢
  have hl : lv_has ls 2 [(0, .ref (atr 0))] := hl
  have k_0 : (0 : Int32).toInt = 0 := by decide
  have k_1 : (1 : Int32).toInt = 1 := by decide
  obtain ⟨tgt, hT⟩ : ∃ z, md_Trial_clear pl tr tb = z := ⟨_, rfl⟩
  have hM := hT
  unfold md_Trial_clear at hM
  refine lv_aload_n hx hb nd_Trial_clear_0 rfl (lv_at hl 0 rfl) ?_
  refine va_get (D := (dC, dI)) (ci := 3) (v := .ref (atb 0)) (C := "CeilingRows$Trial") (T := nf_Trial) (N := 5) hx hb hts nin_Trial hown hK hP 17 rfl rfl 1 (by decide) (hts _ tw_123) (fun _ h9 => h9) rfl nd_Trial_clear_1 ?_
  have hPc := hP.sub (ws' := cw_Plan cI cZ cO apl pl ++ cw_Board cI cZ cO atb apl tb) [0, 1, 2, 3, 4, 5, 6, 7, 8, 9, 10, 11, 12, 13, 14, 15, 16, 31, 32, 33, 34, 35, 36] rfl
  have hDc := hD.sub (ws' := cw_Plan cI cZ cO apl pl ++ cw_Board cI cZ cO atb apl tb) [0, 1, 2, 3, 4, 5, 6, 7, 8, 9, 10, 11, 12, 13, 14, 15, 16, 31, 32, 33, 34, 35, 36] (by decide) rfl
  have hFc := va_free (wc := cw_Plan cI cZ cO apl pl ++ cw_Board cI cZ cO atb apl tb) hD hS hA [0, 1, 2, 3, 4, 5, 6, 7, 8, 9, 10, 11, 12, 13, 14, 15, 16, 31, 32, 33, 34, 35, 36] rfl
  refine va_callv (va_runV (As := []) (rest := []) ⟨hx, hb, hml, hown, hts⟩ (ct_Board_clear l dC dI cI cZ cO apl atb s.heap.size pl tb  hR_tb hR_pl) (cwV 0 hts (ng_V tw_353 tw_354 tw_355 tw_3 tw_356) rfl rfl rfl (by decide +kernel) ⟨Nat.le_of_ble_eq_true rfl, Nat.le_of_ble_eq_true rfl⟩) ⟨fun a U g mk q => by obtain ⟨q0, q1, qP, qK, qD⟩ := q; exact ⟨q0, q1, qP, va_K.moved (u := U) (U := U.calling g mk a) (Vm.Alike.refl U.vm) qK, qD⟩, va_recv hK hPc (ci := 1) (q0 := 17) rfl rfl, fun U hU hW => ⟨rfl, by rw [hU], by rw [hU]; exact hPc, va_K.moved hW.alike hK, hDc.weaken (fun _ _ _ _ => trivial)⟩⟩ rfl rfl hl.1 rfl (lv_room (Nat.le_of_ble_eq_true rfl)) nd_Trial_clear_4 ⟨Nat.zero_le _, Nat.zero_le _⟩) hS (fun q _ h => hFc q h) hFc (fun u t H1 locs ht hvm hw hB hz1 hk1 hS => ?_)
  obtain ⟨hP1, hK1, hD1⟩ := hB
  rw [ht] at hP1
  obtain ⟨tbq_2, rfl⟩ : ∃ z, z = u := ⟨_, rfl⟩
  obtain ⟨w_3, hR_4⟩ := hw
  try rw [← w_3] at hM
  obtain ⟨hP, hD⟩ := va_join (wr := cw_Trial cI cZ cO atr apl atb tr) (w1 := cw_Plan cI cZ cO apl pl ++ cw_Board cI cZ cO atb apl tbq_2) hP hD [0, 1, 2, 3, 4, 5, 6, 7, 8, 9, 10, 11, 12, 13, 14, 15, 16, 31, 32, 33, 34, 35, 36] [17, 18, 19, 20, 21, 22, 23, 24, 25, 26, 27, 28, 29, 30] rfl rfl (by decide) (by decide) hk1 hFc hP1 hD1
  have hP := hP.sub (ws' := cw_Plan cI cZ cO apl pl ++ cw_Trial cI cZ cO atr apl atb tr ++ cw_Board cI cZ cO atb apl tbq_2) [14, 15, 16, 17, 18, 19, 20, 21, 22, 23, 24, 25, 26, 27, 28, 29, 30, 0, 1, 2, 3, 4, 5, 6, 7, 8, 9, 10, 11, 12, 13, 31, 32, 33, 34, 35, 36] rfl
  have hD := hD.sub (ws' := cw_Plan cI cZ cO apl pl ++ cw_Trial cI cZ cO atr apl atb tr ++ cw_Board cI cZ cO atb apl tbq_2) [14, 15, 16, 17, 18, 19, 20, 21, 22, 23, 24, 25, 26, 27, 28, 29, 30, 0, 1, 2, 3, 4, 5, 6, 7, 8, 9, 10, 11, 12, 13, 31, 32, 33, 34, 35, 36] (by decide) rfl
  generalize H1 = H at hP hS ⊢
  refine lv_aload_n hx hb nd_Trial_clear_7 rfl (lv_at hl 0 rfl) ?_
  refine lv_iconst (v := 0) hx hb nd_Trial_clear_8 (by decide) ?_
  refine va_put (D := (dC, dI)) (ci := 3) (v := .int (0 : Int32)) (ty := .int) (C := "CeilingRows$Trial") (T := nf_Trial) (N := 5) hx hb hts nin_Trial nt_Trial nto_Trial nno_Trial hown hK hP hD hS 17 rfl rfl 4 (by decide) (hts _ tw_126) (fun _ h9 => h9) rfl (by decide +kernel) rfl rfl (Nat.le_of_ble_eq_true rfl) nd_Trial_clear_9 (fun H locs hP hD hS => ?_)
  have hP : va_P (dC, dI) vwCl (cw_Plan cI cZ cO apl pl ++ cw_Trial cI cZ cO atr apl atb (cr_up tr 0 0 (0 : Int32)) ++ cw_Board cI cZ cO atb apl tbq_2) H := hP
  have hD : va_D A (cw_Plan cI cZ cO apl pl ++ cw_Trial cI cZ cO atr apl atb (cr_up tr 0 0 (0 : Int32)) ++ cw_Board cI cZ cO atb apl tbq_2) := hD
  obtain ⟨trq_5, htrq_5⟩ : ∃ z, (cr_up tr 0 0 (0 : Int32)) = z := ⟨_, rfl⟩
  rw [htrq_5] at hP hD
  try rw [htrq_5] at hM
  refine lv_aload_n hx hb nd_Trial_clear_12 rfl (lv_at hl 0 rfl) ?_
  refine va_get (D := (dC, dI)) (ci := 3) (v := .ref (atr 1)) (C := "CeilingRows$Trial") (T := nf_Trial) (N := 5) hx hb hts nin_Trial hown hK hP 17 rfl rfl 2 (by decide) (hts _ tw_124) (fun _ h9 => h9) rfl nd_Trial_clear_13 ?_
  refine lv_iconst (v := 0) hx hb nd_Trial_clear_16 (by decide) ?_
  have h_6 : (cw_Plan cI cZ cO apl pl ++ cw_Trial cI cZ cO atr apl atb trq_5 ++ cw_Board cI cZ cO atb apl tbq_2)[18]? = some (atr 1, (.inl (cI, 11, .inl (trq_5 1)) : va_E)) := rfl
  have hPc := cr_P1 hP h_6
  have hFc := cr_F1 hD hS hA h_6
  refine va_callv (va_runS (As := [.ref (atr 1), .int (0 : Int32)]) (rest := []) ⟨hx, hb, hml, hown, hts⟩ (ct_fill l dC dI cI cZ cO (atr 1) H.size 11 (trq_5 1) (0 : Int32) (by decide)) (va_cwS 2 hts (ng_S tw_360 tw_358 tw_8 tw_359) rfl rfl rfl (by decide +kernel) ⟨Nat.le_of_ble_eq_true rfl, Nat.le_of_ble_eq_true rfl⟩) ⟨fun a U g mk q => by obtain ⟨q0, q1, qP, qK, qD⟩ := q; exact ⟨q0, q1, qP, va_K.moved (u := U) (U := U.calling g mk a) (Vm.Alike.refl U.vm) qK, qD⟩, fun U hU hW => ⟨rfl, by rw [hU], by rw [hU]; exact hPc, va_K.moved hW.alike hK, cr_D1⟩⟩ rfl rfl hl.1 rfl (lv_room (Nat.le_of_ble_eq_true rfl)) nd_Trial_clear_17 ⟨Nat.zero_le _, Nat.zero_le _⟩) hS (fun q _ h => hFc q h) hFc (fun u t H1 locs ht hvm hw hB hz1 hk1 hS => ?_)
  obtain ⟨hP1, hK1, hD1⟩ := hB
  rw [ht] at hP1
  subst hw
  obtain ⟨hP, hD⟩ := cr_join1 hP hD h_6 hk1 hP1
  generalize H1 = H at hP hS ⊢
  have hP : va_P (dC, dI) vwCl (cw_Plan cI cZ cO apl pl ++ cw_Trial cI cZ cO atr apl atb (cr_fill trq_5 1 11 (0 : Int32)) ++ cw_Board cI cZ cO atb apl tbq_2) H := hP
  have hD : va_D A (cw_Plan cI cZ cO apl pl ++ cw_Trial cI cZ cO atr apl atb (cr_fill trq_5 1 11 (0 : Int32)) ++ cw_Board cI cZ cO atb apl tbq_2) := hD
  obtain ⟨trq_7, htrq_7⟩ : ∃ z, (cr_fill trq_5 1 11 (0 : Int32)) = z := ⟨_, rfl⟩
  rw [htrq_7] at hP hD
  try rw [htrq_7] at hM
  refine lv_iconst (v := 1) hx hb nd_Trial_clear_20 (by decide) ?_
  refine lv_istore_n (lv' := [(1, .int (1 : Int32)), (0, .ref (atr 0))]) hx hb nd_Trial_clear_21 rfl hl (by decide) rfl (fun ls hl => ?_)
  have hl := lv_sub hl [1, 0] rfl
  have lp_22 : ∀ (n_22 : Nat) (tr_22 : cr_S) (tb_22 : cr_S) (v1_22 : Int32), (cr_RBoard tb_22) → (1 ≤ v1_22.toInt ∧ v1_22.toInt ≤ 11) → (11 < v1_22.toInt + (n_22 : Int)) → lo_Trial_clear_22 pl n_22 tr_22 tb_22 v1_22 = tgt → ∀ (H : Heap) (locs : List Loc), va_P (dC, dI) vwCl (cw_Plan cI cZ cO apl pl ++ cw_Trial cI cZ cO atr apl atb tr_22 ++ cw_Board cI cZ cO atb apl tb_22) H → va_D A (cw_Plan cI cZ cO apl pl ++ cw_Trial cI cZ cO atr apl atb tr_22 ++ cw_Board cI cZ cO atb apl tb_22) → va_S A s.heap H locs → ∀ ls : Array Slot, lv_has ls 2 [(0, .ref (atr 0)), (1, .int v1_22)] → W p l e (headSpec nw_Trial_clear ({ frames := 2, cells := 0, slots := 0, locals := 43 } : Room)).room s m ([.ref (atr 0)] : List Value).toArray below meth c H locs 0 0 (MQ below (pq_Trial_clear dC dI cI cZ cO apl atr atb pl tr tb  A) ([.ref (atr 0)] : List Value).toArray s 0 0 A) (F0 m 22 ls []) := by
    intro n_22
    induction n_22 with
    | zero =>
      intro tr_22 tb_22 v1_22 hR_tb_22 hv1_22 hn_22
      exfalso; omega
    | succ n_22 ih_22 =>
      intro tr_22 tb_22 v1_22 hR_tb_22 hv1_22 hn_22 hM H locs hP hD hS ls hl
      have hn_22 : 11 < v1_22.toInt + ((n_22 : Int) + 1) := by omega
      rw [lo_Trial_clear_22] at hM
      refine lv_iload_n hx hb nd_Trial_clear_22 rfl (lv_at hl 1 rfl) ?_
      refine lv_aload_n hx hb nd_Trial_clear_23 rfl (lv_at hl 0 rfl) ?_
      refine va_get (D := (dC, dI)) (ci := 3) (v := .ref (apl 0)) (C := "CeilingRows$Trial") (T := nf_Trial) (N := 5) hx hb hts nin_Trial hown hK hP 17 rfl rfl 0 (by decide) (hts _ tw_122) (fun _ h9 => h9) rfl nd_Trial_clear_24 ?_
      refine va_get (D := (dC, dI)) (ci := 0) (v := .int (pl 0 0)) (C := "CeilingRows$Plan") (T := nf_Plan) (N := 7) hx hb hts nin_Plan hown hK hP 0 rfl rfl 0 (by decide) (hts _ tw_27) (fun _ h9 => h9) rfl nd_Trial_clear_27 ?_
      have f_8 := cr_rfo hR_pl.1
      refine lv_icmp_gt (tgt := 49) hx hb nd_Trial_clear_30 (by decide) (fun c_9 => ?_) (fun c_9 => ?_)
      · have c_9t := cr_lt c_9
        rw [if_pos c_9] at hM
        exact W.vret hx hb hr (fun t ht hW => ⟨⟨(tr_22, tb_22), rfl, ⟨by rw [hT, ← hM], by rw [hT, ← hM], hR_tb_22⟩, by rw [ht]; exact hP, va_K.moved hW.alike hK, hD⟩, hS.F ht⟩) hS.2.2 nd_Trial_clear_49
      · have c_9t := cr_nlt c_9
        rw [if_neg c_9] at hM
        refine lv_aload_n hx hb nd_Trial_clear_33 rfl (lv_at hl 0 rfl) ?_
        refine va_get (D := (dC, dI)) (ci := 3) (v := .ref (atr 2)) (C := "CeilingRows$Trial") (T := nf_Trial) (N := 5) hx hb hts nin_Trial hown hK hP 17 rfl rfl 3 (by decide) (hts _ tw_125) (fun _ h9 => h9) rfl nd_Trial_clear_34 ?_
        refine lv_iload_n hx hb nd_Trial_clear_37 rfl (lv_at hl 1 rfl) ?_
        have b_10 : vp_in v1_22 11 := vp_in_iff.mpr (by omega)
        have g_11 : v1_22.toNatClampNeg < 11 := cr_ix b_10
        refine ga_ald hx hb hK hP 19 2 rfl rfl b_10 g_11 nd_Trial_clear_38 ?_
        refine lv_iconst (v := 0) hx hb nd_Trial_clear_39 (by decide) ?_
        have h_12 : (cw_Plan cI cZ cO apl pl ++ cw_Trial cI cZ cO atr apl atb tr_22 ++ cw_Board cI cZ cO atb apl tb_22)[(17 + (3 + v1_22.toNatClampNeg))]? = some (atr (3 + v1_22.toNatClampNeg), (.inl (cI, 11, .inl (tr_22 (3 + v1_22.toNatClampNeg))) : va_E)) := (cr_getL (cr_getR (o := 17) rfl (cg_Trial_3 cI cZ cO atr apl atb tr_22 _ g_11)))
        have hPc := cr_P1 hP h_12
        have hFc := cr_F1 hD hS hA h_12
        refine va_callv (va_runS (As := [.ref (atr (3 + v1_22.toNatClampNeg)), .int (0 : Int32)]) (rest := []) ⟨hx, hb, hml, hown, hts⟩ (ct_fill l dC dI cI cZ cO (atr (3 + v1_22.toNatClampNeg)) H.size 11 (tr_22 (3 + v1_22.toNatClampNeg)) (0 : Int32) (by decide)) (va_cwS 2 hts (ng_S tw_360 tw_358 tw_8 tw_359) rfl rfl rfl (by decide +kernel) ⟨Nat.le_of_ble_eq_true rfl, Nat.le_of_ble_eq_true rfl⟩) ⟨fun a U g mk q => by obtain ⟨q0, q1, qP, qK, qD⟩ := q; exact ⟨q0, q1, qP, va_K.moved (u := U) (U := U.calling g mk a) (Vm.Alike.refl U.vm) qK, qD⟩, fun U hU hW => ⟨rfl, by rw [hU], by rw [hU]; exact hPc, va_K.moved hW.alike hK, cr_D1⟩⟩ rfl rfl hl.1 rfl (lv_room (Nat.le_of_ble_eq_true rfl)) nd_Trial_clear_40 ⟨Nat.zero_le _, Nat.zero_le _⟩) hS (fun q _ h => hFc q h) hFc (fun u t H1 locs ht hvm hw hB hz1 hk1 hS => ?_)
        obtain ⟨hP1, hK1, hD1⟩ := hB
        rw [ht] at hP1
        subst hw
        obtain ⟨hP, hD⟩ := cr_join1 hP hD h_12 hk1 hP1
        generalize H1 = H at hP hS ⊢
        rw [(cr_setL (by simp only [List.length_append, List.length_cons, List.length_nil]; omega) (cr_setR (o := 17) rfl (cf_Trial_3 cI cZ cO atr apl atb tr_22 (0 : Int32) _ g_11)))] at hP hD
        have hP : va_P (dC, dI) vwCl (cw_Plan cI cZ cO apl pl ++ cw_Trial cI cZ cO atr apl atb (cr_fill tr_22 (3 + v1_22.toNatClampNeg) 11 (0 : Int32)) ++ cw_Board cI cZ cO atb apl tb_22) H := hP
        have hD : va_D A (cw_Plan cI cZ cO apl pl ++ cw_Trial cI cZ cO atr apl atb (cr_fill tr_22 (3 + v1_22.toNatClampNeg) 11 (0 : Int32)) ++ cw_Board cI cZ cO atb apl tb_22) := hD
        obtain ⟨trq_13, htrq_13⟩ : ∃ z, (cr_fill tr_22 (3 + v1_22.toNatClampNeg) 11 (0 : Int32)) = z := ⟨_, rfl⟩
        rw [htrq_13] at hP hD
        try rw [htrq_13] at hM
        have e_14 : (v1_22 + (1 : Int32)).toInt = v1_22.toInt + (1 : Int32).toInt := cr_add (by omega)
        refine lv_iinc (v := (v1_22 + (1 : Int32))) (lv' := [(1, .int (v1_22 + (1 : Int32))), (0, .ref (atr 0))]) hx hb nd_Trial_clear_43 hl (k := 1) rfl (by rfl) (by decide) rfl (fun ls hl => ?_)
        refine lv_goto (tgt := 22) hx hb nd_Trial_clear_46 (by decide) ?_
        exact ih_22 trq_13 tb_22 (v1_22 + (1 : Int32)) hR_tb_22 (by omega) (by omega) hM _ _ hP hD hS _ (lv_sub hl [1, 0] rfl)
  exact lp_22 11 trq_7 tbq_2 (1 : Int32) hR_4 (by omega) (by omega) hM _ _ hP hD hS _ hl

theorem nd_Trial_startThoseDue_0 : decode prog_5_method_4_code 0 = .ok (.iconst 1, 1) := by decide +kernel
theorem nd_Trial_startThoseDue_1 : decode prog_5_method_4_code 1 = .ok (.istore 4, 2) := by decide +kernel
theorem nd_Trial_startThoseDue_3 : decode prog_5_method_4_code 3 = .ok (.iload 4, 2) := by decide +kernel
theorem nd_Trial_startThoseDue_5 : decode prog_5_method_4_code 5 = .ok (.aload_n 0, 1) := by decide +kernel
theorem nd_Trial_startThoseDue_6 : decode prog_5_method_4_code 6 = .ok (.getfield 20, 3) := by decide +kernel
theorem nd_Trial_startThoseDue_9 : decode prog_5_method_4_code 9 = .ok (.getfield 40, 3) := by decide +kernel
theorem nd_Trial_startThoseDue_12 : decode prog_5_method_4_code 12 = .ok (.if_icmp .gt (40), 3) := by decide +kernel
theorem nd_Trial_startThoseDue_15 : decode prog_5_method_4_code 15 = .ok (.lload_n 1, 1) := by decide +kernel
theorem nd_Trial_startThoseDue_16 : decode prog_5_method_4_code 16 = .ok (.iconst 3, 1) := by decide +kernel
theorem nd_Trial_startThoseDue_17 : decode prog_5_method_4_code 17 = .ok (.iload 4, 2) := by decide +kernel
theorem nd_Trial_startThoseDue_19 : decode prog_5_method_4_code 19 = .ok (.iconst 1, 1) := by decide +kernel
theorem nd_Trial_startThoseDue_20 : decode prog_5_method_4_code 20 = .ok (.isub, 1) := by decide +kernel
theorem nd_Trial_startThoseDue_21 : decode prog_5_method_4_code 21 = .ok (.imul, 1) := by decide +kernel
theorem nd_Trial_startThoseDue_22 : decode prog_5_method_4_code 22 = .ok (.lushr, 1) := by decide +kernel
theorem nd_Trial_startThoseDue_23 : decode prog_5_method_4_code 23 = .ok (.ldc2_w 73, 3) := by decide +kernel
theorem nd_Trial_startThoseDue_26 : decode prog_5_method_4_code 26 = .ok (.land, 1) := by decide +kernel
theorem nd_Trial_startThoseDue_27 : decode prog_5_method_4_code 27 = .ok (.lstore 5, 2) := by decide +kernel
theorem nd_Trial_startThoseDue_29 : decode prog_5_method_4_code 29 = .ok (.lload 5, 2) := by decide +kernel
theorem nd_Trial_startThoseDue_31 : decode prog_5_method_4_code 31 = .ok (.iload_n 3, 1) := by decide +kernel
theorem nd_Trial_startThoseDue_32 : decode prog_5_method_4_code 32 = .ok (.i2l, 1) := by decide +kernel
theorem nd_Trial_startThoseDue_33 : decode prog_5_method_4_code 33 = .ok (.lcmp, 1) := by decide +kernel
theorem nd_Trial_startThoseDue_34 : decode prog_5_method_4_code 34 = .ok (.ifCond .ne (12), 3) := by decide +kernel
theorem nd_Trial_startThoseDue_37 : decode prog_5_method_4_code 37 = .ok (.aload_n 0, 1) := by decide +kernel
theorem nd_Trial_startThoseDue_38 : decode prog_5_method_4_code 38 = .ok (.getfield 29, 3) := by decide +kernel
theorem nd_Trial_startThoseDue_41 : decode prog_5_method_4_code 41 = .ok (.iload 4, 2) := by decide +kernel
theorem nd_Trial_startThoseDue_43 : decode prog_5_method_4_code 43 = .ok (.invokevirtual 75, 3) := by decide +kernel
theorem nd_Trial_startThoseDue_46 : decode prog_5_method_4_code 46 = .ok (.iinc 4 1, 3) := by decide +kernel
theorem nd_Trial_startThoseDue_49 : decode prog_5_method_4_code 49 = .ok (.goto (-46), 3) := by decide +kernel
theorem nd_Trial_startThoseDue_52 : decode prog_5_method_4_code 52 = .ok (.return_, 1) := by decide +kernel
def lo_Trial_startThoseDue_3 (pl : cr_S) (tr : cr_S) (x1 : Int64) (x3 : Int32) : Nat → cr_S → Int32 → cr_S
  | 0, tb_3, _ => tb_3
  | n_3 + 1, tb_3, v4_3 =>
    (if (pl 0 0) < v4_3 then tb_3 else (if (lg_cmp ((x1.toUInt64 >>> (((3 : Int32) * (v4_3 - (1 : Int32))).toInt64.toUInt64 &&& Int64.toUInt64 63)).toInt64 &&& (7 : Int64)) x3.toInt64) = 0 then (lo_Trial_startThoseDue_3 pl tr x1 x3 n_3 (md_Board_makeReady pl tb_3 v4_3) (v4_3 + (1 : Int32))) else (lo_Trial_startThoseDue_3 pl tr x1 x3 n_3 tb_3 (v4_3 + (1 : Int32)))))
def md_Trial_startThoseDue (pl : cr_S) (tr : cr_S) (tb : cr_S) (x1 : Int64) (x3 : Int32) : cr_S :=
  (lo_Trial_startThoseDue_3 pl tr x1 x3 11 tb (1 : Int32))
abbrev pq_Trial_startThoseDue (dC : Nat → ClassId) (dI : Nat → Nat → Nat) (cI cZ cO : ClassId) (apl atr atb : Nat → Nat) (pl : cr_S) (tr : cr_S) (tb : cr_S) (x1 : Int64) (x3 : Int32) (A : Nat → Prop) : Array Value → State → Outcome → State → Prop :=
  va_Qv (fun (tb' : cr_S) => tb' = md_Trial_startThoseDue pl tr tb x1 x3 ∧ cr_RBoard tb') (fun (tb' : cr_S) t => va_P (dC, dI) vwCl (cw_Plan cI cZ cO apl pl ++ cw_Trial cI cZ cO atr apl atb tr ++ cw_Board cI cZ cO atb apl tb') t.heap ∧ va_K (dC, dI) vwCl [(cI, .int), (cZ, .boolean), (cO, .array .int)] t ∧ va_D A (cw_Plan cI cZ cO apl pl ++ cw_Trial cI cZ cO atr apl atb tr ++ cw_Board cI cZ cO atb apl tb')) A
set_option maxHeartbeats 4000000 in
set_option maxRecDepth 100000 in
theorem ct_Trial_startThoseDue (l : Launch) (dC : Nat → ClassId) (dI : Nat → Nat → Nat) (cI cZ cO : ClassId) (apl atr atb : Nat → Nat) (sz : Nat) (pl : cr_S) (tr : cr_S) (tb : cr_S) (x1 : Int64) (x3 : Int32) (hR_tb : cr_RBoard tb) (hR_pl : cr_RPlan pl) : Met l ny_Trial_startThoseDue nw_Trial_startThoseDue ({ frames := 1, cells := 0, slots := 0, locals := 21 } : Room) (va_Pc [.ref (atr 0), .long x1, .int x3] (fun U => U.heap.size = sz ∧ va_P (dC, dI) vwCl (cw_Plan cI cZ cO apl pl ++ cw_Trial cI cZ cO atr apl atb tr ++ cw_Board cI cZ cO atb apl tb) U.heap ∧ va_K (dC, dI) vwCl [(cI, .int), (cZ, .boolean), (cO, .array .int)] U ∧ va_D (fun _ => True) (cw_Plan cI cZ cO apl pl ++ cw_Trial cI cZ cO atr apl atb tr ++ cw_Board cI cZ cO atb apl tb))) (pq_Trial_startThoseDue dC dI cI cZ cO apl atr atb pl tr tb x1 x3 (va_A (cw_Plan cI cZ cO apl pl ++ cw_Trial cI cZ cO atr apl atb tr ++ cw_Board cI cZ cO atb apl tb) sz)) 0 0 (va_A (cw_Plan cI cZ cO apl pl ++ cw_Trial cI cZ cO atr apl atb tr ++ cw_Board cI cZ cO atb apl tb) sz) := by
  refine Met.ofW (cc := prog_5_method_4_code) (maxL := 7) (ret := none) (by decide) rfl ?_
  intro p e s m args below meth c s₁ B hml hv
  obtain ⟨rfl, hsz, hP, hK, hD0⟩ := hv
  have hx := B.exec
  have hb := B.bytes
  have hr := B.returns
  have hts0 := atoms_spec (ws := nw_Trial_startThoseDue) B.pre
  have hts : ∀ w ∈ ng_tbl, w.before ([.ref (atr 0), .long x1, .int x3] : List Value).toArray s = true := fun w h => hts0 w (List.mem_cons_of_mem _ h)
  have hown : s.vm.findClass "CeilingRows$Trial" = some m.cls := findClass_of_methodNamed B.named
  have hlocks := B.notSynchronized
  subst hsz
  have hD := hD0.self (sz := s.heap.size)
  generalize hAe : va_A (cw_Plan cI cZ cO apl pl ++ cw_Trial cI cZ cO atr apl atb tr ++ cw_Board cI cZ cO atb apl tb) s.heap.size = A at hD ⊢
  have hA : ∀ q : Nat, s.heap.size ≤ q → A q := fun q h => by rw [← hAe]; exact Or.inr h
  have hS : va_S A s.heap s.heap [] := va_S.rf
  have hP : va_P (dC, dI) vwCl (cw_Plan cI cZ cO apl pl ++ cw_Trial cI cZ cO atr apl atb tr ++ cw_Board cI cZ cO atb apl tb) s.heap := hP
  have hl := lv_entry ([.ref (atr 0), .long x1, .int x3]) (n := 7) (Nat.le_of_ble_eq_true rfl)
  rw [lg_entry_eq]
  generalize (lg_sl ([.ref (atr 0), .long x1, .int x3]) ++ List.replicate (7 - (lg_sl ([.ref (atr 0), .long x1, .int x3])).length) Slot.unset).toArray = ls at hl ⊢
  have hl : lv_has ls 7 [(0, .ref (atr 0)), (1, .long x1), (3, .int x3)] := hl
  have k_0 : (0 : Int32).toInt = 0 := by decide
  have k_1 : (1 : Int32).toInt = 1 := by decide
  have k_3 : (3 : Int32).toInt = 3 := by decide
  obtain ⟨tgt, hT⟩ : ∃ z, md_Trial_startThoseDue pl tr tb x1 x3 = z := ⟨_, rfl⟩
  have hM := hT
  unfold md_Trial_startThoseDue at hM
  refine lv_iconst (v := 1) hx hb nd_Trial_startThoseDue_0 (by decide) ?_
  refine lv_istore (lv' := [(4, .int (1 : Int32)), (0, .ref (atr 0)), (1, .long x1), (3, .int x3)]) hx hb nd_Trial_startThoseDue_1 hl (by decide) rfl (fun ls hl => ?_)
  have hl := lv_sub hl [1, 2, 3, 0] rfl
  have lp_3 : ∀ (n_3 : Nat) (tb_3 : cr_S) (v4_3 : Int32), (cr_RBoard tb_3) → (1 ≤ v4_3.toInt ∧ v4_3.toInt ≤ 11) → (11 < v4_3.toInt + (n_3 : Int)) → lo_Trial_startThoseDue_3 pl tr x1 x3 n_3 tb_3 v4_3 = tgt → ∀ (H : Heap) (locs : List Loc), va_P (dC, dI) vwCl (cw_Plan cI cZ cO apl pl ++ cw_Trial cI cZ cO atr apl atb tr ++ cw_Board cI cZ cO atb apl tb_3) H → va_D A (cw_Plan cI cZ cO apl pl ++ cw_Trial cI cZ cO atr apl atb tr ++ cw_Board cI cZ cO atb apl tb_3) → va_S A s.heap H locs → ∀ ls : Array Slot, lv_has ls 7 [(0, .ref (atr 0)), (1, .long x1), (3, .int x3), (4, .int v4_3)] → W p l e (headSpec nw_Trial_startThoseDue ({ frames := 1, cells := 0, slots := 0, locals := 21 } : Room)).room s m ([.ref (atr 0), .long x1, .int x3] : List Value).toArray below meth c H locs 0 0 (MQ below (pq_Trial_startThoseDue dC dI cI cZ cO apl atr atb pl tr tb x1 x3 A) ([.ref (atr 0), .long x1, .int x3] : List Value).toArray s 0 0 A) (F0 m 3 ls []) := by
    intro n_3
    induction n_3 with
    | zero =>
      intro tb_3 v4_3 hR_tb_3 hv4_3 hn_3
      exfalso; omega
    | succ n_3 ih_3 =>
      intro tb_3 v4_3 hR_tb_3 hv4_3 hn_3 hM H locs hP hD hS ls hl
      have hn_3 : 11 < v4_3.toInt + ((n_3 : Int) + 1) := by omega
      rw [lo_Trial_startThoseDue_3] at hM
      refine lv_iload hx hb nd_Trial_startThoseDue_3 (lv_at hl 3 rfl) ?_
      refine lv_aload_n hx hb nd_Trial_startThoseDue_5 rfl (lv_at hl 0 rfl) ?_
      refine va_get (D := (dC, dI)) (ci := 3) (v := .ref (apl 0)) (C := "CeilingRows$Trial") (T := nf_Trial) (N := 5) hx hb hts nin_Trial hown hK hP 17 rfl rfl 0 (by decide) (hts _ tw_122) (fun _ h9 => h9) rfl nd_Trial_startThoseDue_6 ?_
      refine va_get (D := (dC, dI)) (ci := 0) (v := .int (pl 0 0)) (C := "CeilingRows$Plan") (T := nf_Plan) (N := 7) hx hb hts nin_Plan hown hK hP 0 rfl rfl 0 (by decide) (hts _ tw_27) (fun _ h9 => h9) rfl nd_Trial_startThoseDue_9 ?_
      have f_1 := cr_rfo hR_pl.1
      refine lv_icmp_gt (tgt := 52) hx hb nd_Trial_startThoseDue_12 (by decide) (fun c_2 => ?_) (fun c_2 => ?_)
      · have c_2t := cr_lt c_2
        rw [if_pos c_2] at hM
        exact W.vret hx hb hr (fun t ht hW => ⟨⟨tb_3, rfl, ⟨by rw [hT, ← hM], hR_tb_3⟩, by rw [ht]; exact hP, va_K.moved hW.alike hK, hD⟩, hS.F ht⟩) hS.2.2 nd_Trial_startThoseDue_52
      · have c_2t := cr_nlt c_2
        rw [if_neg c_2] at hM
        refine lv_lload_n hx hb nd_Trial_startThoseDue_15 rfl (lv_at hl 1 rfl) ?_
        refine lv_iconst (v := 3) hx hb nd_Trial_startThoseDue_16 (by decide) ?_
        refine lv_iload hx hb nd_Trial_startThoseDue_17 (lv_at hl 3 rfl) ?_
        refine lv_iconst (v := 1) hx hb nd_Trial_startThoseDue_19 (by decide) ?_
        refine lv_isub hx hb nd_Trial_startThoseDue_20 ?_
        have e_3 : (v4_3 - (1 : Int32)).toInt = v4_3.toInt - (1 : Int32).toInt := cr_sub (by omega)
        refine lv_imul hx hb nd_Trial_startThoseDue_21 ?_
        have e_4 : ((3 : Int32) * (v4_3 - (1 : Int32))).toInt = 3 * (v4_3 - (1 : Int32)).toInt := cr_mulL 3 k_3 (by omega)
        refine lv_lushr (v := (x1.toUInt64 >>> (((3 : Int32) * (v4_3 - (1 : Int32))).toInt64.toUInt64 &&& Int64.toUInt64 63)).toInt64) hx hb nd_Trial_startThoseDue_22 rfl ?_
        refine lv_ldc2 (v := 7) hx hb hown (hts _ tw_365) nd_Trial_startThoseDue_23 ?_
        refine lv_land hx hb nd_Trial_startThoseDue_26 ?_
        refine lv_lstore (lv' := [(5, .long ((x1.toUInt64 >>> (((3 : Int32) * (v4_3 - (1 : Int32))).toInt64.toUInt64 &&& Int64.toUInt64 63)).toInt64 &&& (7 : Int64))), (0, .ref (atr 0)), (1, .long x1), (3, .int x3), (4, .int v4_3)]) hx hb nd_Trial_startThoseDue_27 hl (by decide) rfl (fun ls hl => ?_)
        refine lv_lload hx hb nd_Trial_startThoseDue_29 (lv_at hl 0 rfl) ?_
        refine lv_iload_n hx hb nd_Trial_startThoseDue_31 rfl (lv_at hl 3 rfl) ?_
        refine lv_i2l (v := x3.toInt64) hx hb nd_Trial_startThoseDue_32 rfl ?_
        refine W.lcmp hx hb nd_Trial_startThoseDue_33 ?_
        refine lv_if_ne (tgt := 46) hx hb nd_Trial_startThoseDue_34 (by decide) (fun c_5 => ?_) (fun c_5 => ?_)
        · have c_5t := cr_ne c_5
          rw [if_neg c_5] at hM
          have e_6 : (v4_3 + (1 : Int32)).toInt = v4_3.toInt + (1 : Int32).toInt := cr_add (by omega)
          refine lv_iinc (v := (v4_3 + (1 : Int32))) (lv' := [(4, .int (v4_3 + (1 : Int32))), (5, .long ((x1.toUInt64 >>> (((3 : Int32) * (v4_3 - (1 : Int32))).toInt64.toUInt64 &&& Int64.toUInt64 63)).toInt64 &&& (7 : Int64))), (0, .ref (atr 0)), (1, .long x1), (3, .int x3)]) hx hb nd_Trial_startThoseDue_46 hl (k := 4) rfl (by rfl) (by decide) rfl (fun ls hl => ?_)
          refine lv_goto (tgt := 3) hx hb nd_Trial_startThoseDue_49 (by decide) ?_
          exact ih_3 tb_3 (v4_3 + (1 : Int32)) hR_tb_3 (by omega) (by omega) hM _ _ hP hD hS _ (lv_sub hl [2, 3, 4, 0] rfl)
        · have c_5t := cr_eq c_5
          rw [if_pos c_5] at hM
          refine lv_aload_n hx hb nd_Trial_startThoseDue_37 rfl (lv_at hl 1 rfl) ?_
          refine va_get (D := (dC, dI)) (ci := 3) (v := .ref (atb 0)) (C := "CeilingRows$Trial") (T := nf_Trial) (N := 5) hx hb hts nin_Trial hown hK hP 17 rfl rfl 1 (by decide) (hts _ tw_123) (fun _ h9 => h9) rfl nd_Trial_startThoseDue_38 ?_
          refine lv_iload hx hb nd_Trial_startThoseDue_41 (lv_at hl 4 rfl) ?_
          have hPc := hP.sub (ws' := cw_Plan cI cZ cO apl pl ++ cw_Board cI cZ cO atb apl tb_3) [0, 1, 2, 3, 4, 5, 6, 7, 8, 9, 10, 11, 12, 13, 14, 15, 16, 31, 32, 33, 34, 35, 36] rfl
          have hDc := hD.sub (ws' := cw_Plan cI cZ cO apl pl ++ cw_Board cI cZ cO atb apl tb_3) [0, 1, 2, 3, 4, 5, 6, 7, 8, 9, 10, 11, 12, 13, 14, 15, 16, 31, 32, 33, 34, 35, 36] (by decide) rfl
          have hFc := va_free (wc := cw_Plan cI cZ cO apl pl ++ cw_Board cI cZ cO atb apl tb_3) hD hS hA [0, 1, 2, 3, 4, 5, 6, 7, 8, 9, 10, 11, 12, 13, 14, 15, 16, 31, 32, 33, 34, 35, 36] rfl
          refine va_callv (va_runV (As := [.int v4_3]) (rest := []) ⟨hx, hb, hml, hown, hts⟩ (ct_Board_makeReady l dC dI cI cZ cO apl atb H.size pl tb_3 v4_3 hR_tb_3 hR_pl (by omega)) (cwV 1 hts (ng_V tw_366 tw_227 tw_228 tw_3 tw_229) rfl rfl rfl (by decide +kernel) ⟨Nat.le_of_ble_eq_true rfl, Nat.le_of_ble_eq_true rfl⟩) ⟨fun a U g mk q => by obtain ⟨q0, q1, qP, qK, qD⟩ := q; exact ⟨q0, q1, qP, va_K.moved (u := U) (U := U.calling g mk a) (Vm.Alike.refl U.vm) qK, qD⟩, va_recv hK hPc (ci := 1) (q0 := 17) rfl rfl, fun U hU hW => ⟨rfl, by rw [hU], by rw [hU]; exact hPc, va_K.moved hW.alike hK, hDc.weaken (fun _ _ _ _ => trivial)⟩⟩ rfl rfl hl.1 rfl (lv_room (Nat.le_of_ble_eq_true rfl)) nd_Trial_startThoseDue_43 ⟨Nat.zero_le _, Nat.zero_le _⟩) hS (fun q _ h => hFc q h) hFc (fun u t H1 locs ht hvm hw hB hz1 hk1 hS => ?_)
          obtain ⟨hP1, hK1, hD1⟩ := hB
          rw [ht] at hP1
          obtain ⟨tbq_8, rfl⟩ : ∃ z, z = u := ⟨_, rfl⟩
          obtain ⟨w_9, hR_10⟩ := hw
          try rw [← w_9] at hM
          obtain ⟨hP, hD⟩ := va_join (wr := cw_Trial cI cZ cO atr apl atb tr) (w1 := cw_Plan cI cZ cO apl pl ++ cw_Board cI cZ cO atb apl tbq_8) hP hD [0, 1, 2, 3, 4, 5, 6, 7, 8, 9, 10, 11, 12, 13, 14, 15, 16, 31, 32, 33, 34, 35, 36] [17, 18, 19, 20, 21, 22, 23, 24, 25, 26, 27, 28, 29, 30] rfl rfl (by decide) (by decide) hk1 hFc hP1 hD1
          have hP := hP.sub (ws' := cw_Plan cI cZ cO apl pl ++ cw_Trial cI cZ cO atr apl atb tr ++ cw_Board cI cZ cO atb apl tbq_8) [14, 15, 16, 17, 18, 19, 20, 21, 22, 23, 24, 25, 26, 27, 28, 29, 30, 0, 1, 2, 3, 4, 5, 6, 7, 8, 9, 10, 11, 12, 13, 31, 32, 33, 34, 35, 36] rfl
          have hD := hD.sub (ws' := cw_Plan cI cZ cO apl pl ++ cw_Trial cI cZ cO atr apl atb tr ++ cw_Board cI cZ cO atb apl tbq_8) [14, 15, 16, 17, 18, 19, 20, 21, 22, 23, 24, 25, 26, 27, 28, 29, 30, 0, 1, 2, 3, 4, 5, 6, 7, 8, 9, 10, 11, 12, 13, 31, 32, 33, 34, 35, 36] (by decide) rfl
          generalize H1 = H at hP hS ⊢
          have e_11 : (v4_3 + (1 : Int32)).toInt = v4_3.toInt + (1 : Int32).toInt := cr_add (by omega)
          refine lv_iinc (v := (v4_3 + (1 : Int32))) (lv' := [(4, .int (v4_3 + (1 : Int32))), (5, .long ((x1.toUInt64 >>> (((3 : Int32) * (v4_3 - (1 : Int32))).toInt64.toUInt64 &&& Int64.toUInt64 63)).toInt64 &&& (7 : Int64))), (0, .ref (atr 0)), (1, .long x1), (3, .int x3)]) hx hb nd_Trial_startThoseDue_46 hl (k := 4) rfl (by rfl) (by decide) rfl (fun ls hl => ?_)
          refine lv_goto (tgt := 3) hx hb nd_Trial_startThoseDue_49 (by decide) ?_
          exact ih_3 tbq_8 (v4_3 + (1 : Int32)) hR_10 (by omega) (by omega) hM _ _ hP hD hS _ (lv_sub hl [2, 3, 4, 0] rfl)
  exact lp_3 11 tb (1 : Int32) hR_tb (by omega) (by omega) hM _ _ hP hD hS _ hl

theorem nd_Trial_haveTick_0 : decode prog_5_method_5_code 0 = .ok (.aload_n 0, 1) := by decide +kernel
theorem nd_Trial_haveTick_1 : decode prog_5_method_5_code 1 = .ok (.iload_n 1, 1) := by decide +kernel
theorem nd_Trial_haveTick_2 : decode prog_5_method_5_code 2 = .ok (.aload_n 0, 1) := by decide +kernel
theorem nd_Trial_haveTick_3 : decode prog_5_method_5_code 3 = .ok (.getfield 9, 3) := by decide +kernel
theorem nd_Trial_haveTick_6 : decode prog_5_method_5_code 6 = .ok (.iload_n 1, 1) := by decide +kernel
theorem nd_Trial_haveTick_7 : decode prog_5_method_5_code 7 = .ok (.iaload, 1) := by decide +kernel
theorem nd_Trial_haveTick_8 : decode prog_5_method_5_code 8 = .ok (.invokevirtual 78, 3) := by decide +kernel
theorem nd_Trial_haveTick_11 : decode prog_5_method_5_code 11 = .ok (.istore_n 2, 1) := by decide +kernel
theorem nd_Trial_haveTick_12 : decode prog_5_method_5_code 12 = .ok (.iload_n 2, 1) := by decide +kernel
theorem nd_Trial_haveTick_13 : decode prog_5_method_5_code 13 = .ok (.ifCond .eq (31), 3) := by decide +kernel
theorem nd_Trial_haveTick_16 : decode prog_5_method_5_code 16 = .ok (.aload_n 0, 1) := by decide +kernel
theorem nd_Trial_haveTick_17 : decode prog_5_method_5_code 17 = .ok (.getfield 29, 3) := by decide +kernel
theorem nd_Trial_haveTick_20 : decode prog_5_method_5_code 20 = .ok (.getfield 81, 3) := by decide +kernel
theorem nd_Trial_haveTick_23 : decode prog_5_method_5_code 23 = .ok (.iload_n 2, 1) := by decide +kernel
theorem nd_Trial_haveTick_24 : decode prog_5_method_5_code 24 = .ok (.iaload, 1) := by decide +kernel
theorem nd_Trial_haveTick_25 : decode prog_5_method_5_code 25 = .ok (.iload_n 1, 1) := by decide +kernel
theorem nd_Trial_haveTick_26 : decode prog_5_method_5_code 26 = .ok (.if_icmp .eq (12), 3) := by decide +kernel
theorem nd_Trial_haveTick_29 : decode prog_5_method_5_code 29 = .ok (.aload_n 0, 1) := by decide +kernel
theorem nd_Trial_haveTick_30 : decode prog_5_method_5_code 30 = .ok (.getfield 29, 3) := by decide +kernel
theorem nd_Trial_haveTick_33 : decode prog_5_method_5_code 33 = .ok (.iload_n 1, 1) := by decide +kernel
theorem nd_Trial_haveTick_34 : decode prog_5_method_5_code 34 = .ok (.iload_n 2, 1) := by decide +kernel
theorem nd_Trial_haveTick_35 : decode prog_5_method_5_code 35 = .ok (.invokevirtual 84, 3) := by decide +kernel
theorem nd_Trial_haveTick_38 : decode prog_5_method_5_code 38 = .ok (.aload_n 0, 1) := by decide +kernel
theorem nd_Trial_haveTick_39 : decode prog_5_method_5_code 39 = .ok (.iload_n 1, 1) := by decide +kernel
theorem nd_Trial_haveTick_40 : decode prog_5_method_5_code 40 = .ok (.iload_n 2, 1) := by decide +kernel
theorem nd_Trial_haveTick_41 : decode prog_5_method_5_code 41 = .ok (.invokevirtual 88, 3) := by decide +kernel
theorem nd_Trial_haveTick_44 : decode prog_5_method_5_code 44 = .ok (.aload_n 0, 1) := by decide +kernel
theorem nd_Trial_haveTick_45 : decode prog_5_method_5_code 45 = .ok (.getfield 9, 3) := by decide +kernel
theorem nd_Trial_haveTick_48 : decode prog_5_method_5_code 48 = .ok (.iload_n 1, 1) := by decide +kernel
theorem nd_Trial_haveTick_49 : decode prog_5_method_5_code 49 = .ok (.dup2, 1) := by decide +kernel
theorem nd_Trial_haveTick_50 : decode prog_5_method_5_code 50 = .ok (.iaload, 1) := by decide +kernel
theorem nd_Trial_haveTick_51 : decode prog_5_method_5_code 51 = .ok (.iconst 1, 1) := by decide +kernel
theorem nd_Trial_haveTick_52 : decode prog_5_method_5_code 52 = .ok (.iadd, 1) := by decide +kernel
theorem nd_Trial_haveTick_53 : decode prog_5_method_5_code 53 = .ok (.iastore, 1) := by decide +kernel
theorem nd_Trial_haveTick_54 : decode prog_5_method_5_code 54 = .ok (.iload_n 2, 1) := by decide +kernel
theorem nd_Trial_haveTick_55 : decode prog_5_method_5_code 55 = .ok (.ifCond .eq (26), 3) := by decide +kernel
theorem nd_Trial_haveTick_58 : decode prog_5_method_5_code 58 = .ok (.aload_n 0, 1) := by decide +kernel
theorem nd_Trial_haveTick_59 : decode prog_5_method_5_code 59 = .ok (.iload_n 1, 1) := by decide +kernel
theorem nd_Trial_haveTick_60 : decode prog_5_method_5_code 60 = .ok (.aload_n 0, 1) := by decide +kernel
theorem nd_Trial_haveTick_61 : decode prog_5_method_5_code 61 = .ok (.getfield 9, 3) := by decide +kernel
theorem nd_Trial_haveTick_64 : decode prog_5_method_5_code 64 = .ok (.iload_n 1, 1) := by decide +kernel
theorem nd_Trial_haveTick_65 : decode prog_5_method_5_code 65 = .ok (.iaload, 1) := by decide +kernel
theorem nd_Trial_haveTick_66 : decode prog_5_method_5_code 66 = .ok (.invokevirtual 78, 3) := by decide +kernel
theorem nd_Trial_haveTick_69 : decode prog_5_method_5_code 69 = .ok (.iload_n 2, 1) := by decide +kernel
theorem nd_Trial_haveTick_70 : decode prog_5_method_5_code 70 = .ok (.if_icmp .eq (11), 3) := by decide +kernel
theorem nd_Trial_haveTick_73 : decode prog_5_method_5_code 73 = .ok (.aload_n 0, 1) := by decide +kernel
theorem nd_Trial_haveTick_74 : decode prog_5_method_5_code 74 = .ok (.getfield 29, 3) := by decide +kernel
theorem nd_Trial_haveTick_77 : decode prog_5_method_5_code 77 = .ok (.iload_n 1, 1) := by decide +kernel
theorem nd_Trial_haveTick_78 : decode prog_5_method_5_code 78 = .ok (.invokevirtual 91, 3) := by decide +kernel
theorem nd_Trial_haveTick_81 : decode prog_5_method_5_code 81 = .ok (.aload_n 0, 1) := by decide +kernel
theorem nd_Trial_haveTick_82 : decode prog_5_method_5_code 82 = .ok (.getfield 9, 3) := by decide +kernel
theorem nd_Trial_haveTick_85 : decode prog_5_method_5_code 85 = .ok (.iload_n 1, 1) := by decide +kernel
theorem nd_Trial_haveTick_86 : decode prog_5_method_5_code 86 = .ok (.iaload, 1) := by decide +kernel
theorem nd_Trial_haveTick_87 : decode prog_5_method_5_code 87 = .ok (.aload_n 0, 1) := by decide +kernel
theorem nd_Trial_haveTick_88 : decode prog_5_method_5_code 88 = .ok (.iload_n 1, 1) := by decide +kernel
theorem nd_Trial_haveTick_89 : decode prog_5_method_5_code 89 = .ok (.invokevirtual 94, 3) := by decide +kernel
theorem nd_Trial_haveTick_92 : decode prog_5_method_5_code 92 = .ok (.if_icmp .lt (21), 3) := by decide +kernel
theorem nd_Trial_haveTick_95 : decode prog_5_method_5_code 95 = .ok (.aload_n 0, 1) := by decide +kernel
theorem nd_Trial_haveTick_96 : decode prog_5_method_5_code 96 = .ok (.getfield 29, 3) := by decide +kernel
theorem nd_Trial_haveTick_99 : decode prog_5_method_5_code 99 = .ok (.iload_n 1, 1) := by decide +kernel
theorem nd_Trial_haveTick_100 : decode prog_5_method_5_code 100 = .ok (.invokevirtual 97, 3) := by decide +kernel
theorem nd_Trial_haveTick_103 : decode prog_5_method_5_code 103 = .ok (.aload_n 0, 1) := by decide +kernel
theorem nd_Trial_haveTick_104 : decode prog_5_method_5_code 104 = .ok (.dup, 1) := by decide +kernel
theorem nd_Trial_haveTick_105 : decode prog_5_method_5_code 105 = .ok (.getfield 36, 3) := by decide +kernel
theorem nd_Trial_haveTick_108 : decode prog_5_method_5_code 108 = .ok (.iconst 1, 1) := by decide +kernel
theorem nd_Trial_haveTick_109 : decode prog_5_method_5_code 109 = .ok (.iadd, 1) := by decide +kernel
theorem nd_Trial_haveTick_110 : decode prog_5_method_5_code 110 = .ok (.putfield 36, 3) := by decide +kernel
theorem nd_Trial_haveTick_113 : decode prog_5_method_5_code 113 = .ok (.return_, 1) := by decide +kernel
def jn_Trial_haveTick_81 (pl : cr_S) (x1 : Int32) (tr_81 : cr_S) (tb_81 : cr_S) : cr_S × cr_S :=
  (if (tr_81 1 x1.toNatClampNeg) < (md_Trial_ticksOf pl tr_81 tb_81 x1) then (tr_81, tb_81) else ((cr_up tr_81 0 0 ((tr_81 0 0) + (1 : Int32))), (md_Board_putToSleep pl tb_81 x1)))
def jn_Trial_haveTick_44 (pl : cr_S) (x1 : Int32) (tr_44 : cr_S) (tb_44 : cr_S) (v2_44 : Int32) : cr_S × cr_S :=
  (if v2_44 = 0 then (jn_Trial_haveTick_81 pl x1 (cr_up tr_44 1 x1.toNatClampNeg ((tr_44 1 x1.toNatClampNeg) + (1 : Int32))) tb_44) else (if (md_Trial_resourceAt pl (cr_up tr_44 1 x1.toNatClampNeg ((tr_44 1 x1.toNatClampNeg) + (1 : Int32))) tb_44 x1 ((cr_up tr_44 1 x1.toNatClampNeg ((tr_44 1 x1.toNatClampNeg) + (1 : Int32))) 1 x1.toNatClampNeg)) = v2_44 then (jn_Trial_haveTick_81 pl x1 (cr_up tr_44 1 x1.toNatClampNeg ((tr_44 1 x1.toNatClampNeg) + (1 : Int32))) tb_44) else (jn_Trial_haveTick_81 pl x1 (cr_up tr_44 1 x1.toNatClampNeg ((tr_44 1 x1.toNatClampNeg) + (1 : Int32))) (md_Board_giveBackLast pl tb_44 x1))))
def md_Trial_haveTick (pl : cr_S) (tr : cr_S) (tb : cr_S) (x1 : Int32) : cr_S × cr_S :=
  (if (md_Trial_resourceAt pl tr tb x1 (tr 1 x1.toNatClampNeg)) = 0 then (jn_Trial_haveTick_44 pl x1 tr tb (md_Trial_resourceAt pl tr tb x1 (tr 1 x1.toNatClampNeg))) else (if (tb 4 (md_Trial_resourceAt pl tr tb x1 (tr 1 x1.toNatClampNeg)).toNatClampNeg) = x1 then (jn_Trial_haveTick_44 pl x1 (md_Trial_noteDelays pl tr tb x1 (md_Trial_resourceAt pl tr tb x1 (tr 1 x1.toNatClampNeg))) tb (md_Trial_resourceAt pl tr tb x1 (tr 1 x1.toNatClampNeg))) else (jn_Trial_haveTick_44 pl x1 (md_Trial_noteDelays pl tr (md_Board_take pl tb x1 (md_Trial_resourceAt pl tr tb x1 (tr 1 x1.toNatClampNeg))) x1 (md_Trial_resourceAt pl tr tb x1 (tr 1 x1.toNatClampNeg))) (md_Board_take pl tb x1 (md_Trial_resourceAt pl tr tb x1 (tr 1 x1.toNatClampNeg))) (md_Trial_resourceAt pl tr tb x1 (tr 1 x1.toNatClampNeg)))))
abbrev pq_Trial_haveTick (dC : Nat → ClassId) (dI : Nat → Nat → Nat) (cI cZ cO : ClassId) (apl atr atb : Nat → Nat) (pl : cr_S) (tr : cr_S) (tb : cr_S) (x1 : Int32) (A : Nat → Prop) : Array Value → State → Outcome → State → Prop :=
  va_Qv (fun (u : cr_S × cr_S) => u.1 = (md_Trial_haveTick pl tr tb x1).1 ∧ u.2 = (md_Trial_haveTick pl tr tb x1).2 ∧ cr_RBoard u.2) (fun (u : cr_S × cr_S) t => va_P (dC, dI) vwCl (cw_Plan cI cZ cO apl pl ++ cw_Trial cI cZ cO atr apl atb u.1 ++ cw_Board cI cZ cO atb apl u.2) t.heap ∧ va_K (dC, dI) vwCl [(cI, .int), (cZ, .boolean), (cO, .array .int)] t ∧ va_D A (cw_Plan cI cZ cO apl pl ++ cw_Trial cI cZ cO atr apl atb u.1 ++ cw_Board cI cZ cO atb apl u.2)) A
set_option maxHeartbeats 4000000 in
set_option maxRecDepth 100000 in
theorem ct_Trial_haveTick (l : Launch) (dC : Nat → ClassId) (dI : Nat → Nat → Nat) (cI cZ cO : ClassId) (apl atr atb : Nat → Nat) (sz : Nat) (pl : cr_S) (tr : cr_S) (tb : cr_S) (x1 : Int32) (hR_tb : cr_RBoard tb) (hR_pl : cr_RPlan pl) (hx1 : 0 ≤ x1.toInt ∧ x1.toInt ≤ 10) : Met l ny_Trial_haveTick nw_Trial_haveTick ({ frames := 3, cells := 0, slots := 0, locals := 68 } : Room) (va_Pc [.ref (atr 0), .int x1] (fun U => U.heap.size = sz ∧ va_P (dC, dI) vwCl (cw_Plan cI cZ cO apl pl ++ cw_Trial cI cZ cO atr apl atb tr ++ cw_Board cI cZ cO atb apl tb) U.heap ∧ va_K (dC, dI) vwCl [(cI, .int), (cZ, .boolean), (cO, .array .int)] U ∧ va_D (fun _ => True) (cw_Plan cI cZ cO apl pl ++ cw_Trial cI cZ cO atr apl atb tr ++ cw_Board cI cZ cO atb apl tb))) (pq_Trial_haveTick dC dI cI cZ cO apl atr atb pl tr tb x1 (va_A (cw_Plan cI cZ cO apl pl ++ cw_Trial cI cZ cO atr apl atb tr ++ cw_Board cI cZ cO atb apl tb) sz)) 0 0 (va_A (cw_Plan cI cZ cO apl pl ++ cw_Trial cI cZ cO atr apl atb tr ++ cw_Board cI cZ cO atb apl tb) sz) := by
  refine Met.ofW (cc := prog_5_method_5_code) (maxL := 3) (ret := none) (by decide) rfl ?_
  intro p e s m args below meth c s₁ B hml hv
  obtain ⟨rfl, hsz, hP, hK, hD0⟩ := hv
  have hx := B.exec
  have hb := B.bytes
  have hr := B.returns
  have hts0 := atoms_spec (ws := nw_Trial_haveTick) B.pre
  have hts : ∀ w ∈ ng_tbl, w.before ([.ref (atr 0), .int x1] : List Value).toArray s = true := fun w h => hts0 w (List.mem_cons_of_mem _ h)
  have hown : s.vm.findClass "CeilingRows$Trial" = some m.cls := findClass_of_methodNamed B.named
  have hlocks := B.notSynchronized
  subst hsz
  have hD := hD0.self (sz := s.heap.size)
  generalize hAe : va_A (cw_Plan cI cZ cO apl pl ++ cw_Trial cI cZ cO atr apl atb tr ++ cw_Board cI cZ cO atb apl tb) s.heap.size = A at hD ⊢
  have hA : ∀ q : Nat, s.heap.size ≤ q → A q := fun q h => by rw [← hAe]; exact Or.inr h
  have hS : va_S A s.heap s.heap [] := va_S.rf
  have hP : va_P (dC, dI) vwCl (cw_Plan cI cZ cO apl pl ++ cw_Trial cI cZ cO atr apl atb tr ++ cw_Board cI cZ cO atb apl tb) s.heap := hP
  have hl := lv_entry ([.ref (atr 0), .int x1]) (n := 3) (Nat.le_of_ble_eq_true rfl)
  rw [lg_entry_eq]
  generalize (lg_sl ([.ref (atr 0), .int x1]) ++ List.replicate (3 - (lg_sl ([.ref (atr 0), .int x1])).length) Slot.unset).toArray = ls at hl ⊢
  have hl : lv_has ls 3 [(0, .ref (atr 0)), (1, .int x1)] := hl
  have k_0 : (0 : Int32).toInt = 0 := by decide
  have k_1 : (1 : Int32).toInt = 1 := by decide
  obtain ⟨tgt, hT⟩ : ∃ z, md_Trial_haveTick pl tr tb x1 = z := ⟨_, rfl⟩
  have hM := hT
  unfold md_Trial_haveTick at hM
  have hj_81 : ∀ (tr_81 : cr_S) (tb_81 : cr_S), (cr_RBoard tb_81) → jn_Trial_haveTick_81 pl x1 tr_81 tb_81 = tgt → ∀ (H : Heap) (locs : List Loc), va_P (dC, dI) vwCl (cw_Plan cI cZ cO apl pl ++ cw_Trial cI cZ cO atr apl atb tr_81 ++ cw_Board cI cZ cO atb apl tb_81) H → va_D A (cw_Plan cI cZ cO apl pl ++ cw_Trial cI cZ cO atr apl atb tr_81 ++ cw_Board cI cZ cO atb apl tb_81) → va_S A s.heap H locs → ∀ ls : Array Slot, lv_has ls 3 [(0, .ref (atr 0)), (1, .int x1)] → W p l e (headSpec nw_Trial_haveTick ({ frames := 3, cells := 0, slots := 0, locals := 68 } : Room)).room s m ([.ref (atr 0), .int x1] : List Value).toArray below meth c H locs 0 0 (MQ below (pq_Trial_haveTick dC dI cI cZ cO apl atr atb pl tr tb x1 A) ([.ref (atr 0), .int x1] : List Value).toArray s 0 0 A) (F0 m 81 ls []) := by
    intro tr_81 tb_81 hR_tb_81 hM H locs hP hD hS ls hl
    unfold jn_Trial_haveTick_81 at hM
    refine lv_aload_n hx hb nd_Trial_haveTick_81 rfl (lv_at hl 0 rfl) ?_
    refine va_get (D := (dC, dI)) (ci := 3) (v := .ref (atr 1)) (C := "CeilingRows$Trial") (T := nf_Trial) (N := 5) hx hb hts nin_Trial hown hK hP 17 rfl rfl 2 (by decide) (hts _ tw_124) (fun _ h9 => h9) rfl nd_Trial_haveTick_82 ?_
    refine lv_iload_n hx hb nd_Trial_haveTick_85 rfl (lv_at hl 1 rfl) ?_
    have b_1 : vp_in x1 11 := vp_in_iff.mpr (by omega)
    refine va_iald hx hb hK hP 18 0 rfl rfl b_1 nd_Trial_haveTick_86 ?_
    refine lv_aload_n hx hb nd_Trial_haveTick_87 rfl (lv_at hl 0 rfl) ?_
    refine lv_iload_n hx hb nd_Trial_haveTick_88 rfl (lv_at hl 1 rfl) ?_
    have hPc := hP
    have hDc := hD
    have hFc := va_free (wc := cw_Plan cI cZ cO apl pl ++ cw_Trial cI cZ cO atr apl atb tr_81 ++ cw_Board cI cZ cO atb apl tb_81) hD hS hA [0, 1, 2, 3, 4, 5, 6, 7, 8, 9, 10, 11, 12, 13, 14, 15, 16, 17, 18, 19, 20, 21, 22, 23, 24, 25, 26, 27, 28, 29, 30, 31, 32, 33, 34, 35, 36] rfl
    refine va_calli (va_runV (As := [.int x1]) (rest := [.int (tr_81 1 x1.toNatClampNeg)]) ⟨hx, hb, hml, hown, hts⟩ (ct_Trial_ticksOf l dC dI cI cZ cO apl atr atb H.size pl tr_81 tb_81 x1 hR_tb_81 hR_pl (by omega)) (cwV 1 hts (ng_V tw_391 tw_393 tp_16 tw_5 tw_394) rfl rfl rfl (by decide +kernel) ⟨Nat.le_of_ble_eq_true rfl, Nat.le_of_ble_eq_true rfl⟩) ⟨fun a U g mk q => by obtain ⟨q0, q1, qP, qK, qD⟩ := q; exact ⟨q0, q1, qP, va_K.moved (u := U) (U := U.calling g mk a) (Vm.Alike.refl U.vm) qK, qD⟩, va_recv hK hPc (ci := 3) (q0 := 17) rfl rfl, fun U hU hW => ⟨rfl, by rw [hU], by rw [hU]; exact hPc, va_K.moved hW.alike hK, hDc.weaken (fun _ _ _ _ => trivial)⟩⟩ rfl rfl hl.1 rfl (lv_room (Nat.le_of_ble_eq_true rfl)) nd_Trial_haveTick_89 ⟨Nat.zero_le _, Nat.zero_le _⟩) hS (fun q _ h => hFc q h) hFc (fun r_2 u t H1 locs ht hvm hw hB hz1 hk1 hS => ?_)
    obtain ⟨hP1, hK1, hD1⟩ := hB
    rw [ht] at hP1
    have w_3 := hw
    try rw [← w_3] at hM
    have hP := hP1
    have hD := cr_Dw hD1 hFc
    generalize H1 = H at hP hS ⊢
    refine lv_icmp_lt (tgt := 113) hx hb nd_Trial_haveTick_92 (by decide) (fun c_4 => ?_) (fun c_4 => ?_)
    · have c_4t := cr_lt c_4
      rw [if_pos c_4] at hM
      exact W.vret hx hb hr (fun t ht hW => ⟨⟨(tr_81, tb_81), rfl, ⟨by rw [hT, ← hM], by rw [hT, ← hM], hR_tb_81⟩, by rw [ht]; exact hP, va_K.moved hW.alike hK, hD⟩, hS.F ht⟩) hS.2.2 nd_Trial_haveTick_113
    · have c_4t := cr_nlt c_4
      rw [if_neg c_4] at hM
      refine lv_aload_n hx hb nd_Trial_haveTick_95 rfl (lv_at hl 0 rfl) ?_
      refine va_get (D := (dC, dI)) (ci := 3) (v := .ref (atb 0)) (C := "CeilingRows$Trial") (T := nf_Trial) (N := 5) hx hb hts nin_Trial hown hK hP 17 rfl rfl 1 (by decide) (hts _ tw_123) (fun _ h9 => h9) rfl nd_Trial_haveTick_96 ?_
      refine lv_iload_n hx hb nd_Trial_haveTick_99 rfl (lv_at hl 1 rfl) ?_
      have hPc := hP.sub (ws' := cw_Plan cI cZ cO apl pl ++ cw_Board cI cZ cO atb apl tb_81) [0, 1, 2, 3, 4, 5, 6, 7, 8, 9, 10, 11, 12, 13, 14, 15, 16, 31, 32, 33, 34, 35, 36] rfl
      have hDc := hD.sub (ws' := cw_Plan cI cZ cO apl pl ++ cw_Board cI cZ cO atb apl tb_81) [0, 1, 2, 3, 4, 5, 6, 7, 8, 9, 10, 11, 12, 13, 14, 15, 16, 31, 32, 33, 34, 35, 36] (by decide) rfl
      have hFc := va_free (wc := cw_Plan cI cZ cO apl pl ++ cw_Board cI cZ cO atb apl tb_81) hD hS hA [0, 1, 2, 3, 4, 5, 6, 7, 8, 9, 10, 11, 12, 13, 14, 15, 16, 31, 32, 33, 34, 35, 36] rfl
      refine va_callv (va_runV (As := [.int x1]) (rest := []) ⟨hx, hb, hml, hown, hts⟩ (ct_Board_putToSleep l dC dI cI cZ cO apl atb H.size pl tb_81 x1 hR_tb_81 hR_pl (by omega)) (cwV 1 hts (ng_V tw_395 tw_276 tw_277 tw_3 tw_278) rfl rfl rfl (by decide +kernel) ⟨Nat.le_of_ble_eq_true rfl, Nat.le_of_ble_eq_true rfl⟩) ⟨fun a U g mk q => by obtain ⟨q0, q1, qP, qK, qD⟩ := q; exact ⟨q0, q1, qP, va_K.moved (u := U) (U := U.calling g mk a) (Vm.Alike.refl U.vm) qK, qD⟩, va_recv hK hPc (ci := 1) (q0 := 17) rfl rfl, fun U hU hW => ⟨rfl, by rw [hU], by rw [hU]; exact hPc, va_K.moved hW.alike hK, hDc.weaken (fun _ _ _ _ => trivial)⟩⟩ rfl rfl hl.1 rfl (lv_room (Nat.le_of_ble_eq_true rfl)) nd_Trial_haveTick_100 ⟨Nat.zero_le _, Nat.zero_le _⟩) hS (fun q _ h => hFc q h) hFc (fun u t H1 locs ht hvm hw hB hz1 hk1 hS => ?_)
      obtain ⟨hP1, hK1, hD1⟩ := hB
      rw [ht] at hP1
      obtain ⟨tbq_6, rfl⟩ : ∃ z, z = u := ⟨_, rfl⟩
      obtain ⟨w_7, hR_8⟩ := hw
      try rw [← w_7] at hM
      obtain ⟨hP, hD⟩ := va_join (wr := cw_Trial cI cZ cO atr apl atb tr_81) (w1 := cw_Plan cI cZ cO apl pl ++ cw_Board cI cZ cO atb apl tbq_6) hP hD [0, 1, 2, 3, 4, 5, 6, 7, 8, 9, 10, 11, 12, 13, 14, 15, 16, 31, 32, 33, 34, 35, 36] [17, 18, 19, 20, 21, 22, 23, 24, 25, 26, 27, 28, 29, 30] rfl rfl (by decide) (by decide) hk1 hFc hP1 hD1
      have hP := hP.sub (ws' := cw_Plan cI cZ cO apl pl ++ cw_Trial cI cZ cO atr apl atb tr_81 ++ cw_Board cI cZ cO atb apl tbq_6) [14, 15, 16, 17, 18, 19, 20, 21, 22, 23, 24, 25, 26, 27, 28, 29, 30, 0, 1, 2, 3, 4, 5, 6, 7, 8, 9, 10, 11, 12, 13, 31, 32, 33, 34, 35, 36] rfl
      have hD := hD.sub (ws' := cw_Plan cI cZ cO apl pl ++ cw_Trial cI cZ cO atr apl atb tr_81 ++ cw_Board cI cZ cO atb apl tbq_6) [14, 15, 16, 17, 18, 19, 20, 21, 22, 23, 24, 25, 26, 27, 28, 29, 30, 0, 1, 2, 3, 4, 5, 6, 7, 8, 9, 10, 11, 12, 13, 31, 32, 33, 34, 35, 36] (by decide) rfl
      generalize H1 = H at hP hS ⊢
      refine lv_aload_n hx hb nd_Trial_haveTick_103 rfl (lv_at hl 0 rfl) ?_
      refine lv_dup hx hb nd_Trial_haveTick_104 rfl ?_
      refine va_get (D := (dC, dI)) (ci := 3) (v := .int (tr_81 0 0)) (C := "CeilingRows$Trial") (T := nf_Trial) (N := 5) hx hb hts nin_Trial hown hK hP 17 rfl rfl 4 (by decide) (hts _ tw_126) (fun _ h9 => h9) rfl nd_Trial_haveTick_105 ?_
      refine lv_iconst (v := 1) hx hb nd_Trial_haveTick_108 (by decide) ?_
      refine lv_iadd hx hb nd_Trial_haveTick_109 ?_
      refine va_put (D := (dC, dI)) (ci := 3) (v := .int ((tr_81 0 0) + (1 : Int32))) (ty := .int) (C := "CeilingRows$Trial") (T := nf_Trial) (N := 5) hx hb hts nin_Trial nt_Trial nto_Trial nno_Trial hown hK hP hD hS 17 rfl rfl 4 (by decide) (hts _ tw_126) (fun _ h9 => h9) rfl (by decide +kernel) rfl rfl (Nat.le_of_ble_eq_true rfl) nd_Trial_haveTick_110 (fun H locs hP hD hS => ?_)
      have hP : va_P (dC, dI) vwCl (cw_Plan cI cZ cO apl pl ++ cw_Trial cI cZ cO atr apl atb (cr_up tr_81 0 0 ((tr_81 0 0) + (1 : Int32))) ++ cw_Board cI cZ cO atb apl tbq_6) H := hP
      have hD : va_D A (cw_Plan cI cZ cO apl pl ++ cw_Trial cI cZ cO atr apl atb (cr_up tr_81 0 0 ((tr_81 0 0) + (1 : Int32))) ++ cw_Board cI cZ cO atb apl tbq_6) := hD
      obtain ⟨trq_9, htrq_9⟩ : ∃ z, (cr_up tr_81 0 0 ((tr_81 0 0) + (1 : Int32))) = z := ⟨_, rfl⟩
      rw [htrq_9] at hP hD
      try rw [htrq_9] at hM
      exact W.vret hx hb hr (fun t ht hW => ⟨⟨(trq_9, tbq_6), rfl, ⟨by rw [hT, ← hM], by rw [hT, ← hM], hR_8⟩, by rw [ht]; exact hP, va_K.moved hW.alike hK, hD⟩, hS.F ht⟩) hS.2.2 nd_Trial_haveTick_113
  have hj_44 : ∀ (tr_44 : cr_S) (tb_44 : cr_S) (v2_44 : Int32), (cr_RBoard tb_44) → (0 ≤ v2_44.toInt ∧ v2_44.toInt ≤ 8) → jn_Trial_haveTick_44 pl x1 tr_44 tb_44 v2_44 = tgt → ∀ (H : Heap) (locs : List Loc), va_P (dC, dI) vwCl (cw_Plan cI cZ cO apl pl ++ cw_Trial cI cZ cO atr apl atb tr_44 ++ cw_Board cI cZ cO atb apl tb_44) H → va_D A (cw_Plan cI cZ cO apl pl ++ cw_Trial cI cZ cO atr apl atb tr_44 ++ cw_Board cI cZ cO atb apl tb_44) → va_S A s.heap H locs → ∀ ls : Array Slot, lv_has ls 3 [(0, .ref (atr 0)), (1, .int x1), (2, .int v2_44)] → W p l e (headSpec nw_Trial_haveTick ({ frames := 3, cells := 0, slots := 0, locals := 68 } : Room)).room s m ([.ref (atr 0), .int x1] : List Value).toArray below meth c H locs 0 0 (MQ below (pq_Trial_haveTick dC dI cI cZ cO apl atr atb pl tr tb x1 A) ([.ref (atr 0), .int x1] : List Value).toArray s 0 0 A) (F0 m 44 ls []) := by
    intro tr_44 tb_44 v2_44 hR_tb_44 hv2_44 hM H locs hP hD hS ls hl
    unfold jn_Trial_haveTick_44 at hM
    refine lv_aload_n hx hb nd_Trial_haveTick_44 rfl (lv_at hl 0 rfl) ?_
    refine va_get (D := (dC, dI)) (ci := 3) (v := .ref (atr 1)) (C := "CeilingRows$Trial") (T := nf_Trial) (N := 5) hx hb hts nin_Trial hown hK hP 17 rfl rfl 2 (by decide) (hts _ tw_124) (fun _ h9 => h9) rfl nd_Trial_haveTick_45 ?_
    refine lv_iload_n hx hb nd_Trial_haveTick_48 rfl (lv_at hl 1 rfl) ?_
    refine lv_dup2_11 hx hb nd_Trial_haveTick_49 rfl rfl ?_
    have b_10 : vp_in x1 11 := vp_in_iff.mpr (by omega)
    refine va_iald hx hb hK hP 18 0 rfl rfl b_10 nd_Trial_haveTick_50 ?_
    refine lv_iconst (v := 1) hx hb nd_Trial_haveTick_51 (by decide) ?_
    refine lv_iadd hx hb nd_Trial_haveTick_52 ?_
    have b_11 : vp_in x1 11 := vp_in_iff.mpr (by omega)
    refine va_iast hx hb hK hP hD hS 18 0 rfl rfl b_11 nd_Trial_haveTick_53 (fun H locs hP hD hS => ?_)
    have hP : va_P (dC, dI) vwCl (cw_Plan cI cZ cO apl pl ++ cw_Trial cI cZ cO atr apl atb (cr_up tr_44 1 x1.toNatClampNeg ((tr_44 1 x1.toNatClampNeg) + (1 : Int32))) ++ cw_Board cI cZ cO atb apl tb_44) H := hP
    have hD : va_D A (cw_Plan cI cZ cO apl pl ++ cw_Trial cI cZ cO atr apl atb (cr_up tr_44 1 x1.toNatClampNeg ((tr_44 1 x1.toNatClampNeg) + (1 : Int32))) ++ cw_Board cI cZ cO atb apl tb_44) := hD
    obtain ⟨trq_12, htrq_12⟩ : ∃ z, (cr_up tr_44 1 x1.toNatClampNeg ((tr_44 1 x1.toNatClampNeg) + (1 : Int32))) = z := ⟨_, rfl⟩
    rw [htrq_12] at hP hD
    try rw [htrq_12] at hM
    refine lv_iload_n hx hb nd_Trial_haveTick_54 rfl (lv_at hl 2 rfl) ?_
    refine lv_if_eq (tgt := 81) hx hb nd_Trial_haveTick_55 (by decide) (fun c_13 => ?_) (fun c_13 => ?_)
    · have c_13t := cr_eq c_13
      rw [if_pos c_13] at hM
      exact hj_81 trq_12 tb_44 hR_tb_44 hM _ _ hP hD hS _ (lv_sub hl [0, 1] rfl)
    · have c_13t := cr_ne c_13
      rw [if_neg c_13] at hM
      refine lv_aload_n hx hb nd_Trial_haveTick_58 rfl (lv_at hl 0 rfl) ?_
      refine lv_iload_n hx hb nd_Trial_haveTick_59 rfl (lv_at hl 1 rfl) ?_
      refine lv_aload_n hx hb nd_Trial_haveTick_60 rfl (lv_at hl 0 rfl) ?_
      refine va_get (D := (dC, dI)) (ci := 3) (v := .ref (atr 1)) (C := "CeilingRows$Trial") (T := nf_Trial) (N := 5) hx hb hts nin_Trial hown hK hP 17 rfl rfl 2 (by decide) (hts _ tw_124) (fun _ h9 => h9) rfl nd_Trial_haveTick_61 ?_
      refine lv_iload_n hx hb nd_Trial_haveTick_64 rfl (lv_at hl 1 rfl) ?_
      have b_14 : vp_in x1 11 := vp_in_iff.mpr (by omega)
      refine va_iald hx hb hK hP 18 0 rfl rfl b_14 nd_Trial_haveTick_65 ?_
      have hPc := hP
      have hDc := hD
      have hFc := va_free (wc := cw_Plan cI cZ cO apl pl ++ cw_Trial cI cZ cO atr apl atb trq_12 ++ cw_Board cI cZ cO atb apl tb_44) hD hS hA [0, 1, 2, 3, 4, 5, 6, 7, 8, 9, 10, 11, 12, 13, 14, 15, 16, 17, 18, 19, 20, 21, 22, 23, 24, 25, 26, 27, 28, 29, 30, 31, 32, 33, 34, 35, 36] rfl
      refine va_calli (va_runV (As := [.int x1, .int (trq_12 1 x1.toNatClampNeg)]) (rest := []) ⟨hx, hb, hml, hown, hts⟩ (ct_Trial_resourceAt l dC dI cI cZ cO apl atr atb H.size pl trq_12 tb_44 x1 (trq_12 1 x1.toNatClampNeg) hR_tb_44 hR_pl (by omega)) (cwV 2 hts (ng_V tw_372 tw_374 tp_13 tw_5 tw_375) rfl rfl rfl (by decide +kernel) ⟨Nat.le_of_ble_eq_true rfl, Nat.le_of_ble_eq_true rfl⟩) ⟨fun a U g mk q => by obtain ⟨q0, q1, qP, qK, qD⟩ := q; exact ⟨q0, q1, qP, va_K.moved (u := U) (U := U.calling g mk a) (Vm.Alike.refl U.vm) qK, qD⟩, va_recv hK hPc (ci := 3) (q0 := 17) rfl rfl, fun U hU hW => ⟨rfl, by rw [hU], by rw [hU]; exact hPc, va_K.moved hW.alike hK, hDc.weaken (fun _ _ _ _ => trivial)⟩⟩ rfl rfl hl.1 rfl (lv_room (Nat.le_of_ble_eq_true rfl)) nd_Trial_haveTick_66 ⟨Nat.zero_le _, Nat.zero_le _⟩) hS (fun q _ h => hFc q h) hFc (fun r_15 u t H1 locs ht hvm hw hB hz1 hk1 hS => ?_)
      obtain ⟨hP1, hK1, hD1⟩ := hB
      rw [ht] at hP1
      obtain ⟨w_16, f_17⟩ := hw
      try rw [← w_16] at hM
      have hP := hP1
      have hD := cr_Dw hD1 hFc
      generalize H1 = H at hP hS ⊢
      refine lv_iload_n hx hb nd_Trial_haveTick_69 rfl (lv_at hl 2 rfl) ?_
      refine lv_icmp_eq (tgt := 81) hx hb nd_Trial_haveTick_70 (by decide) (fun c_18 => ?_) (fun c_18 => ?_)
      · have c_18t := cr_eq c_18
        rw [if_pos c_18] at hM
        exact hj_81 trq_12 tb_44 hR_tb_44 hM _ _ hP hD hS _ (lv_sub hl [0, 1] rfl)
      · have c_18t := cr_ne c_18
        rw [if_neg c_18] at hM
        refine lv_aload_n hx hb nd_Trial_haveTick_73 rfl (lv_at hl 0 rfl) ?_
        refine va_get (D := (dC, dI)) (ci := 3) (v := .ref (atb 0)) (C := "CeilingRows$Trial") (T := nf_Trial) (N := 5) hx hb hts nin_Trial hown hK hP 17 rfl rfl 1 (by decide) (hts _ tw_123) (fun _ h9 => h9) rfl nd_Trial_haveTick_74 ?_
        refine lv_iload_n hx hb nd_Trial_haveTick_77 rfl (lv_at hl 1 rfl) ?_
        have hPc := hP.sub (ws' := cw_Plan cI cZ cO apl pl ++ cw_Board cI cZ cO atb apl tb_44) [0, 1, 2, 3, 4, 5, 6, 7, 8, 9, 10, 11, 12, 13, 14, 15, 16, 31, 32, 33, 34, 35, 36] rfl
        have hDc := hD.sub (ws' := cw_Plan cI cZ cO apl pl ++ cw_Board cI cZ cO atb apl tb_44) [0, 1, 2, 3, 4, 5, 6, 7, 8, 9, 10, 11, 12, 13, 14, 15, 16, 31, 32, 33, 34, 35, 36] (by decide) rfl
        have hFc := va_free (wc := cw_Plan cI cZ cO apl pl ++ cw_Board cI cZ cO atb apl tb_44) hD hS hA [0, 1, 2, 3, 4, 5, 6, 7, 8, 9, 10, 11, 12, 13, 14, 15, 16, 31, 32, 33, 34, 35, 36] rfl
        refine va_callv (va_runV (As := [.int x1]) (rest := []) ⟨hx, hb, hml, hown, hts⟩ (ct_Board_giveBackLast l dC dI cI cZ cO apl atb H.size pl tb_44 x1 hR_tb_44 hR_pl (by omega)) (cwV 1 hts (ng_V tw_390 tw_264 tw_265 tw_3 tw_266) rfl rfl rfl (by decide +kernel) ⟨Nat.le_of_ble_eq_true rfl, Nat.le_of_ble_eq_true rfl⟩) ⟨fun a U g mk q => by obtain ⟨q0, q1, qP, qK, qD⟩ := q; exact ⟨q0, q1, qP, va_K.moved (u := U) (U := U.calling g mk a) (Vm.Alike.refl U.vm) qK, qD⟩, va_recv hK hPc (ci := 1) (q0 := 17) rfl rfl, fun U hU hW => ⟨rfl, by rw [hU], by rw [hU]; exact hPc, va_K.moved hW.alike hK, hDc.weaken (fun _ _ _ _ => trivial)⟩⟩ rfl rfl hl.1 rfl (lv_room (Nat.le_of_ble_eq_true rfl)) nd_Trial_haveTick_78 ⟨Nat.zero_le _, Nat.zero_le _⟩) hS (fun q _ h => hFc q h) hFc (fun u t H1 locs ht hvm hw hB hz1 hk1 hS => ?_)
        obtain ⟨hP1, hK1, hD1⟩ := hB
        rw [ht] at hP1
        obtain ⟨tbq_20, rfl⟩ : ∃ z, z = u := ⟨_, rfl⟩
        obtain ⟨w_21, hR_22⟩ := hw
        try rw [← w_21] at hM
        obtain ⟨hP, hD⟩ := va_join (wr := cw_Trial cI cZ cO atr apl atb trq_12) (w1 := cw_Plan cI cZ cO apl pl ++ cw_Board cI cZ cO atb apl tbq_20) hP hD [0, 1, 2, 3, 4, 5, 6, 7, 8, 9, 10, 11, 12, 13, 14, 15, 16, 31, 32, 33, 34, 35, 36] [17, 18, 19, 20, 21, 22, 23, 24, 25, 26, 27, 28, 29, 30] rfl rfl (by decide) (by decide) hk1 hFc hP1 hD1
        have hP := hP.sub (ws' := cw_Plan cI cZ cO apl pl ++ cw_Trial cI cZ cO atr apl atb trq_12 ++ cw_Board cI cZ cO atb apl tbq_20) [14, 15, 16, 17, 18, 19, 20, 21, 22, 23, 24, 25, 26, 27, 28, 29, 30, 0, 1, 2, 3, 4, 5, 6, 7, 8, 9, 10, 11, 12, 13, 31, 32, 33, 34, 35, 36] rfl
        have hD := hD.sub (ws' := cw_Plan cI cZ cO apl pl ++ cw_Trial cI cZ cO atr apl atb trq_12 ++ cw_Board cI cZ cO atb apl tbq_20) [14, 15, 16, 17, 18, 19, 20, 21, 22, 23, 24, 25, 26, 27, 28, 29, 30, 0, 1, 2, 3, 4, 5, 6, 7, 8, 9, 10, 11, 12, 13, 31, 32, 33, 34, 35, 36] (by decide) rfl
        generalize H1 = H at hP hS ⊢
        exact hj_81 trq_12 tbq_20 hR_22 hM _ _ hP hD hS _ (lv_sub hl [0, 1] rfl)
  refine lv_aload_n hx hb nd_Trial_haveTick_0 rfl (lv_at hl 0 rfl) ?_
  refine lv_iload_n hx hb nd_Trial_haveTick_1 rfl (lv_at hl 1 rfl) ?_
  refine lv_aload_n hx hb nd_Trial_haveTick_2 rfl (lv_at hl 0 rfl) ?_
  refine va_get (D := (dC, dI)) (ci := 3) (v := .ref (atr 1)) (C := "CeilingRows$Trial") (T := nf_Trial) (N := 5) hx hb hts nin_Trial hown hK hP 17 rfl rfl 2 (by decide) (hts _ tw_124) (fun _ h9 => h9) rfl nd_Trial_haveTick_3 ?_
  refine lv_iload_n hx hb nd_Trial_haveTick_6 rfl (lv_at hl 1 rfl) ?_
  have b_23 : vp_in x1 11 := vp_in_iff.mpr (by omega)
  refine va_iald hx hb hK hP 18 0 rfl rfl b_23 nd_Trial_haveTick_7 ?_
  have hPc := hP
  have hDc := hD
  have hFc := va_free (wc := cw_Plan cI cZ cO apl pl ++ cw_Trial cI cZ cO atr apl atb tr ++ cw_Board cI cZ cO atb apl tb) hD hS hA [0, 1, 2, 3, 4, 5, 6, 7, 8, 9, 10, 11, 12, 13, 14, 15, 16, 17, 18, 19, 20, 21, 22, 23, 24, 25, 26, 27, 28, 29, 30, 31, 32, 33, 34, 35, 36] rfl
  refine va_calli (va_runV (As := [.int x1, .int (tr 1 x1.toNatClampNeg)]) (rest := []) ⟨hx, hb, hml, hown, hts⟩ (ct_Trial_resourceAt l dC dI cI cZ cO apl atr atb s.heap.size pl tr tb x1 (tr 1 x1.toNatClampNeg) hR_tb hR_pl (by omega)) (cwV 2 hts (ng_V tw_372 tw_374 tp_13 tw_5 tw_375) rfl rfl rfl (by decide +kernel) ⟨Nat.le_of_ble_eq_true rfl, Nat.le_of_ble_eq_true rfl⟩) ⟨fun a U g mk q => by obtain ⟨q0, q1, qP, qK, qD⟩ := q; exact ⟨q0, q1, qP, va_K.moved (u := U) (U := U.calling g mk a) (Vm.Alike.refl U.vm) qK, qD⟩, va_recv hK hPc (ci := 3) (q0 := 17) rfl rfl, fun U hU hW => ⟨rfl, by rw [hU], by rw [hU]; exact hPc, va_K.moved hW.alike hK, hDc.weaken (fun _ _ _ _ => trivial)⟩⟩ rfl rfl hl.1 rfl (lv_room (Nat.le_of_ble_eq_true rfl)) nd_Trial_haveTick_8 ⟨Nat.zero_le _, Nat.zero_le _⟩) hS (fun q _ h => hFc q h) hFc (fun r_24 u t H1 locs ht hvm hw hB hz1 hk1 hS => ?_)
  obtain ⟨hP1, hK1, hD1⟩ := hB
  rw [ht] at hP1
  obtain ⟨w_25, f_26⟩ := hw
  try rw [← w_25] at hM
  have hP := hP1
  have hD := cr_Dw hD1 hFc
  generalize H1 = H at hP hS ⊢
  refine lv_istore_n (lv' := [(2, .int r_24), (0, .ref (atr 0)), (1, .int x1)]) hx hb nd_Trial_haveTick_11 rfl hl (by decide) rfl (fun ls hl => ?_)
  refine lv_iload_n hx hb nd_Trial_haveTick_12 rfl (lv_at hl 0 rfl) ?_
  refine lv_if_eq (tgt := 44) hx hb nd_Trial_haveTick_13 (by decide) (fun c_27 => ?_) (fun c_27 => ?_)
  · have c_27t := cr_eq c_27
    rw [if_pos c_27] at hM
    exact hj_44 tr tb r_24 hR_tb (by omega) hM _ _ hP hD hS _ (lv_sub hl [1, 2, 0] rfl)
  · have c_27t := cr_ne c_27
    rw [if_neg c_27] at hM
    refine lv_aload_n hx hb nd_Trial_haveTick_16 rfl (lv_at hl 1 rfl) ?_
    refine va_get (D := (dC, dI)) (ci := 3) (v := .ref (atb 0)) (C := "CeilingRows$Trial") (T := nf_Trial) (N := 5) hx hb hts nin_Trial hown hK hP 17 rfl rfl 1 (by decide) (hts _ tw_123) (fun _ h9 => h9) rfl nd_Trial_haveTick_17 ?_
    refine va_get (D := (dC, dI)) (ci := 1) (v := .ref (atb 4)) (C := "CeilingRows$Board") (T := nf_Board) (N := 7) hx hb hts nin_Board hown hK hP 31 rfl rfl 5 (by decide) (hts _ tw_76) (fun _ h9 => h9) rfl nd_Trial_haveTick_20 ?_
    refine lv_iload_n hx hb nd_Trial_haveTick_23 rfl (lv_at hl 0 rfl) ?_
    have b_28 : vp_in r_24 9 := vp_in_iff.mpr (by omega)
    refine va_iald hx hb hK hP 35 0 rfl rfl b_28 nd_Trial_haveTick_24 ?_
    refine lv_iload_n hx hb nd_Trial_haveTick_25 rfl (lv_at hl 2 rfl) ?_
    refine lv_icmp_eq (tgt := 38) hx hb nd_Trial_haveTick_26 (by decide) (fun c_29 => ?_) (fun c_29 => ?_)
    · have c_29t := cr_eq c_29
      rw [if_pos c_29] at hM
      refine lv_aload_n hx hb nd_Trial_haveTick_38 rfl (lv_at hl 1 rfl) ?_
      refine lv_iload_n hx hb nd_Trial_haveTick_39 rfl (lv_at hl 2 rfl) ?_
      refine lv_iload_n hx hb nd_Trial_haveTick_40 rfl (lv_at hl 0 rfl) ?_
      have hPc := hP
      have hDc := hD
      have hFc := va_free (wc := cw_Plan cI cZ cO apl pl ++ cw_Trial cI cZ cO atr apl atb tr ++ cw_Board cI cZ cO atb apl tb) hD hS hA [0, 1, 2, 3, 4, 5, 6, 7, 8, 9, 10, 11, 12, 13, 14, 15, 16, 17, 18, 19, 20, 21, 22, 23, 24, 25, 26, 27, 28, 29, 30, 31, 32, 33, 34, 35, 36] rfl
      refine va_callv (va_runV (As := [.int x1, .int r_24]) (rest := []) ⟨hx, hb, hml, hown, hts⟩ (ct_Trial_noteDelays l dC dI cI cZ cO apl atr atb H.size pl tr tb x1 r_24 hR_tb hR_pl (by omega)) (cwV 2 hts (ng_V tw_385 tw_387 tp_15 tw_5 tw_388) rfl rfl rfl (by decide +kernel) ⟨Nat.le_of_ble_eq_true rfl, Nat.le_of_ble_eq_true rfl⟩) ⟨fun a U g mk q => by obtain ⟨q0, q1, qP, qK, qD⟩ := q; exact ⟨q0, q1, qP, va_K.moved (u := U) (U := U.calling g mk a) (Vm.Alike.refl U.vm) qK, qD⟩, va_recv hK hPc (ci := 3) (q0 := 17) rfl rfl, fun U hU hW => ⟨rfl, by rw [hU], by rw [hU]; exact hPc, va_K.moved hW.alike hK, hDc.weaken (fun _ _ _ _ => trivial)⟩⟩ rfl rfl hl.1 rfl (lv_room (Nat.le_of_ble_eq_true rfl)) nd_Trial_haveTick_41 ⟨Nat.zero_le _, Nat.zero_le _⟩) hS (fun q _ h => hFc q h) hFc (fun u t H1 locs ht hvm hw hB hz1 hk1 hS => ?_)
      obtain ⟨hP1, hK1, hD1⟩ := hB
      rw [ht] at hP1
      obtain ⟨trq_31, rfl⟩ : ∃ z, z = u := ⟨_, rfl⟩
      have w_32 := hw
      try rw [← w_32] at hM
      have hP := hP1
      have hD := cr_Dw hD1 hFc
      generalize H1 = H at hP hS ⊢
      exact hj_44 trq_31 tb r_24 hR_tb (by omega) hM _ _ hP hD hS _ (lv_sub hl [1, 2, 0] rfl)
    · have c_29t := cr_ne c_29
      rw [if_neg c_29] at hM
      refine lv_aload_n hx hb nd_Trial_haveTick_29 rfl (lv_at hl 1 rfl) ?_
      refine va_get (D := (dC, dI)) (ci := 3) (v := .ref (atb 0)) (C := "CeilingRows$Trial") (T := nf_Trial) (N := 5) hx hb hts nin_Trial hown hK hP 17 rfl rfl 1 (by decide) (hts _ tw_123) (fun _ h9 => h9) rfl nd_Trial_haveTick_30 ?_
      refine lv_iload_n hx hb nd_Trial_haveTick_33 rfl (lv_at hl 2 rfl) ?_
      refine lv_iload_n hx hb nd_Trial_haveTick_34 rfl (lv_at hl 0 rfl) ?_
      have hPc := hP.sub (ws' := cw_Plan cI cZ cO apl pl ++ cw_Board cI cZ cO atb apl tb) [0, 1, 2, 3, 4, 5, 6, 7, 8, 9, 10, 11, 12, 13, 14, 15, 16, 31, 32, 33, 34, 35, 36] rfl
      have hDc := hD.sub (ws' := cw_Plan cI cZ cO apl pl ++ cw_Board cI cZ cO atb apl tb) [0, 1, 2, 3, 4, 5, 6, 7, 8, 9, 10, 11, 12, 13, 14, 15, 16, 31, 32, 33, 34, 35, 36] (by decide) rfl
      have hFc := va_free (wc := cw_Plan cI cZ cO apl pl ++ cw_Board cI cZ cO atb apl tb) hD hS hA [0, 1, 2, 3, 4, 5, 6, 7, 8, 9, 10, 11, 12, 13, 14, 15, 16, 31, 32, 33, 34, 35, 36] rfl
      refine va_callv (va_runV (As := [.int x1, .int r_24]) (rest := []) ⟨hx, hb, hml, hown, hts⟩ (ct_Board_take l dC dI cI cZ cO apl atb H.size pl tb x1 r_24 hR_tb hR_pl (by omega) (by omega)) (cwV 2 hts (ng_V tw_384 tw_256 tw_257 tw_3 tw_258) rfl rfl rfl (by decide +kernel) ⟨Nat.le_of_ble_eq_true rfl, Nat.le_of_ble_eq_true rfl⟩) ⟨fun a U g mk q => by obtain ⟨q0, q1, qP, qK, qD⟩ := q; exact ⟨q0, q1, qP, va_K.moved (u := U) (U := U.calling g mk a) (Vm.Alike.refl U.vm) qK, qD⟩, va_recv hK hPc (ci := 1) (q0 := 17) rfl rfl, fun U hU hW => ⟨rfl, by rw [hU], by rw [hU]; exact hPc, va_K.moved hW.alike hK, hDc.weaken (fun _ _ _ _ => trivial)⟩⟩ rfl rfl hl.1 rfl (lv_room (Nat.le_of_ble_eq_true rfl)) nd_Trial_haveTick_35 ⟨Nat.zero_le _, Nat.zero_le _⟩) hS (fun q _ h => hFc q h) hFc (fun u t H1 locs ht hvm hw hB hz1 hk1 hS => ?_)
      obtain ⟨hP1, hK1, hD1⟩ := hB
      rw [ht] at hP1
      obtain ⟨tbq_34, rfl⟩ : ∃ z, z = u := ⟨_, rfl⟩
      obtain ⟨w_35, hR_36⟩ := hw
      try rw [← w_35] at hM
      obtain ⟨hP, hD⟩ := va_join (wr := cw_Trial cI cZ cO atr apl atb tr) (w1 := cw_Plan cI cZ cO apl pl ++ cw_Board cI cZ cO atb apl tbq_34) hP hD [0, 1, 2, 3, 4, 5, 6, 7, 8, 9, 10, 11, 12, 13, 14, 15, 16, 31, 32, 33, 34, 35, 36] [17, 18, 19, 20, 21, 22, 23, 24, 25, 26, 27, 28, 29, 30] rfl rfl (by decide) (by decide) hk1 hFc hP1 hD1
      have hP := hP.sub (ws' := cw_Plan cI cZ cO apl pl ++ cw_Trial cI cZ cO atr apl atb tr ++ cw_Board cI cZ cO atb apl tbq_34) [14, 15, 16, 17, 18, 19, 20, 21, 22, 23, 24, 25, 26, 27, 28, 29, 30, 0, 1, 2, 3, 4, 5, 6, 7, 8, 9, 10, 11, 12, 13, 31, 32, 33, 34, 35, 36] rfl
      have hD := hD.sub (ws' := cw_Plan cI cZ cO apl pl ++ cw_Trial cI cZ cO atr apl atb tr ++ cw_Board cI cZ cO atb apl tbq_34) [14, 15, 16, 17, 18, 19, 20, 21, 22, 23, 24, 25, 26, 27, 28, 29, 30, 0, 1, 2, 3, 4, 5, 6, 7, 8, 9, 10, 11, 12, 13, 31, 32, 33, 34, 35, 36] (by decide) rfl
      generalize H1 = H at hP hS ⊢
      refine lv_aload_n hx hb nd_Trial_haveTick_38 rfl (lv_at hl 1 rfl) ?_
      refine lv_iload_n hx hb nd_Trial_haveTick_39 rfl (lv_at hl 2 rfl) ?_
      refine lv_iload_n hx hb nd_Trial_haveTick_40 rfl (lv_at hl 0 rfl) ?_
      have hPc := hP
      have hDc := hD
      have hFc := va_free (wc := cw_Plan cI cZ cO apl pl ++ cw_Trial cI cZ cO atr apl atb tr ++ cw_Board cI cZ cO atb apl tbq_34) hD hS hA [0, 1, 2, 3, 4, 5, 6, 7, 8, 9, 10, 11, 12, 13, 14, 15, 16, 17, 18, 19, 20, 21, 22, 23, 24, 25, 26, 27, 28, 29, 30, 31, 32, 33, 34, 35, 36] rfl
      refine va_callv (va_runV (As := [.int x1, .int r_24]) (rest := []) ⟨hx, hb, hml, hown, hts⟩ (ct_Trial_noteDelays l dC dI cI cZ cO apl atr atb H.size pl tr tbq_34 x1 r_24 hR_36 hR_pl (by omega)) (cwV 2 hts (ng_V tw_385 tw_387 tp_15 tw_5 tw_388) rfl rfl rfl (by decide +kernel) ⟨Nat.le_of_ble_eq_true rfl, Nat.le_of_ble_eq_true rfl⟩) ⟨fun a U g mk q => by obtain ⟨q0, q1, qP, qK, qD⟩ := q; exact ⟨q0, q1, qP, va_K.moved (u := U) (U := U.calling g mk a) (Vm.Alike.refl U.vm) qK, qD⟩, va_recv hK hPc (ci := 3) (q0 := 17) rfl rfl, fun U hU hW => ⟨rfl, by rw [hU], by rw [hU]; exact hPc, va_K.moved hW.alike hK, hDc.weaken (fun _ _ _ _ => trivial)⟩⟩ rfl rfl hl.1 rfl (lv_room (Nat.le_of_ble_eq_true rfl)) nd_Trial_haveTick_41 ⟨Nat.zero_le _, Nat.zero_le _⟩) hS (fun q _ h => hFc q h) hFc (fun u t H1 locs ht hvm hw hB hz1 hk1 hS => ?_)
      obtain ⟨hP1, hK1, hD1⟩ := hB
      rw [ht] at hP1
      obtain ⟨trq_38, rfl⟩ : ∃ z, z = u := ⟨_, rfl⟩
      have w_39 := hw
      try rw [← w_39] at hM
      have hP := hP1
      have hD := cr_Dw hD1 hFc
      generalize H1 = H at hP hS ⊢
      exact hj_44 trq_38 tbq_34 r_24 hR_36 (by omega) hM _ _ hP hD hS _ (lv_sub hl [1, 2, 0] rfl)

theorem nd_Trial_mostDelays_0 : decode prog_5_method_2_code 0 = .ok (.aload_n 0, 1) := by decide +kernel
theorem nd_Trial_mostDelays_1 : decode prog_5_method_2_code 1 = .ok (.invokevirtual 33, 3) := by decide +kernel
theorem nd_Trial_mostDelays_4 : decode prog_5_method_2_code 4 = .ok (.iconst 0, 1) := by decide +kernel
theorem nd_Trial_mostDelays_5 : decode prog_5_method_2_code 5 = .ok (.istore_n 3, 1) := by decide +kernel
theorem nd_Trial_mostDelays_6 : decode prog_5_method_2_code 6 = .ok (.iload_n 3, 1) := by decide +kernel
theorem nd_Trial_mostDelays_7 : decode prog_5_method_2_code 7 = .ok (.sipush 338, 3) := by decide +kernel
theorem nd_Trial_mostDelays_10 : decode prog_5_method_2_code 10 = .ok (.if_icmp .ge (66), 3) := by decide +kernel
theorem nd_Trial_mostDelays_13 : decode prog_5_method_2_code 13 = .ok (.aload_n 0, 1) := by decide +kernel
theorem nd_Trial_mostDelays_14 : decode prog_5_method_2_code 14 = .ok (.getfield 36, 3) := by decide +kernel
theorem nd_Trial_mostDelays_17 : decode prog_5_method_2_code 17 = .ok (.aload_n 0, 1) := by decide +kernel
theorem nd_Trial_mostDelays_18 : decode prog_5_method_2_code 18 = .ok (.getfield 20, 3) := by decide +kernel
theorem nd_Trial_mostDelays_21 : decode prog_5_method_2_code 21 = .ok (.getfield 40, 3) := by decide +kernel
theorem nd_Trial_mostDelays_24 : decode prog_5_method_2_code 24 = .ok (.if_icmp .ge (52), 3) := by decide +kernel
theorem nd_Trial_mostDelays_27 : decode prog_5_method_2_code 27 = .ok (.aload_n 0, 1) := by decide +kernel
theorem nd_Trial_mostDelays_28 : decode prog_5_method_2_code 28 = .ok (.lload_n 1, 1) := by decide +kernel
theorem nd_Trial_mostDelays_29 : decode prog_5_method_2_code 29 = .ok (.iload_n 3, 1) := by decide +kernel
theorem nd_Trial_mostDelays_30 : decode prog_5_method_2_code 30 = .ok (.invokevirtual 45, 3) := by decide +kernel
theorem nd_Trial_mostDelays_33 : decode prog_5_method_2_code 33 = .ok (.iconst 1, 1) := by decide +kernel
theorem nd_Trial_mostDelays_34 : decode prog_5_method_2_code 34 = .ok (.istore 4, 2) := by decide +kernel
theorem nd_Trial_mostDelays_36 : decode prog_5_method_2_code 36 = .ok (.iload 4, 2) := by decide +kernel
theorem nd_Trial_mostDelays_38 : decode prog_5_method_2_code 38 = .ok (.iconst 3, 1) := by decide +kernel
theorem nd_Trial_mostDelays_39 : decode prog_5_method_2_code 39 = .ok (.if_icmp .gt (31), 3) := by decide +kernel
theorem nd_Trial_mostDelays_42 : decode prog_5_method_2_code 42 = .ok (.aload_n 0, 1) := by decide +kernel
theorem nd_Trial_mostDelays_43 : decode prog_5_method_2_code 43 = .ok (.getfield 29, 3) := by decide +kernel
theorem nd_Trial_mostDelays_46 : decode prog_5_method_2_code 46 = .ok (.iload 4, 2) := by decide +kernel
theorem nd_Trial_mostDelays_48 : decode prog_5_method_2_code 48 = .ok (.invokevirtual 49, 3) := by decide +kernel
theorem nd_Trial_mostDelays_51 : decode prog_5_method_2_code 51 = .ok (.istore 5, 2) := by decide +kernel
theorem nd_Trial_mostDelays_53 : decode prog_5_method_2_code 53 = .ok (.iload 5, 2) := by decide +kernel
theorem nd_Trial_mostDelays_55 : decode prog_5_method_2_code 55 = .ok (.ifCond .eq (9), 3) := by decide +kernel
theorem nd_Trial_mostDelays_58 : decode prog_5_method_2_code 58 = .ok (.aload_n 0, 1) := by decide +kernel
theorem nd_Trial_mostDelays_59 : decode prog_5_method_2_code 59 = .ok (.iload 5, 2) := by decide +kernel
theorem nd_Trial_mostDelays_61 : decode prog_5_method_2_code 61 = .ok (.invokevirtual 53, 3) := by decide +kernel
theorem nd_Trial_mostDelays_64 : decode prog_5_method_2_code 64 = .ok (.iinc 4 1, 3) := by decide +kernel
theorem nd_Trial_mostDelays_67 : decode prog_5_method_2_code 67 = .ok (.goto (-31), 3) := by decide +kernel
theorem nd_Trial_mostDelays_70 : decode prog_5_method_2_code 70 = .ok (.iinc 3 1, 3) := by decide +kernel
theorem nd_Trial_mostDelays_73 : decode prog_5_method_2_code 73 = .ok (.goto (-67), 3) := by decide +kernel
theorem nd_Trial_mostDelays_76 : decode prog_5_method_2_code 76 = .ok (.iconst 0, 1) := by decide +kernel
theorem nd_Trial_mostDelays_77 : decode prog_5_method_2_code 77 = .ok (.istore_n 3, 1) := by decide +kernel
theorem nd_Trial_mostDelays_78 : decode prog_5_method_2_code 78 = .ok (.iconst 1, 1) := by decide +kernel
theorem nd_Trial_mostDelays_79 : decode prog_5_method_2_code 79 = .ok (.istore 4, 2) := by decide +kernel
theorem nd_Trial_mostDelays_81 : decode prog_5_method_2_code 81 = .ok (.iload 4, 2) := by decide +kernel
theorem nd_Trial_mostDelays_83 : decode prog_5_method_2_code 83 = .ok (.aload_n 0, 1) := by decide +kernel
theorem nd_Trial_mostDelays_84 : decode prog_5_method_2_code 84 = .ok (.getfield 20, 3) := by decide +kernel
theorem nd_Trial_mostDelays_87 : decode prog_5_method_2_code 87 = .ok (.getfield 40, 3) := by decide +kernel
theorem nd_Trial_mostDelays_90 : decode prog_5_method_2_code 90 = .ok (.if_icmp .gt (20), 3) := by decide +kernel
theorem nd_Trial_mostDelays_93 : decode prog_5_method_2_code 93 = .ok (.iload_n 3, 1) := by decide +kernel
theorem nd_Trial_mostDelays_94 : decode prog_5_method_2_code 94 = .ok (.aload_n 0, 1) := by decide +kernel
theorem nd_Trial_mostDelays_95 : decode prog_5_method_2_code 95 = .ok (.iload 4, 2) := by decide +kernel
theorem nd_Trial_mostDelays_97 : decode prog_5_method_2_code 97 = .ok (.invokevirtual 57, 3) := by decide +kernel
theorem nd_Trial_mostDelays_100 : decode prog_5_method_2_code 100 = .ok (.invokestatic 60, 3) := by decide +kernel
theorem nd_Trial_mostDelays_103 : decode prog_5_method_2_code 103 = .ok (.istore_n 3, 1) := by decide +kernel
theorem nd_Trial_mostDelays_104 : decode prog_5_method_2_code 104 = .ok (.iinc 4 1, 3) := by decide +kernel
theorem nd_Trial_mostDelays_107 : decode prog_5_method_2_code 107 = .ok (.goto (-26), 3) := by decide +kernel
theorem nd_Trial_mostDelays_110 : decode prog_5_method_2_code 110 = .ok (.iload_n 3, 1) := by decide +kernel
theorem nd_Trial_mostDelays_111 : decode prog_5_method_2_code 111 = .ok (.ireturn, 1) := by decide +kernel
def lo_Trial_mostDelays_81 (pl : cr_S) (tr : cr_S) (tb : cr_S) (x1 : Int64) : Nat → Int32 → Int32 → Int32 × cr_S × cr_S
  | 0, _, _ => (0, tr, tb)
  | n_81 + 1, v3_81, v4_81 =>
    (if (pl 0 0) < v4_81 then (v3_81, tr, tb) else (lo_Trial_mostDelays_81 pl tr tb x1 n_81 (cr_max v3_81 (md_Trial_countDelays pl tr tb v4_81)) (v4_81 + (1 : Int32))))
def lo_Trial_mostDelays_36 (pl : cr_S) (x1 : Int64) (w3 : Int32) : Nat → cr_S → cr_S → Int32 → cr_S × cr_S
  | 0, tr_36, tb_36, _ => (tr_36, tb_36)
  | n_36 + 1, tr_36, tb_36, v4_36 =>
    (if (3 : Int32) < v4_36 then (tr_36, tb_36) else (if (md_Board_firstOn pl tb_36 v4_36) = 0 then (lo_Trial_mostDelays_36 pl x1 w3 n_36 tr_36 tb_36 (v4_36 + (1 : Int32))) else (lo_Trial_mostDelays_36 pl x1 w3 n_36 ((md_Trial_haveTick pl tr_36 tb_36 (md_Board_firstOn pl tb_36 v4_36)).1) ((md_Trial_haveTick pl tr_36 tb_36 (md_Board_firstOn pl tb_36 v4_36)).2) (v4_36 + (1 : Int32)))))
def lo_Trial_mostDelays_6 (pl : cr_S) (x1 : Int64) : Nat → cr_S → cr_S → Int32 → Int32 × cr_S × cr_S
  | 0, tr_6, tb_6, _ => (0, tr_6, tb_6)
  | n_6 + 1, tr_6, tb_6, v3_6 =>
    (if (338 : Int32) ≤ v3_6 then (lo_Trial_mostDelays_81 pl tr_6 tb_6 x1 11 (0 : Int32) (1 : Int32)) else (if (pl 0 0) ≤ (tr_6 0 0) then (lo_Trial_mostDelays_81 pl tr_6 tb_6 x1 11 (0 : Int32) (1 : Int32)) else (lo_Trial_mostDelays_6 pl x1 n_6 (lo_Trial_mostDelays_36 pl x1 v3_6 4 tr_6 (md_Trial_startThoseDue pl tr_6 tb_6 x1 v3_6) (1 : Int32)).1 (lo_Trial_mostDelays_36 pl x1 v3_6 4 tr_6 (md_Trial_startThoseDue pl tr_6 tb_6 x1 v3_6) (1 : Int32)).2 (v3_6 + (1 : Int32)))))
def md_Trial_mostDelays (pl : cr_S) (tr : cr_S) (tb : cr_S) (x1 : Int64) : Int32 × cr_S × cr_S :=
  (lo_Trial_mostDelays_6 pl x1 339 ((md_Trial_clear pl tr tb).1) ((md_Trial_clear pl tr tb).2) (0 : Int32))
abbrev pq_Trial_mostDelays (dC : Nat → ClassId) (dI : Nat → Nat → Nat) (cI cZ cO : ClassId) (apl atr atb : Nat → Nat) (pl : cr_S) (tr : cr_S) (tb : cr_S) (x1 : Int64) (A : Nat → Prop) : Array Value → State → Outcome → State → Prop :=
  va_Qi (fun (r : Int32) (u : cr_S × cr_S) => r = (md_Trial_mostDelays pl tr tb x1).1 ∧ u.1 = (md_Trial_mostDelays pl tr tb x1).2.1 ∧ u.2 = (md_Trial_mostDelays pl tr tb x1).2.2 ∧ cr_RBoard u.2) (fun (u : cr_S × cr_S) t => va_P (dC, dI) vwCl (cw_Plan cI cZ cO apl pl ++ cw_Trial cI cZ cO atr apl atb u.1 ++ cw_Board cI cZ cO atb apl u.2) t.heap ∧ va_K (dC, dI) vwCl [(cI, .int), (cZ, .boolean), (cO, .array .int)] t ∧ va_D A (cw_Plan cI cZ cO apl pl ++ cw_Trial cI cZ cO atr apl atb u.1 ++ cw_Board cI cZ cO atb apl u.2)) A
set_option maxHeartbeats 4000000 in
set_option maxRecDepth 100000 in
theorem ct_Trial_mostDelays (l : Launch) (dC : Nat → ClassId) (dI : Nat → Nat → Nat) (cI cZ cO : ClassId) (apl atr atb : Nat → Nat) (sz : Nat) (pl : cr_S) (tr : cr_S) (tb : cr_S) (x1 : Int64) (hR_tb : cr_RBoard tb) (hR_pl : cr_RPlan pl) : Met l ny_Trial_mostDelays nw_Trial_mostDelays ({ frames := 4, cells := 0, slots := 0, locals := 90 } : Room) (va_Pc [.ref (atr 0), .long x1] (fun U => U.heap.size = sz ∧ va_P (dC, dI) vwCl (cw_Plan cI cZ cO apl pl ++ cw_Trial cI cZ cO atr apl atb tr ++ cw_Board cI cZ cO atb apl tb) U.heap ∧ va_K (dC, dI) vwCl [(cI, .int), (cZ, .boolean), (cO, .array .int)] U ∧ va_D (fun _ => True) (cw_Plan cI cZ cO apl pl ++ cw_Trial cI cZ cO atr apl atb tr ++ cw_Board cI cZ cO atb apl tb))) (pq_Trial_mostDelays dC dI cI cZ cO apl atr atb pl tr tb x1 (va_A (cw_Plan cI cZ cO apl pl ++ cw_Trial cI cZ cO atr apl atb tr ++ cw_Board cI cZ cO atb apl tb) sz)) 0 0 (va_A (cw_Plan cI cZ cO apl pl ++ cw_Trial cI cZ cO atr apl atb tr ++ cw_Board cI cZ cO atb apl tb) sz) := by
  refine Met.ofW (cc := prog_5_method_2_code) (maxL := 6) (ret := (some .int)) (by decide) rfl ?_
  intro p e s m args below meth c s₁ B hml hv
  obtain ⟨rfl, hsz, hP, hK, hD0⟩ := hv
  have hx := B.exec
  have hb := B.bytes
  have hr := B.returns
  have hts0 := atoms_spec (ws := nw_Trial_mostDelays) B.pre
  have hts : ∀ w ∈ ng_tbl, w.before ([.ref (atr 0), .long x1] : List Value).toArray s = true := fun w h => hts0 w (List.mem_cons_of_mem _ h)
  have hown : s.vm.findClass "CeilingRows$Trial" = some m.cls := findClass_of_methodNamed B.named
  have hlocks := B.notSynchronized
  subst hsz
  have hD := hD0.self (sz := s.heap.size)
  generalize hAe : va_A (cw_Plan cI cZ cO apl pl ++ cw_Trial cI cZ cO atr apl atb tr ++ cw_Board cI cZ cO atb apl tb) s.heap.size = A at hD ⊢
  have hA : ∀ q : Nat, s.heap.size ≤ q → A q := fun q h => by rw [← hAe]; exact Or.inr h
  have hS : va_S A s.heap s.heap [] := va_S.rf
  have hP : va_P (dC, dI) vwCl (cw_Plan cI cZ cO apl pl ++ cw_Trial cI cZ cO atr apl atb tr ++ cw_Board cI cZ cO atb apl tb) s.heap := hP
  have hl := lv_entry ([.ref (atr 0), .long x1]) (n := 6) (Nat.le_of_ble_eq_true rfl)
  rw [lg_entry_eq]
  generalize (lg_sl ([.ref (atr 0), .long x1]) ++ List.replicate (6 - (lg_sl ([.ref (atr 0), .long x1])).length) Slot.unset).toArray = ls at hl ⊢
  have hl : lv_has ls 6 [(0, .ref (atr 0)), (1, .long x1)] := hl
  have k_0 : (0 : Int32).toInt = 0 := by decide
  have k_1 : (1 : Int32).toInt = 1 := by decide
  have k_3 : (3 : Int32).toInt = 3 := by decide
  have k_338 : (338 : Int32).toInt = 338 := by decide
  obtain ⟨tgt, hT⟩ : ∃ z, md_Trial_mostDelays pl tr tb x1 = z := ⟨_, rfl⟩
  have hM := hT
  unfold md_Trial_mostDelays at hM
  refine lv_aload_n hx hb nd_Trial_mostDelays_0 rfl (lv_at hl 0 rfl) ?_
  have hPc := hP
  have hDc := hD
  have hFc := va_free (wc := cw_Plan cI cZ cO apl pl ++ cw_Trial cI cZ cO atr apl atb tr ++ cw_Board cI cZ cO atb apl tb) hD hS hA [0, 1, 2, 3, 4, 5, 6, 7, 8, 9, 10, 11, 12, 13, 14, 15, 16, 17, 18, 19, 20, 21, 22, 23, 24, 25, 26, 27, 28, 29, 30, 31, 32, 33, 34, 35, 36] rfl
  refine va_callv (va_runV (As := []) (rest := []) ⟨hx, hb, hml, hown, hts⟩ (ct_Trial_clear l dC dI cI cZ cO apl atr atb s.heap.size pl tr tb  hR_tb hR_pl) (cwV 0 hts (ng_V tw_349 tw_351 tp_10 tw_5 tw_352) rfl rfl rfl (by decide +kernel) ⟨Nat.le_of_ble_eq_true rfl, Nat.le_of_ble_eq_true rfl⟩) ⟨fun a U g mk q => by obtain ⟨q0, q1, qP, qK, qD⟩ := q; exact ⟨q0, q1, qP, va_K.moved (u := U) (U := U.calling g mk a) (Vm.Alike.refl U.vm) qK, qD⟩, va_recv hK hPc (ci := 3) (q0 := 17) rfl rfl, fun U hU hW => ⟨rfl, by rw [hU], by rw [hU]; exact hPc, va_K.moved hW.alike hK, hDc.weaken (fun _ _ _ _ => trivial)⟩⟩ rfl rfl hl.1 rfl (lv_room (Nat.le_of_ble_eq_true rfl)) nd_Trial_mostDelays_1 ⟨Nat.zero_le _, Nat.zero_le _⟩) hS (fun q _ h => hFc q h) hFc (fun u t H1 locs ht hvm hw hB hz1 hk1 hS => ?_)
  obtain ⟨hP1, hK1, hD1⟩ := hB
  rw [ht] at hP1
  obtain ⟨trq_2, tbq_4⟩ := u
  dsimp only at hw hP1 hD1
  obtain ⟨w_3, w_5, hR_6⟩ := hw
  try rw [← w_3] at hM
  try rw [← w_5] at hM
  have hP := hP1
  have hD := cr_Dw hD1 hFc
  generalize H1 = H at hP hS ⊢
  refine lv_iconst (v := 0) hx hb nd_Trial_mostDelays_4 (by decide) ?_
  refine lv_istore_n (lv' := [(3, .int (0 : Int32)), (0, .ref (atr 0)), (1, .long x1)]) hx hb nd_Trial_mostDelays_5 rfl hl (by decide) rfl (fun ls hl => ?_)
  have hl := lv_sub hl [1, 2, 0] rfl
  have lp_6 : ∀ (n_6 : Nat) (tr_6 : cr_S) (tb_6 : cr_S) (v3_6 : Int32), (cr_RBoard tb_6) → (0 ≤ v3_6.toInt ∧ v3_6.toInt ≤ 338) → (338 < v3_6.toInt + (n_6 : Int)) → lo_Trial_mostDelays_6 pl x1 n_6 tr_6 tb_6 v3_6 = tgt → ∀ (H : Heap) (locs : List Loc), va_P (dC, dI) vwCl (cw_Plan cI cZ cO apl pl ++ cw_Trial cI cZ cO atr apl atb tr_6 ++ cw_Board cI cZ cO atb apl tb_6) H → va_D A (cw_Plan cI cZ cO apl pl ++ cw_Trial cI cZ cO atr apl atb tr_6 ++ cw_Board cI cZ cO atb apl tb_6) → va_S A s.heap H locs → ∀ ls : Array Slot, lv_has ls 6 [(0, .ref (atr 0)), (1, .long x1), (3, .int v3_6)] → W p l e (headSpec nw_Trial_mostDelays ({ frames := 4, cells := 0, slots := 0, locals := 90 } : Room)).room s m ([.ref (atr 0), .long x1] : List Value).toArray below meth c H locs 0 0 (MQ below (pq_Trial_mostDelays dC dI cI cZ cO apl atr atb pl tr tb x1 A) ([.ref (atr 0), .long x1] : List Value).toArray s 0 0 A) (F0 m 6 ls []) := by
    intro n_6
    induction n_6 with
    | zero =>
      intro tr_6 tb_6 v3_6 hR_tb_6 hv3_6 hn_6
      exfalso; omega
    | succ n_6 ih_6 =>
      intro tr_6 tb_6 v3_6 hR_tb_6 hv3_6 hn_6 hM H locs hP hD hS ls hl
      have hn_6 : 338 < v3_6.toInt + ((n_6 : Int) + 1) := by omega
      rw [lo_Trial_mostDelays_6] at hM
      refine lv_iload_n hx hb nd_Trial_mostDelays_6 rfl (lv_at hl 2 rfl) ?_
      refine lv_sipush (v := 338) hx hb nd_Trial_mostDelays_7 (by decide) ?_
      refine lv_icmp_ge (tgt := 76) hx hb nd_Trial_mostDelays_10 (by decide) (fun c_7 => ?_) (fun c_7 => ?_)
      · have c_7t := cr_le c_7
        rw [if_pos c_7] at hM
        refine lv_iconst (v := 0) hx hb nd_Trial_mostDelays_76 (by decide) ?_
        refine lv_istore_n (lv' := [(3, .int (0 : Int32)), (0, .ref (atr 0)), (1, .long x1)]) hx hb nd_Trial_mostDelays_77 rfl hl (by decide) rfl (fun ls hl => ?_)
        refine lv_iconst (v := 1) hx hb nd_Trial_mostDelays_78 (by decide) ?_
        refine lv_istore (lv' := [(4, .int (1 : Int32)), (3, .int (0 : Int32)), (0, .ref (atr 0)), (1, .long x1)]) hx hb nd_Trial_mostDelays_79 hl (by decide) rfl (fun ls hl => ?_)
        have hl := lv_sub hl [2, 1, 0] rfl
        have lp_81 : ∀ (n_81 : Nat) (v3_81 : Int32) (v4_81 : Int32), (1 ≤ v4_81.toInt ∧ v4_81.toInt ≤ 11) → (11 < v4_81.toInt + (n_81 : Int)) → lo_Trial_mostDelays_81 pl tr_6 tb_6 x1 n_81 v3_81 v4_81 = tgt → ∀ (H : Heap) (locs : List Loc), va_P (dC, dI) vwCl (cw_Plan cI cZ cO apl pl ++ cw_Trial cI cZ cO atr apl atb tr_6 ++ cw_Board cI cZ cO atb apl tb_6) H → va_D A (cw_Plan cI cZ cO apl pl ++ cw_Trial cI cZ cO atr apl atb tr_6 ++ cw_Board cI cZ cO atb apl tb_6) → va_S A s.heap H locs → ∀ ls : Array Slot, lv_has ls 6 [(0, .ref (atr 0)), (3, .int v3_81), (4, .int v4_81)] → W p l e (headSpec nw_Trial_mostDelays ({ frames := 4, cells := 0, slots := 0, locals := 90 } : Room)).room s m ([.ref (atr 0), .long x1] : List Value).toArray below meth c H locs 0 0 (MQ below (pq_Trial_mostDelays dC dI cI cZ cO apl atr atb pl tr tb x1 A) ([.ref (atr 0), .long x1] : List Value).toArray s 0 0 A) (F0 m 81 ls []) := by
          intro n_81
          induction n_81 with
          | zero =>
            intro v3_81 v4_81 hv4_81 hn_81
            exfalso; omega
          | succ n_81 ih_81 =>
            intro v3_81 v4_81 hv4_81 hn_81 hM H locs hP hD hS ls hl
            have hn_81 : 11 < v4_81.toInt + ((n_81 : Int) + 1) := by omega
            rw [lo_Trial_mostDelays_81] at hM
            refine lv_iload hx hb nd_Trial_mostDelays_81 (lv_at hl 2 rfl) ?_
            refine lv_aload_n hx hb nd_Trial_mostDelays_83 rfl (lv_at hl 0 rfl) ?_
            refine va_get (D := (dC, dI)) (ci := 3) (v := .ref (apl 0)) (C := "CeilingRows$Trial") (T := nf_Trial) (N := 5) hx hb hts nin_Trial hown hK hP 17 rfl rfl 0 (by decide) (hts _ tw_122) (fun _ h9 => h9) rfl nd_Trial_mostDelays_84 ?_
            refine va_get (D := (dC, dI)) (ci := 0) (v := .int (pl 0 0)) (C := "CeilingRows$Plan") (T := nf_Plan) (N := 7) hx hb hts nin_Plan hown hK hP 0 rfl rfl 0 (by decide) (hts _ tw_27) (fun _ h9 => h9) rfl nd_Trial_mostDelays_87 ?_
            have f_8 := cr_rfo hR_pl.1
            refine lv_icmp_gt (tgt := 110) hx hb nd_Trial_mostDelays_90 (by decide) (fun c_9 => ?_) (fun c_9 => ?_)
            · have c_9t := cr_lt c_9
              rw [if_pos c_9] at hM
              refine lv_iload_n hx hb nd_Trial_mostDelays_110 rfl (lv_at hl 1 rfl) ?_
              exact W.iret (v := v3_81) hx hb hr (fun t ht hW => ⟨⟨v3_81, (tr_6, tb_6), rfl, ⟨by rw [hT, ← hM], by rw [hT, ← hM], by rw [hT, ← hM], hR_tb_6⟩, by rw [ht]; exact hP, va_K.moved hW.alike hK, hD⟩, hS.F ht⟩) hS.2.2 nd_Trial_mostDelays_111
            · have c_9t := cr_nlt c_9
              rw [if_neg c_9] at hM
              refine lv_iload_n hx hb nd_Trial_mostDelays_93 rfl (lv_at hl 1 rfl) ?_
              refine lv_aload_n hx hb nd_Trial_mostDelays_94 rfl (lv_at hl 0 rfl) ?_
              refine lv_iload hx hb nd_Trial_mostDelays_95 (lv_at hl 2 rfl) ?_
              have hPc := hP
              have hDc := hD
              have hFc := va_free (wc := cw_Plan cI cZ cO apl pl ++ cw_Trial cI cZ cO atr apl atb tr_6 ++ cw_Board cI cZ cO atb apl tb_6) hD hS hA [0, 1, 2, 3, 4, 5, 6, 7, 8, 9, 10, 11, 12, 13, 14, 15, 16, 17, 18, 19, 20, 21, 22, 23, 24, 25, 26, 27, 28, 29, 30, 31, 32, 33, 34, 35, 36] rfl
              refine va_calli (va_runV (As := [.int v4_81]) (rest := [.int v3_81]) ⟨hx, hb, hml, hown, hts⟩ (ct_Trial_countDelays l dC dI cI cZ cO apl atr atb H.size pl tr_6 tb_6 v4_81 hR_tb_6 hR_pl (by omega)) (cwV 1 hts (ng_V tw_396 tw_398 tp_17 tw_5 tw_399) rfl rfl rfl (by decide +kernel) ⟨Nat.le_of_ble_eq_true rfl, Nat.le_of_ble_eq_true rfl⟩) ⟨fun a U g mk q => by obtain ⟨q0, q1, qP, qK, qD⟩ := q; exact ⟨q0, q1, qP, va_K.moved (u := U) (U := U.calling g mk a) (Vm.Alike.refl U.vm) qK, qD⟩, va_recv hK hPc (ci := 3) (q0 := 17) rfl rfl, fun U hU hW => ⟨rfl, by rw [hU], by rw [hU]; exact hPc, va_K.moved hW.alike hK, hDc.weaken (fun _ _ _ _ => trivial)⟩⟩ rfl rfl hl.1 rfl (lv_room (Nat.le_of_ble_eq_true rfl)) nd_Trial_mostDelays_97 ⟨Nat.zero_le _, Nat.zero_le _⟩) hS (fun q _ h => hFc q h) hFc (fun r_10 u t H1 locs ht hvm hw hB hz1 hk1 hS => ?_)
              obtain ⟨hP1, hK1, hD1⟩ := hB
              rw [ht] at hP1
              have w_11 := hw
              try rw [← w_11] at hM
              have hP := hP1
              have hD := cr_Dw hD1 hFc
              generalize H1 = H at hP hS ⊢
              refine va_mmax hx hb (by rw [hml]; exact hl.1.symm) hown (hts _ tw_406) (hts _ tw_207) (hts _ tw_7) (hts _ tw_208) (Nat.le_of_ble_eq_true rfl) (Nat.le_of_ble_eq_true rfl) (Nat.zero_le _) (Nat.zero_le _) nd_Trial_mostDelays_100 ?_
              refine lv_istore_n (lv' := [(3, .int (cr_max v3_81 r_10)), (0, .ref (atr 0)), (4, .int v4_81)]) hx hb nd_Trial_mostDelays_103 rfl hl (by decide) rfl (fun ls hl => ?_)
              have e_12 : (v4_81 + (1 : Int32)).toInt = v4_81.toInt + (1 : Int32).toInt := cr_add (by omega)
              refine lv_iinc (v := (v4_81 + (1 : Int32))) (lv' := [(4, .int (v4_81 + (1 : Int32))), (3, .int (cr_max v3_81 r_10)), (0, .ref (atr 0))]) hx hb nd_Trial_mostDelays_104 hl (k := 2) rfl (by rfl) (by decide) rfl (fun ls hl => ?_)
              refine lv_goto (tgt := 81) hx hb nd_Trial_mostDelays_107 (by decide) ?_
              exact ih_81 (cr_max v3_81 r_10) (v4_81 + (1 : Int32)) (by omega) (by omega) hM _ _ hP hD hS _ (lv_sub hl [2, 1, 0] rfl)
        exact lp_81 11 (0 : Int32) (1 : Int32) (by omega) (by omega) hM _ _ hP hD hS _ hl
      · have c_7t := cr_nle c_7
        rw [if_neg c_7] at hM
        refine lv_aload_n hx hb nd_Trial_mostDelays_13 rfl (lv_at hl 0 rfl) ?_
        refine va_get (D := (dC, dI)) (ci := 3) (v := .int (tr_6 0 0)) (C := "CeilingRows$Trial") (T := nf_Trial) (N := 5) hx hb hts nin_Trial hown hK hP 17 rfl rfl 4 (by decide) (hts _ tw_126) (fun _ h9 => h9) rfl nd_Trial_mostDelays_14 ?_
        refine lv_aload_n hx hb nd_Trial_mostDelays_17 rfl (lv_at hl 0 rfl) ?_
        refine va_get (D := (dC, dI)) (ci := 3) (v := .ref (apl 0)) (C := "CeilingRows$Trial") (T := nf_Trial) (N := 5) hx hb hts nin_Trial hown hK hP 17 rfl rfl 0 (by decide) (hts _ tw_122) (fun _ h9 => h9) rfl nd_Trial_mostDelays_18 ?_
        refine va_get (D := (dC, dI)) (ci := 0) (v := .int (pl 0 0)) (C := "CeilingRows$Plan") (T := nf_Plan) (N := 7) hx hb hts nin_Plan hown hK hP 0 rfl rfl 0 (by decide) (hts _ tw_27) (fun _ h9 => h9) rfl nd_Trial_mostDelays_21 ?_
        have f_13 := cr_rfo hR_pl.1
        refine lv_icmp_ge (tgt := 76) hx hb nd_Trial_mostDelays_24 (by decide) (fun c_14 => ?_) (fun c_14 => ?_)
        · have c_14t := cr_le c_14
          rw [if_pos c_14] at hM
          refine lv_iconst (v := 0) hx hb nd_Trial_mostDelays_76 (by decide) ?_
          refine lv_istore_n (lv' := [(3, .int (0 : Int32)), (0, .ref (atr 0)), (1, .long x1)]) hx hb nd_Trial_mostDelays_77 rfl hl (by decide) rfl (fun ls hl => ?_)
          refine lv_iconst (v := 1) hx hb nd_Trial_mostDelays_78 (by decide) ?_
          refine lv_istore (lv' := [(4, .int (1 : Int32)), (3, .int (0 : Int32)), (0, .ref (atr 0)), (1, .long x1)]) hx hb nd_Trial_mostDelays_79 hl (by decide) rfl (fun ls hl => ?_)
          have hl := lv_sub hl [2, 1, 0] rfl
          have lp_81 : ∀ (n_81 : Nat) (v3_81 : Int32) (v4_81 : Int32), (1 ≤ v4_81.toInt ∧ v4_81.toInt ≤ 11) → (11 < v4_81.toInt + (n_81 : Int)) → lo_Trial_mostDelays_81 pl tr_6 tb_6 x1 n_81 v3_81 v4_81 = tgt → ∀ (H : Heap) (locs : List Loc), va_P (dC, dI) vwCl (cw_Plan cI cZ cO apl pl ++ cw_Trial cI cZ cO atr apl atb tr_6 ++ cw_Board cI cZ cO atb apl tb_6) H → va_D A (cw_Plan cI cZ cO apl pl ++ cw_Trial cI cZ cO atr apl atb tr_6 ++ cw_Board cI cZ cO atb apl tb_6) → va_S A s.heap H locs → ∀ ls : Array Slot, lv_has ls 6 [(0, .ref (atr 0)), (3, .int v3_81), (4, .int v4_81)] → W p l e (headSpec nw_Trial_mostDelays ({ frames := 4, cells := 0, slots := 0, locals := 90 } : Room)).room s m ([.ref (atr 0), .long x1] : List Value).toArray below meth c H locs 0 0 (MQ below (pq_Trial_mostDelays dC dI cI cZ cO apl atr atb pl tr tb x1 A) ([.ref (atr 0), .long x1] : List Value).toArray s 0 0 A) (F0 m 81 ls []) := by
            intro n_81
            induction n_81 with
            | zero =>
              intro v3_81 v4_81 hv4_81 hn_81
              exfalso; omega
            | succ n_81 ih_81 =>
              intro v3_81 v4_81 hv4_81 hn_81 hM H locs hP hD hS ls hl
              have hn_81 : 11 < v4_81.toInt + ((n_81 : Int) + 1) := by omega
              rw [lo_Trial_mostDelays_81] at hM
              refine lv_iload hx hb nd_Trial_mostDelays_81 (lv_at hl 2 rfl) ?_
              refine lv_aload_n hx hb nd_Trial_mostDelays_83 rfl (lv_at hl 0 rfl) ?_
              refine va_get (D := (dC, dI)) (ci := 3) (v := .ref (apl 0)) (C := "CeilingRows$Trial") (T := nf_Trial) (N := 5) hx hb hts nin_Trial hown hK hP 17 rfl rfl 0 (by decide) (hts _ tw_122) (fun _ h9 => h9) rfl nd_Trial_mostDelays_84 ?_
              refine va_get (D := (dC, dI)) (ci := 0) (v := .int (pl 0 0)) (C := "CeilingRows$Plan") (T := nf_Plan) (N := 7) hx hb hts nin_Plan hown hK hP 0 rfl rfl 0 (by decide) (hts _ tw_27) (fun _ h9 => h9) rfl nd_Trial_mostDelays_87 ?_
              have f_15 := cr_rfo hR_pl.1
              refine lv_icmp_gt (tgt := 110) hx hb nd_Trial_mostDelays_90 (by decide) (fun c_16 => ?_) (fun c_16 => ?_)
              · have c_16t := cr_lt c_16
                rw [if_pos c_16] at hM
                refine lv_iload_n hx hb nd_Trial_mostDelays_110 rfl (lv_at hl 1 rfl) ?_
                exact W.iret (v := v3_81) hx hb hr (fun t ht hW => ⟨⟨v3_81, (tr_6, tb_6), rfl, ⟨by rw [hT, ← hM], by rw [hT, ← hM], by rw [hT, ← hM], hR_tb_6⟩, by rw [ht]; exact hP, va_K.moved hW.alike hK, hD⟩, hS.F ht⟩) hS.2.2 nd_Trial_mostDelays_111
              · have c_16t := cr_nlt c_16
                rw [if_neg c_16] at hM
                refine lv_iload_n hx hb nd_Trial_mostDelays_93 rfl (lv_at hl 1 rfl) ?_
                refine lv_aload_n hx hb nd_Trial_mostDelays_94 rfl (lv_at hl 0 rfl) ?_
                refine lv_iload hx hb nd_Trial_mostDelays_95 (lv_at hl 2 rfl) ?_
                have hPc := hP
                have hDc := hD
                have hFc := va_free (wc := cw_Plan cI cZ cO apl pl ++ cw_Trial cI cZ cO atr apl atb tr_6 ++ cw_Board cI cZ cO atb apl tb_6) hD hS hA [0, 1, 2, 3, 4, 5, 6, 7, 8, 9, 10, 11, 12, 13, 14, 15, 16, 17, 18, 19, 20, 21, 22, 23, 24, 25, 26, 27, 28, 29, 30, 31, 32, 33, 34, 35, 36] rfl
                refine va_calli (va_runV (As := [.int v4_81]) (rest := [.int v3_81]) ⟨hx, hb, hml, hown, hts⟩ (ct_Trial_countDelays l dC dI cI cZ cO apl atr atb H.size pl tr_6 tb_6 v4_81 hR_tb_6 hR_pl (by omega)) (cwV 1 hts (ng_V tw_396 tw_398 tp_17 tw_5 tw_399) rfl rfl rfl (by decide +kernel) ⟨Nat.le_of_ble_eq_true rfl, Nat.le_of_ble_eq_true rfl⟩) ⟨fun a U g mk q => by obtain ⟨q0, q1, qP, qK, qD⟩ := q; exact ⟨q0, q1, qP, va_K.moved (u := U) (U := U.calling g mk a) (Vm.Alike.refl U.vm) qK, qD⟩, va_recv hK hPc (ci := 3) (q0 := 17) rfl rfl, fun U hU hW => ⟨rfl, by rw [hU], by rw [hU]; exact hPc, va_K.moved hW.alike hK, hDc.weaken (fun _ _ _ _ => trivial)⟩⟩ rfl rfl hl.1 rfl (lv_room (Nat.le_of_ble_eq_true rfl)) nd_Trial_mostDelays_97 ⟨Nat.zero_le _, Nat.zero_le _⟩) hS (fun q _ h => hFc q h) hFc (fun r_17 u t H1 locs ht hvm hw hB hz1 hk1 hS => ?_)
                obtain ⟨hP1, hK1, hD1⟩ := hB
                rw [ht] at hP1
                have w_18 := hw
                try rw [← w_18] at hM
                have hP := hP1
                have hD := cr_Dw hD1 hFc
                generalize H1 = H at hP hS ⊢
                refine va_mmax hx hb (by rw [hml]; exact hl.1.symm) hown (hts _ tw_406) (hts _ tw_207) (hts _ tw_7) (hts _ tw_208) (Nat.le_of_ble_eq_true rfl) (Nat.le_of_ble_eq_true rfl) (Nat.zero_le _) (Nat.zero_le _) nd_Trial_mostDelays_100 ?_
                refine lv_istore_n (lv' := [(3, .int (cr_max v3_81 r_17)), (0, .ref (atr 0)), (4, .int v4_81)]) hx hb nd_Trial_mostDelays_103 rfl hl (by decide) rfl (fun ls hl => ?_)
                have e_19 : (v4_81 + (1 : Int32)).toInt = v4_81.toInt + (1 : Int32).toInt := cr_add (by omega)
                refine lv_iinc (v := (v4_81 + (1 : Int32))) (lv' := [(4, .int (v4_81 + (1 : Int32))), (3, .int (cr_max v3_81 r_17)), (0, .ref (atr 0))]) hx hb nd_Trial_mostDelays_104 hl (k := 2) rfl (by rfl) (by decide) rfl (fun ls hl => ?_)
                refine lv_goto (tgt := 81) hx hb nd_Trial_mostDelays_107 (by decide) ?_
                exact ih_81 (cr_max v3_81 r_17) (v4_81 + (1 : Int32)) (by omega) (by omega) hM _ _ hP hD hS _ (lv_sub hl [2, 1, 0] rfl)
          exact lp_81 11 (0 : Int32) (1 : Int32) (by omega) (by omega) hM _ _ hP hD hS _ hl
        · have c_14t := cr_nle c_14
          rw [if_neg c_14] at hM
          refine lv_aload_n hx hb nd_Trial_mostDelays_27 rfl (lv_at hl 0 rfl) ?_
          refine lv_lload_n hx hb nd_Trial_mostDelays_28 rfl (lv_at hl 1 rfl) ?_
          refine lv_iload_n hx hb nd_Trial_mostDelays_29 rfl (lv_at hl 2 rfl) ?_
          have hPc := hP
          have hDc := hD
          have hFc := va_free (wc := cw_Plan cI cZ cO apl pl ++ cw_Trial cI cZ cO atr apl atb tr_6 ++ cw_Board cI cZ cO atb apl tb_6) hD hS hA [0, 1, 2, 3, 4, 5, 6, 7, 8, 9, 10, 11, 12, 13, 14, 15, 16, 17, 18, 19, 20, 21, 22, 23, 24, 25, 26, 27, 28, 29, 30, 31, 32, 33, 34, 35, 36] rfl
          refine va_callv (va_runV (As := [.long x1, .int v3_6]) (rest := []) ⟨hx, hb, hml, hown, hts⟩ (ct_Trial_startThoseDue l dC dI cI cZ cO apl atr atb H.size pl tr_6 tb_6 x1 v3_6 hR_tb_6 hR_pl) (cwV 2 hts (ng_V tw_361 tw_363 tp_11 tw_5 tw_364) rfl rfl rfl (by decide +kernel) ⟨Nat.le_of_ble_eq_true rfl, Nat.le_of_ble_eq_true rfl⟩) ⟨fun a U g mk q => by obtain ⟨q0, q1, qP, qK, qD⟩ := q; exact ⟨q0, q1, qP, va_K.moved (u := U) (U := U.calling g mk a) (Vm.Alike.refl U.vm) qK, qD⟩, va_recv hK hPc (ci := 3) (q0 := 17) rfl rfl, fun U hU hW => ⟨rfl, by rw [hU], by rw [hU]; exact hPc, va_K.moved hW.alike hK, hDc.weaken (fun _ _ _ _ => trivial)⟩⟩ rfl rfl hl.1 rfl (lv_room (Nat.le_of_ble_eq_true rfl)) nd_Trial_mostDelays_30 ⟨Nat.zero_le _, Nat.zero_le _⟩) hS (fun q _ h => hFc q h) hFc (fun u t H1 locs ht hvm hw hB hz1 hk1 hS => ?_)
          obtain ⟨hP1, hK1, hD1⟩ := hB
          rw [ht] at hP1
          obtain ⟨tbq_21, rfl⟩ : ∃ z, z = u := ⟨_, rfl⟩
          obtain ⟨w_22, hR_23⟩ := hw
          try rw [← w_22] at hM
          have hP := hP1
          have hD := cr_Dw hD1 hFc
          generalize H1 = H at hP hS ⊢
          refine lv_iconst (v := 1) hx hb nd_Trial_mostDelays_33 (by decide) ?_
          refine lv_istore (lv' := [(4, .int (1 : Int32)), (0, .ref (atr 0)), (1, .long x1), (3, .int v3_6)]) hx hb nd_Trial_mostDelays_34 hl (by decide) rfl (fun ls hl => ?_)
          have hl := lv_sub hl [1, 2, 3, 0] rfl
          obtain ⟨ti_36, hti_36⟩ : ∃ z, lo_Trial_mostDelays_36 pl x1 v3_6 4 tr_6 tbq_21 (1 : Int32) = z := ⟨_, rfl⟩
          try rw [hti_36] at hM
          have hex_36 : (cr_RBoard ti_36.2) → ∀ (H : Heap) (locs : List Loc), va_P (dC, dI) vwCl (cw_Plan cI cZ cO apl pl ++ cw_Trial cI cZ cO atr apl atb ti_36.1 ++ cw_Board cI cZ cO atb apl ti_36.2) H → va_D A (cw_Plan cI cZ cO apl pl ++ cw_Trial cI cZ cO atr apl atb ti_36.1 ++ cw_Board cI cZ cO atb apl ti_36.2) → va_S A s.heap H locs → ∀ ls : Array Slot, lv_has ls 6 [(0, .ref (atr 0)), (1, .long x1), (3, .int v3_6)] → W p l e (headSpec nw_Trial_mostDelays ({ frames := 4, cells := 0, slots := 0, locals := 90 } : Room)).room s m ([.ref (atr 0), .long x1] : List Value).toArray below meth c H locs 0 0 (MQ below (pq_Trial_mostDelays dC dI cI cZ cO apl atr atb pl tr tb x1 A) ([.ref (atr 0), .long x1] : List Value).toArray s 0 0 A) (F0 m 70 ls []) := by
            intro hRx_tb_36 H locs hP hD hS ls hl
            have e_24 : (v3_6 + (1 : Int32)).toInt = v3_6.toInt + (1 : Int32).toInt := cr_add (by omega)
            refine lv_iinc (v := (v3_6 + (1 : Int32))) (lv' := [(3, .int (v3_6 + (1 : Int32))), (0, .ref (atr 0)), (1, .long x1)]) hx hb nd_Trial_mostDelays_70 hl (k := 2) rfl (by rfl) (by decide) rfl (fun ls hl => ?_)
            refine lv_goto (tgt := 6) hx hb nd_Trial_mostDelays_73 (by decide) ?_
            exact ih_6 ti_36.1 ti_36.2 (v3_6 + (1 : Int32)) hRx_tb_36 (by omega) (by omega) hM _ _ hP hD hS _ (lv_sub hl [1, 2, 0] rfl)
          have lp_36 : ∀ (n_36 : Nat) (tr_36 : cr_S) (tb_36 : cr_S) (v4_36 : Int32), (cr_RBoard tb_36) → (1 ≤ v4_36.toInt ∧ v4_36.toInt ≤ 4) → (4 < v4_36.toInt + (n_36 : Int)) → lo_Trial_mostDelays_36 pl x1 v3_6 n_36 tr_36 tb_36 v4_36 = ti_36 → ∀ (H : Heap) (locs : List Loc), va_P (dC, dI) vwCl (cw_Plan cI cZ cO apl pl ++ cw_Trial cI cZ cO atr apl atb tr_36 ++ cw_Board cI cZ cO atb apl tb_36) H → va_D A (cw_Plan cI cZ cO apl pl ++ cw_Trial cI cZ cO atr apl atb tr_36 ++ cw_Board cI cZ cO atb apl tb_36) → va_S A s.heap H locs → ∀ ls : Array Slot, lv_has ls 6 [(0, .ref (atr 0)), (1, .long x1), (3, .int v3_6), (4, .int v4_36)] → W p l e (headSpec nw_Trial_mostDelays ({ frames := 4, cells := 0, slots := 0, locals := 90 } : Room)).room s m ([.ref (atr 0), .long x1] : List Value).toArray below meth c H locs 0 0 (MQ below (pq_Trial_mostDelays dC dI cI cZ cO apl atr atb pl tr tb x1 A) ([.ref (atr 0), .long x1] : List Value).toArray s 0 0 A) (F0 m 36 ls []) := by
            try clear hM
            intro n_36
            induction n_36 with
            | zero =>
              intro tr_36 tb_36 v4_36 hR_tb_36 hv4_36 hn_36
              exfalso; omega
            | succ n_36 ih_36 =>
              intro tr_36 tb_36 v4_36 hR_tb_36 hv4_36 hn_36 hM H locs hP hD hS ls hl
              have hn_36 : 4 < v4_36.toInt + ((n_36 : Int) + 1) := by omega
              rw [lo_Trial_mostDelays_36] at hM
              refine lv_iload hx hb nd_Trial_mostDelays_36 (lv_at hl 3 rfl) ?_
              refine lv_iconst (v := 3) hx hb nd_Trial_mostDelays_38 (by decide) ?_
              refine lv_icmp_gt (tgt := 70) hx hb nd_Trial_mostDelays_39 (by decide) (fun c_25 => ?_) (fun c_25 => ?_)
              · have c_25t := cr_lt c_25
                rw [if_pos c_25] at hM
                subst hM
                exact hex_36 hR_tb_36 _ _ hP hD hS _ (lv_sub hl [0, 1, 2] rfl)
              · have c_25t := cr_nlt c_25
                rw [if_neg c_25] at hM
                refine lv_aload_n hx hb nd_Trial_mostDelays_42 rfl (lv_at hl 0 rfl) ?_
                refine va_get (D := (dC, dI)) (ci := 3) (v := .ref (atb 0)) (C := "CeilingRows$Trial") (T := nf_Trial) (N := 5) hx hb hts nin_Trial hown hK hP 17 rfl rfl 1 (by decide) (hts _ tw_123) (fun _ h9 => h9) rfl nd_Trial_mostDelays_43 ?_
                refine lv_iload hx hb nd_Trial_mostDelays_46 (lv_at hl 3 rfl) ?_
                have hPc := hP.sub (ws' := cw_Plan cI cZ cO apl pl ++ cw_Board cI cZ cO atb apl tb_36) [0, 1, 2, 3, 4, 5, 6, 7, 8, 9, 10, 11, 12, 13, 14, 15, 16, 31, 32, 33, 34, 35, 36] rfl
                have hDc := hD.sub (ws' := cw_Plan cI cZ cO apl pl ++ cw_Board cI cZ cO atb apl tb_36) [0, 1, 2, 3, 4, 5, 6, 7, 8, 9, 10, 11, 12, 13, 14, 15, 16, 31, 32, 33, 34, 35, 36] (by decide) rfl
                have hFc := va_free (wc := cw_Plan cI cZ cO apl pl ++ cw_Board cI cZ cO atb apl tb_36) hD hS hA [0, 1, 2, 3, 4, 5, 6, 7, 8, 9, 10, 11, 12, 13, 14, 15, 16, 31, 32, 33, 34, 35, 36] rfl
                refine va_calli (va_runV (As := [.int v4_36]) (rest := []) ⟨hx, hb, hml, hown, hts⟩ (ct_Board_firstOn l dC dI cI cZ cO apl atb H.size pl tb_36 v4_36 hR_tb_36 hR_pl) (cwV 1 hts (ng_V tw_367 tw_239 tw_240 tw_3 tw_241) rfl rfl rfl (by decide +kernel) ⟨Nat.le_of_ble_eq_true rfl, Nat.le_of_ble_eq_true rfl⟩) ⟨fun a U g mk q => by obtain ⟨q0, q1, qP, qK, qD⟩ := q; exact ⟨q0, q1, qP, va_K.moved (u := U) (U := U.calling g mk a) (Vm.Alike.refl U.vm) qK, qD⟩, va_recv hK hPc (ci := 1) (q0 := 17) rfl rfl, fun U hU hW => ⟨rfl, by rw [hU], by rw [hU]; exact hPc, va_K.moved hW.alike hK, hDc.weaken (fun _ _ _ _ => trivial)⟩⟩ rfl rfl hl.1 rfl (lv_room (Nat.le_of_ble_eq_true rfl)) nd_Trial_mostDelays_48 ⟨Nat.zero_le _, Nat.zero_le _⟩) hS (fun q _ h => hFc q h) hFc (fun r_26 u t H1 locs ht hvm hw hB hz1 hk1 hS => ?_)
                obtain ⟨hP1, hK1, hD1⟩ := hB
                rw [ht] at hP1
                obtain ⟨w_27, f_28⟩ := hw
                try rw [← w_27] at hM
                obtain ⟨hP, hD⟩ := va_join (wr := cw_Trial cI cZ cO atr apl atb tr_36) (w1 := cw_Plan cI cZ cO apl pl ++ cw_Board cI cZ cO atb apl tb_36) hP hD [0, 1, 2, 3, 4, 5, 6, 7, 8, 9, 10, 11, 12, 13, 14, 15, 16, 31, 32, 33, 34, 35, 36] [17, 18, 19, 20, 21, 22, 23, 24, 25, 26, 27, 28, 29, 30] rfl rfl (by decide) (by decide) hk1 hFc hP1 hD1
                have hP := hP.sub (ws' := cw_Plan cI cZ cO apl pl ++ cw_Trial cI cZ cO atr apl atb tr_36 ++ cw_Board cI cZ cO atb apl tb_36) [14, 15, 16, 17, 18, 19, 20, 21, 22, 23, 24, 25, 26, 27, 28, 29, 30, 0, 1, 2, 3, 4, 5, 6, 7, 8, 9, 10, 11, 12, 13, 31, 32, 33, 34, 35, 36] rfl
                have hD := hD.sub (ws' := cw_Plan cI cZ cO apl pl ++ cw_Trial cI cZ cO atr apl atb tr_36 ++ cw_Board cI cZ cO atb apl tb_36) [14, 15, 16, 17, 18, 19, 20, 21, 22, 23, 24, 25, 26, 27, 28, 29, 30, 0, 1, 2, 3, 4, 5, 6, 7, 8, 9, 10, 11, 12, 13, 31, 32, 33, 34, 35, 36] (by decide) rfl
                generalize H1 = H at hP hS ⊢
                refine lv_istore (lv' := [(5, .int r_26), (0, .ref (atr 0)), (1, .long x1), (3, .int v3_6), (4, .int v4_36)]) hx hb nd_Trial_mostDelays_51 hl (by decide) rfl (fun ls hl => ?_)
                refine lv_iload hx hb nd_Trial_mostDelays_53 (lv_at hl 0 rfl) ?_
                refine lv_if_eq (tgt := 64) hx hb nd_Trial_mostDelays_55 (by decide) (fun c_29 => ?_) (fun c_29 => ?_)
                · have c_29t := cr_eq c_29
                  rw [if_pos c_29] at hM
                  have e_30 : (v4_36 + (1 : Int32)).toInt = v4_36.toInt + (1 : Int32).toInt := cr_add (by omega)
                  refine lv_iinc (v := (v4_36 + (1 : Int32))) (lv' := [(4, .int (v4_36 + (1 : Int32))), (5, .int r_26), (0, .ref (atr 0)), (1, .long x1), (3, .int v3_6)]) hx hb nd_Trial_mostDelays_64 hl (k := 4) rfl (by rfl) (by decide) rfl (fun ls hl => ?_)
                  refine lv_goto (tgt := 36) hx hb nd_Trial_mostDelays_67 (by decide) ?_
                  exact ih_36 tr_36 tb_36 (v4_36 + (1 : Int32)) hR_tb_36 (by omega) (by omega) hM _ _ hP hD hS _ (lv_sub hl [2, 3, 4, 0] rfl)
                · have c_29t := cr_ne c_29
                  rw [if_neg c_29] at hM
                  refine lv_aload_n hx hb nd_Trial_mostDelays_58 rfl (lv_at hl 1 rfl) ?_
                  refine lv_iload hx hb nd_Trial_mostDelays_59 (lv_at hl 0 rfl) ?_
                  have hPc := hP
                  have hDc := hD
                  have hFc := va_free (wc := cw_Plan cI cZ cO apl pl ++ cw_Trial cI cZ cO atr apl atb tr_36 ++ cw_Board cI cZ cO atb apl tb_36) hD hS hA [0, 1, 2, 3, 4, 5, 6, 7, 8, 9, 10, 11, 12, 13, 14, 15, 16, 17, 18, 19, 20, 21, 22, 23, 24, 25, 26, 27, 28, 29, 30, 31, 32, 33, 34, 35, 36] rfl
                  refine va_callv (va_runV (As := [.int r_26]) (rest := []) ⟨hx, hb, hml, hown, hts⟩ (ct_Trial_haveTick l dC dI cI cZ cO apl atr atb H.size pl tr_36 tb_36 r_26 hR_tb_36 hR_pl (by omega)) (cwV 1 hts (ng_V tw_368 tw_370 tp_12 tw_5 tw_371) rfl rfl rfl (by decide +kernel) ⟨Nat.le_of_ble_eq_true rfl, Nat.le_of_ble_eq_true rfl⟩) ⟨fun a U g mk q => by obtain ⟨q0, q1, qP, qK, qD⟩ := q; exact ⟨q0, q1, qP, va_K.moved (u := U) (U := U.calling g mk a) (Vm.Alike.refl U.vm) qK, qD⟩, va_recv hK hPc (ci := 3) (q0 := 17) rfl rfl, fun U hU hW => ⟨rfl, by rw [hU], by rw [hU]; exact hPc, va_K.moved hW.alike hK, hDc.weaken (fun _ _ _ _ => trivial)⟩⟩ rfl rfl hl.1 rfl (lv_room (Nat.le_of_ble_eq_true rfl)) nd_Trial_mostDelays_61 ⟨Nat.zero_le _, Nat.zero_le _⟩) hS (fun q _ h => hFc q h) hFc (fun u t H1 locs ht hvm hw hB hz1 hk1 hS => ?_)
                  obtain ⟨hP1, hK1, hD1⟩ := hB
                  rw [ht] at hP1
                  obtain ⟨trq_32, tbq_34⟩ := u
                  dsimp only at hw hP1 hD1
                  obtain ⟨w_33, w_35, hR_36⟩ := hw
                  try rw [← w_33] at hM
                  try rw [← w_35] at hM
                  have hP := hP1
                  have hD := cr_Dw hD1 hFc
                  generalize H1 = H at hP hS ⊢
                  have e_37 : (v4_36 + (1 : Int32)).toInt = v4_36.toInt + (1 : Int32).toInt := cr_add (by omega)
                  refine lv_iinc (v := (v4_36 + (1 : Int32))) (lv' := [(4, .int (v4_36 + (1 : Int32))), (5, .int r_26), (0, .ref (atr 0)), (1, .long x1), (3, .int v3_6)]) hx hb nd_Trial_mostDelays_64 hl (k := 4) rfl (by rfl) (by decide) rfl (fun ls hl => ?_)
                  refine lv_goto (tgt := 36) hx hb nd_Trial_mostDelays_67 (by decide) ?_
                  exact ih_36 trq_32 tbq_34 (v4_36 + (1 : Int32)) hR_36 (by omega) (by omega) hM _ _ hP hD hS _ (lv_sub hl [2, 3, 4, 0] rfl)
          exact lp_36 4 tr_6 tbq_21 (1 : Int32) hR_23 (by omega) (by omega) hti_36 _ _ hP hD hS _ hl
  exact lp_6 339 trq_2 tbq_4 (0 : Int32) hR_6 (by omega) (by omega) hM _ _ hP hD hS _ hl
end
section
theorem nd_Main_isCore_0 : decode prog_1_method_14_code 0 = .ok (.iload_n 0, 1) := by decide +kernel
theorem nd_Main_isCore_1 : decode prog_1_method_14_code 1 = .ok (.iconst 1, 1) := by decide +kernel
theorem nd_Main_isCore_2 : decode prog_1_method_14_code 2 = .ok (.if_icmp .lt (12), 3) := by decide +kernel
theorem nd_Main_isCore_5 : decode prog_1_method_14_code 5 = .ok (.iload_n 0, 1) := by decide +kernel
theorem nd_Main_isCore_6 : decode prog_1_method_14_code 6 = .ok (.iconst 3, 1) := by decide +kernel
theorem nd_Main_isCore_7 : decode prog_1_method_14_code 7 = .ok (.if_icmp .gt (7), 3) := by decide +kernel
theorem nd_Main_isCore_10 : decode prog_1_method_14_code 10 = .ok (.iconst 1, 1) := by decide +kernel
theorem nd_Main_isCore_11 : decode prog_1_method_14_code 11 = .ok (.goto (4), 3) := by decide +kernel
theorem nd_Main_isCore_14 : decode prog_1_method_14_code 14 = .ok (.iconst 0, 1) := by decide +kernel
theorem nd_Main_isCore_15 : decode prog_1_method_14_code 15 = .ok (.ireturn, 1) := by decide +kernel
def md_Main_isCore  (x0 : Int32) : Int32 :=
  (if x0 < (1 : Int32) then (0 : Int32) else (if (3 : Int32) < x0 then (0 : Int32) else (1 : Int32)))
abbrev pq_Main_isCore (dC : Nat → ClassId) (dI : Nat → Nat → Nat) (cI cZ cO : ClassId)   (x0 : Int32) (A : Nat → Prop) : Array Value → State → Outcome → State → Prop :=
  va_Qi (fun (r : Int32) (_ : Unit) => r = md_Main_isCore  x0 ∧ (r.toInt = 0 ∨ (1 ≤ x0.toInt ∧ x0.toInt ≤ 3))) (fun (_ : Unit) t => va_P (dC, dI) vwCl ([]) t.heap ∧ va_K (dC, dI) vwCl [(cI, .int), (cZ, .boolean), (cO, .array .int)] t ∧ va_D A ([])) A
set_option maxHeartbeats 4000000 in
set_option maxRecDepth 100000 in
theorem ct_Main_isCore (l : Launch) (dC : Nat → ClassId) (dI : Nat → Nat → Nat) (cI cZ cO : ClassId)  (sz : Nat)  (x0 : Int32)  : Met l ny_Main_isCore nw_Main_isCore ({ frames := 0, cells := 0, slots := 0, locals := 0 } : Room) (va_Pc [.int x0] (fun U => U.heap.size = sz ∧ va_P (dC, dI) vwCl ([]) U.heap ∧ va_K (dC, dI) vwCl [(cI, .int), (cZ, .boolean), (cO, .array .int)] U ∧ va_D (fun _ => True) ([]))) (pq_Main_isCore dC dI cI cZ cO  x0 (va_A ([]) sz)) 0 0 (va_A ([]) sz) := by
  refine Met.ofW (cc := prog_1_method_14_code) (maxL := 1) (ret := (some .boolean)) (by decide) rfl ?_
  intro p e s m args below meth c s₁ B hml hv
  obtain ⟨rfl, hsz, hP, hK, hD0⟩ := hv
  have hx := B.exec
  have hb := B.bytes
  have hr := B.returns
  have hts0 := atoms_spec (ws := nw_Main_isCore) B.pre
  have hts : ∀ w ∈ ng_tbl, w.before ([.int x0] : List Value).toArray s = true := fun w h => hts0 w (List.mem_cons_of_mem _ h)
  have hown : s.vm.findClass "CeilingRows" = some m.cls := findClass_of_methodNamed B.named
  have hlocks := B.notSynchronized
  subst hsz
  have hD := hD0.self (sz := s.heap.size)
  generalize hAe : va_A ([]) s.heap.size = A at hD ⊢
  have hA : ∀ q : Nat, s.heap.size ≤ q → A q := fun q h => by rw [← hAe]; exact Or.inr h
  have hS : va_S A s.heap s.heap [] := va_S.rf
  have hP : va_P (dC, dI) vwCl ([]) s.heap := hP
  have hl := lv_entry ([.int x0]) (n := 1) (Nat.le_of_ble_eq_true rfl)
  rw [lg_entry_eq]
  generalize (lg_sl ([.int x0]) ++ List.replicate (1 - (lg_sl ([.int x0])).length) Slot.unset).toArray = ls at hl ⊢
  have hl : lv_has ls 1 [(0, .int x0)] := hl
  have k_0 : (0 : Int32).toInt = 0 := by decide
  have k_1 : (1 : Int32).toInt = 1 := by decide
  have k_3 : (3 : Int32).toInt = 3 := by decide
  obtain ⟨tgt, hT⟩ : ∃ z, md_Main_isCore  x0 = z := ⟨_, rfl⟩
  have hM := hT
  unfold md_Main_isCore at hM
  refine lv_iload_n hx hb nd_Main_isCore_0 rfl (lv_at hl 0 rfl) ?_
  refine lv_iconst (v := 1) hx hb nd_Main_isCore_1 (by decide) ?_
  refine lv_icmp_lt (tgt := 14) hx hb nd_Main_isCore_2 (by decide) (fun c_1 => ?_) (fun c_1 => ?_)
  · have c_1t := cr_lt c_1
    rw [if_pos c_1] at hM
    refine lv_iconst (v := 0) hx hb nd_Main_isCore_14 (by decide) ?_
    exact W.zret (v := (0 : Int32)) (ty := .boolean) hx hb hr (by decide) (fun t ht hW => ⟨⟨(0 : Int32), (), rfl, ⟨by rw [hT, ← hM], by omega⟩, by rw [ht]; exact hP, va_K.moved hW.alike hK, hD⟩, hS.F ht⟩) hS.2.2 nd_Main_isCore_15
  · have c_1t := cr_nlt c_1
    rw [if_neg c_1] at hM
    refine lv_iload_n hx hb nd_Main_isCore_5 rfl (lv_at hl 0 rfl) ?_
    refine lv_iconst (v := 3) hx hb nd_Main_isCore_6 (by decide) ?_
    refine lv_icmp_gt (tgt := 14) hx hb nd_Main_isCore_7 (by decide) (fun c_2 => ?_) (fun c_2 => ?_)
    · have c_2t := cr_lt c_2
      rw [if_pos c_2] at hM
      refine lv_iconst (v := 0) hx hb nd_Main_isCore_14 (by decide) ?_
      exact W.zret (v := (0 : Int32)) (ty := .boolean) hx hb hr (by decide) (fun t ht hW => ⟨⟨(0 : Int32), (), rfl, ⟨by rw [hT, ← hM], by omega⟩, by rw [ht]; exact hP, va_K.moved hW.alike hK, hD⟩, hS.F ht⟩) hS.2.2 nd_Main_isCore_15
    · have c_2t := cr_nlt c_2
      rw [if_neg c_2] at hM
      refine lv_iconst (v := 1) hx hb nd_Main_isCore_10 (by decide) ?_
      refine lv_goto (tgt := 15) hx hb nd_Main_isCore_11 (by decide) ?_
      exact W.zret (v := (1 : Int32)) (ty := .boolean) hx hb hr (by decide) (fun t ht hW => ⟨⟨(1 : Int32), (), rfl, ⟨by rw [hT, ← hM], by omega⟩, by rw [ht]; exact hP, va_K.moved hW.alike hK, hD⟩, hS.F ht⟩) hS.2.2 nd_Main_isCore_15

theorem nd_Main_runs_0 : decode prog_1_method_15_code 0 = .ok (.aload_n 0, 1) := by decide +kernel
theorem nd_Main_runs_1 : decode prog_1_method_15_code 1 = .ok (.getfield 12, 3) := by decide +kernel
theorem nd_Main_runs_4 : decode prog_1_method_15_code 4 = .ok (.getfield 74, 3) := by decide +kernel
theorem nd_Main_runs_7 : decode prog_1_method_15_code 7 = .ok (.iload_n 1, 1) := by decide +kernel
theorem nd_Main_runs_8 : decode prog_1_method_15_code 8 = .ok (.iaload, 1) := by decide +kernel
theorem nd_Main_runs_9 : decode prog_1_method_15_code 9 = .ok (.istore_n 2, 1) := by decide +kernel
theorem nd_Main_runs_10 : decode prog_1_method_15_code 10 = .ok (.aload_n 0, 1) := by decide +kernel
theorem nd_Main_runs_11 : decode prog_1_method_15_code 11 = .ok (.getfield 28, 3) := by decide +kernel
theorem nd_Main_runs_14 : decode prog_1_method_15_code 14 = .ok (.iload_n 2, 1) := by decide +kernel
theorem nd_Main_runs_15 : decode prog_1_method_15_code 15 = .ok (.invokevirtual 118, 3) := by decide +kernel
theorem nd_Main_runs_18 : decode prog_1_method_15_code 18 = .ok (.ifCond .ne (19), 3) := by decide +kernel
theorem nd_Main_runs_21 : decode prog_1_method_15_code 21 = .ok (.aload_n 0, 1) := by decide +kernel
theorem nd_Main_runs_22 : decode prog_1_method_15_code 22 = .ok (.getfield 21, 3) := by decide +kernel
theorem nd_Main_runs_25 : decode prog_1_method_15_code 25 = .ok (.iload_n 2, 1) := by decide +kernel
theorem nd_Main_runs_26 : decode prog_1_method_15_code 26 = .ok (.invokevirtual 134, 3) := by decide +kernel
theorem nd_Main_runs_29 : decode prog_1_method_15_code 29 = .ok (.iload_n 1, 1) := by decide +kernel
theorem nd_Main_runs_30 : decode prog_1_method_15_code 30 = .ok (.if_icmp .ne (7), 3) := by decide +kernel
theorem nd_Main_runs_33 : decode prog_1_method_15_code 33 = .ok (.iconst 1, 1) := by decide +kernel
theorem nd_Main_runs_34 : decode prog_1_method_15_code 34 = .ok (.goto (4), 3) := by decide +kernel
theorem nd_Main_runs_37 : decode prog_1_method_15_code 37 = .ok (.iconst 0, 1) := by decide +kernel
theorem nd_Main_runs_38 : decode prog_1_method_15_code 38 = .ok (.ireturn, 1) := by decide +kernel
def md_Main_runs (mn : cr_S) (lt : Int64) (pl : cr_S) (bd : cr_S) (lk : cr_S) (tr : cr_S) (tb : cr_S) (x1 : Int32) : Int32 :=
  (if (md_Locks_spins lk (pl 2 x1.toNatClampNeg)) = 0 then (if (md_Board_firstOn pl bd (pl 2 x1.toNatClampNeg)) = x1 then (1 : Int32) else (0 : Int32)) else (0 : Int32))
abbrev pq_Main_runs (dC : Nat → ClassId) (dI : Nat → Nat → Nat) (cI cZ cO : ClassId) (amn apl abd alk atr atb : Nat → Nat) (mn : cr_S) (lt : Int64) (pl : cr_S) (bd : cr_S) (lk : cr_S) (tr : cr_S) (tb : cr_S) (x1 : Int32) (A : Nat → Prop) : Array Value → State → Outcome → State → Prop :=
  va_Qi (fun (r : Int32) (_ : Unit) => r = md_Main_runs mn lt pl bd lk tr tb x1) (fun (_ : Unit) t => va_P (dC, dI) vwCl (cw_Main cI cZ cO amn apl abd alk atr mn lt ++ cw_Plan cI cZ cO apl pl ++ cw_Board cI cZ cO abd apl bd ++ cw_Locks cI cZ cO alk lk ++ cw_Trial cI cZ cO atr apl atb tr ++ cw_Board cI cZ cO atb apl tb) t.heap ∧ va_K (dC, dI) vwCl [(cI, .int), (cZ, .boolean), (cO, .array .int)] t ∧ va_D A (cw_Main cI cZ cO amn apl abd alk atr mn lt ++ cw_Plan cI cZ cO apl pl ++ cw_Board cI cZ cO abd apl bd ++ cw_Locks cI cZ cO alk lk ++ cw_Trial cI cZ cO atr apl atb tr ++ cw_Board cI cZ cO atb apl tb)) A
set_option maxHeartbeats 4000000 in
set_option maxRecDepth 100000 in
theorem ct_Main_runs (l : Launch) (dC : Nat → ClassId) (dI : Nat → Nat → Nat) (cI cZ cO : ClassId) (amn apl abd alk atr atb : Nat → Nat) (sz : Nat) (mn : cr_S) (lt : Int64) (pl : cr_S) (bd : cr_S) (lk : cr_S) (tr : cr_S) (tb : cr_S) (x1 : Int32) (hR_tb : cr_RBoard tb) (hR_lk : cr_RLocks lk) (hR_bd : cr_RBoard bd) (hR_pl : cr_RPlan pl) (hx1 : 0 ≤ x1.toInt ∧ x1.toInt ≤ 10) : Met l ny_Main_runs nw_Main_runs ({ frames := 3, cells := 0, slots := 0, locals := 70 } : Room) (va_Pc [.ref (amn 0), .int x1] (fun U => U.heap.size = sz ∧ va_P (dC, dI) vwCl (cw_Main cI cZ cO amn apl abd alk atr mn lt ++ cw_Plan cI cZ cO apl pl ++ cw_Board cI cZ cO abd apl bd ++ cw_Locks cI cZ cO alk lk ++ cw_Trial cI cZ cO atr apl atb tr ++ cw_Board cI cZ cO atb apl tb) U.heap ∧ va_K (dC, dI) vwCl [(cI, .int), (cZ, .boolean), (cO, .array .int)] U ∧ va_D (fun _ => True) (cw_Main cI cZ cO amn apl abd alk atr mn lt ++ cw_Plan cI cZ cO apl pl ++ cw_Board cI cZ cO abd apl bd ++ cw_Locks cI cZ cO alk lk ++ cw_Trial cI cZ cO atr apl atb tr ++ cw_Board cI cZ cO atb apl tb))) (pq_Main_runs dC dI cI cZ cO amn apl abd alk atr atb mn lt pl bd lk tr tb x1 (va_A (cw_Main cI cZ cO amn apl abd alk atr mn lt ++ cw_Plan cI cZ cO apl pl ++ cw_Board cI cZ cO abd apl bd ++ cw_Locks cI cZ cO alk lk ++ cw_Trial cI cZ cO atr apl atb tr ++ cw_Board cI cZ cO atb apl tb) sz)) 0 0 (va_A (cw_Main cI cZ cO amn apl abd alk atr mn lt ++ cw_Plan cI cZ cO apl pl ++ cw_Board cI cZ cO abd apl bd ++ cw_Locks cI cZ cO alk lk ++ cw_Trial cI cZ cO atr apl atb tr ++ cw_Board cI cZ cO atb apl tb) sz) := by
  refine Met.ofW (cc := prog_1_method_15_code) (maxL := 3) (ret := (some .boolean)) (by decide) rfl ?_
  intro p e s m args below meth c s₁ B hml hv
  obtain ⟨rfl, hsz, hP, hK, hD0⟩ := hv
  have hx := B.exec
  have hb := B.bytes
  have hr := B.returns
  have hts0 := atoms_spec (ws := nw_Main_runs) B.pre
  have hts : ∀ w ∈ ng_tbl, w.before ([.ref (amn 0), .int x1] : List Value).toArray s = true := fun w h => hts0 w (List.mem_cons_of_mem _ h)
  have hown : s.vm.findClass "CeilingRows" = some m.cls := findClass_of_methodNamed B.named
  have hlocks := B.notSynchronized
  subst hsz
  have hD := hD0.self (sz := s.heap.size)
  generalize hAe : va_A (cw_Main cI cZ cO amn apl abd alk atr mn lt ++ cw_Plan cI cZ cO apl pl ++ cw_Board cI cZ cO abd apl bd ++ cw_Locks cI cZ cO alk lk ++ cw_Trial cI cZ cO atr apl atb tr ++ cw_Board cI cZ cO atb apl tb) s.heap.size = A at hD ⊢
  have hA : ∀ q : Nat, s.heap.size ≤ q → A q := fun q h => by rw [← hAe]; exact Or.inr h
  have hS : va_S A s.heap s.heap [] := va_S.rf
  have hP : va_P (dC, dI) vwCl (cw_Main cI cZ cO amn apl abd alk atr mn lt ++ cw_Plan cI cZ cO apl pl ++ cw_Board cI cZ cO abd apl bd ++ cw_Locks cI cZ cO alk lk ++ cw_Trial cI cZ cO atr apl atb tr ++ cw_Board cI cZ cO atb apl tb) s.heap := hP
  have hl := lv_entry ([.ref (amn 0), .int x1]) (n := 3) (Nat.le_of_ble_eq_true rfl)
  rw [lg_entry_eq]
  generalize (lg_sl ([.ref (amn 0), .int x1]) ++ List.replicate (3 - (lg_sl ([.ref (amn 0), .int x1])).length) Slot.unset).toArray = ls at hl ⊢
  have hl : lv_has ls 3 [(0, .ref (amn 0)), (1, .int x1)] := hl
  have f0_pl_0 := cr_rfo hR_pl.1
  have f0_pl_1 := cr_rfo hR_pl.2.1
  have k_0 : (0 : Int32).toInt = 0 := by decide
  have k_1 : (1 : Int32).toInt = 1 := by decide
  obtain ⟨tgt, hT⟩ : ∃ z, md_Main_runs mn lt pl bd lk tr tb x1 = z := ⟨_, rfl⟩
  have hM := hT
  unfold md_Main_runs at hM
  refine lv_aload_n hx hb nd_Main_runs_0 rfl (lv_at hl 0 rfl) ?_
  refine va_get (D := (dC, dI)) (ci := 4) (v := .ref (apl 0)) (C := "CeilingRows") (T := nf_Main) (N := 6) hx hb hts nin_Main hown hK hP 0 rfl rfl 0 (by decide) (hts _ tw_138) (fun _ h9 => h9) rfl nd_Main_runs_1 ?_
  refine va_get (D := (dC, dI)) (ci := 0) (v := .ref (apl 2)) (C := "CeilingRows$Plan") (T := nf_Plan) (N := 7) hx hb hts nin_Plan hown hK hP 2 rfl rfl 3 (by decide) (hts _ tw_38) (fun _ h9 => h9) rfl nd_Main_runs_4 ?_
  refine lv_iload_n hx hb nd_Main_runs_7 rfl (lv_at hl 1 rfl) ?_
  have b_1 : vp_in x1 11 := vp_in_iff.mpr (by omega)
  refine va_iald hx hb hK hP 4 0 rfl rfl b_1 nd_Main_runs_8 ?_
  have f_2 := cr_rgo hR_pl.2.2 (x1.toNatClampNeg)
  refine lv_istore_n (lv' := [(2, .int (pl 2 x1.toNatClampNeg)), (0, .ref (amn 0)), (1, .int x1)]) hx hb nd_Main_runs_9 rfl hl (by decide) rfl (fun ls hl => ?_)
  refine lv_aload_n hx hb nd_Main_runs_10 rfl (lv_at hl 1 rfl) ?_
  refine va_get (D := (dC, dI)) (ci := 4) (v := .ref (alk 0)) (C := "CeilingRows") (T := nf_Main) (N := 6) hx hb hts nin_Main hown hK hP 0 rfl rfl 2 (by decide) (hts _ tw_140) (fun _ h9 => h9) rfl nd_Main_runs_11 ?_
  refine lv_iload_n hx hb nd_Main_runs_14 rfl (lv_at hl 0 rfl) ?_
  have hPc := hP.sub (ws' := cw_Locks cI cZ cO alk lk) [25, 26, 27, 28] rfl
  have hDc := hD.sub (ws' := cw_Locks cI cZ cO alk lk) [25, 26, 27, 28] (by decide) rfl
  have hFc := va_free (wc := cw_Locks cI cZ cO alk lk) hD hS hA [25, 26, 27, 28] rfl
  refine va_calli (va_runV (As := [.int (pl 2 x1.toNatClampNeg)]) (rest := []) ⟨hx, hb, hml, hown, hts⟩ (ct_Locks_spins l dC dI cI cZ cO alk s.heap.size lk (pl 2 x1.toNatClampNeg) hR_lk (by omega)) (cwV 1 hts (ng_V tw_234 tw_235 tw_236 tw_4 tw_237) rfl rfl rfl (by decide +kernel) ⟨Nat.le_of_ble_eq_true rfl, Nat.le_of_ble_eq_true rfl⟩) ⟨fun a U g mk q => by obtain ⟨q0, q1, qP, qK, qD⟩ := q; exact ⟨q0, q1, qP, va_K.moved (u := U) (U := U.calling g mk a) (Vm.Alike.refl U.vm) qK, qD⟩, va_recv hK hPc (ci := 2) (q0 := 0) rfl rfl, fun U hU hW => ⟨rfl, by rw [hU], by rw [hU]; exact hPc, va_K.moved hW.alike hK, hDc.weaken (fun _ _ _ _ => trivial)⟩⟩ rfl rfl hl.1 rfl (lv_room (Nat.le_of_ble_eq_true rfl)) nd_Main_runs_15 ⟨Nat.zero_le _, Nat.zero_le _⟩) hS (fun q _ h => hFc q h) hFc (fun r_3 u t H1 locs ht hvm hw hB hz1 hk1 hS => ?_)
  obtain ⟨hP1, hK1, hD1⟩ := hB
  rw [ht] at hP1
  have w_4 := hw
  try rw [← w_4] at hM
  obtain ⟨hP, hD⟩ := va_join (wr := cw_Main cI cZ cO amn apl abd alk atr mn lt ++ cw_Plan cI cZ cO apl pl ++ cw_Board cI cZ cO abd apl bd ++ cw_Trial cI cZ cO atr apl atb tr ++ cw_Board cI cZ cO atb apl tb) (w1 := cw_Locks cI cZ cO alk lk) hP hD [25, 26, 27, 28] [0, 1, 2, 3, 4, 5, 6, 7, 8, 9, 10, 11, 12, 13, 14, 15, 16, 17, 18, 19, 20, 21, 22, 23, 24, 29, 30, 31, 32, 33, 34, 35, 36, 37, 38, 39, 40, 41, 42, 43, 44, 45, 46, 47, 48] rfl rfl (by decide) (by decide) hk1 hFc hP1 hD1
  have hP := hP.sub (ws' := cw_Main cI cZ cO amn apl abd alk atr mn lt ++ cw_Plan cI cZ cO apl pl ++ cw_Board cI cZ cO abd apl bd ++ cw_Locks cI cZ cO alk lk ++ cw_Trial cI cZ cO atr apl atb tr ++ cw_Board cI cZ cO atb apl tb) [0, 1, 2, 3, 4, 5, 6, 7, 8, 9, 10, 11, 12, 13, 14, 15, 16, 17, 18, 19, 20, 21, 22, 23, 24, 45, 46, 47, 48, 25, 26, 27, 28, 29, 30, 31, 32, 33, 34, 35, 36, 37, 38, 39, 40, 41, 42, 43, 44] rfl
  have hD := hD.sub (ws' := cw_Main cI cZ cO amn apl abd alk atr mn lt ++ cw_Plan cI cZ cO apl pl ++ cw_Board cI cZ cO abd apl bd ++ cw_Locks cI cZ cO alk lk ++ cw_Trial cI cZ cO atr apl atb tr ++ cw_Board cI cZ cO atb apl tb) [0, 1, 2, 3, 4, 5, 6, 7, 8, 9, 10, 11, 12, 13, 14, 15, 16, 17, 18, 19, 20, 21, 22, 23, 24, 45, 46, 47, 48, 25, 26, 27, 28, 29, 30, 31, 32, 33, 34, 35, 36, 37, 38, 39, 40, 41, 42, 43, 44] (by decide) rfl
  generalize H1 = H at hP hS ⊢
  refine lv_if_ne (tgt := 37) hx hb nd_Main_runs_18 (by decide) (fun c_5 => ?_) (fun c_5 => ?_)
  · have c_5t := cr_ne c_5
    rw [if_neg c_5] at hM
    refine lv_iconst (v := 0) hx hb nd_Main_runs_37 (by decide) ?_
    exact W.zret (v := (0 : Int32)) (ty := .boolean) hx hb hr (by decide) (fun t ht hW => ⟨⟨(0 : Int32), (), rfl, by rw [hT, ← hM], by rw [ht]; exact hP, va_K.moved hW.alike hK, hD⟩, hS.F ht⟩) hS.2.2 nd_Main_runs_38
  · have c_5t := cr_eq c_5
    rw [if_pos c_5] at hM
    refine lv_aload_n hx hb nd_Main_runs_21 rfl (lv_at hl 1 rfl) ?_
    refine va_get (D := (dC, dI)) (ci := 4) (v := .ref (abd 0)) (C := "CeilingRows") (T := nf_Main) (N := 6) hx hb hts nin_Main hown hK hP 0 rfl rfl 1 (by decide) (hts _ tw_139) (fun _ h9 => h9) rfl nd_Main_runs_22 ?_
    refine lv_iload_n hx hb nd_Main_runs_25 rfl (lv_at hl 0 rfl) ?_
    have hPc := hP.sub (ws' := cw_Plan cI cZ cO apl pl ++ cw_Board cI cZ cO abd apl bd) [2, 3, 4, 5, 6, 7, 8, 9, 10, 11, 12, 13, 14, 15, 16, 17, 18, 19, 20, 21, 22, 23, 24] rfl
    have hDc := hD.sub (ws' := cw_Plan cI cZ cO apl pl ++ cw_Board cI cZ cO abd apl bd) [2, 3, 4, 5, 6, 7, 8, 9, 10, 11, 12, 13, 14, 15, 16, 17, 18, 19, 20, 21, 22, 23, 24] (by decide) rfl
    have hFc := va_free (wc := cw_Plan cI cZ cO apl pl ++ cw_Board cI cZ cO abd apl bd) hD hS hA [2, 3, 4, 5, 6, 7, 8, 9, 10, 11, 12, 13, 14, 15, 16, 17, 18, 19, 20, 21, 22, 23, 24] rfl
    refine va_calli (va_runV (As := [.int (pl 2 x1.toNatClampNeg)]) (rest := []) ⟨hx, hb, hml, hown, hts⟩ (ct_Board_firstOn l dC dI cI cZ cO apl abd H.size pl bd (pl 2 x1.toNatClampNeg) hR_bd hR_pl) (cwV 1 hts (ng_V tw_238 tw_239 tw_240 tw_3 tw_241) rfl rfl rfl (by decide +kernel) ⟨Nat.le_of_ble_eq_true rfl, Nat.le_of_ble_eq_true rfl⟩) ⟨fun a U g mk q => by obtain ⟨q0, q1, qP, qK, qD⟩ := q; exact ⟨q0, q1, qP, va_K.moved (u := U) (U := U.calling g mk a) (Vm.Alike.refl U.vm) qK, qD⟩, va_recv hK hPc (ci := 1) (q0 := 17) rfl rfl, fun U hU hW => ⟨rfl, by rw [hU], by rw [hU]; exact hPc, va_K.moved hW.alike hK, hDc.weaken (fun _ _ _ _ => trivial)⟩⟩ rfl rfl hl.1 rfl (lv_room (Nat.le_of_ble_eq_true rfl)) nd_Main_runs_26 ⟨Nat.zero_le _, Nat.zero_le _⟩) hS (fun q _ h => hFc q h) hFc (fun r_6 u t H1 locs ht hvm hw hB hz1 hk1 hS => ?_)
    obtain ⟨hP1, hK1, hD1⟩ := hB
    rw [ht] at hP1
    obtain ⟨w_7, f_8⟩ := hw
    try rw [← w_7] at hM
    obtain ⟨hP, hD⟩ := va_join (wr := cw_Main cI cZ cO amn apl abd alk atr mn lt ++ cw_Locks cI cZ cO alk lk ++ cw_Trial cI cZ cO atr apl atb tr ++ cw_Board cI cZ cO atb apl tb) (w1 := cw_Plan cI cZ cO apl pl ++ cw_Board cI cZ cO abd apl bd) hP hD [2, 3, 4, 5, 6, 7, 8, 9, 10, 11, 12, 13, 14, 15, 16, 17, 18, 19, 20, 21, 22, 23, 24] [0, 1, 25, 26, 27, 28, 29, 30, 31, 32, 33, 34, 35, 36, 37, 38, 39, 40, 41, 42, 43, 44, 45, 46, 47, 48] rfl rfl (by decide) (by decide) hk1 hFc hP1 hD1
    have hP := hP.sub (ws' := cw_Main cI cZ cO amn apl abd alk atr mn lt ++ cw_Plan cI cZ cO apl pl ++ cw_Board cI cZ cO abd apl bd ++ cw_Locks cI cZ cO alk lk ++ cw_Trial cI cZ cO atr apl atb tr ++ cw_Board cI cZ cO atb apl tb) [0, 1, 26, 27, 28, 29, 30, 31, 32, 33, 34, 35, 36, 37, 38, 39, 40, 41, 42, 43, 44, 45, 46, 47, 48, 2, 3, 4, 5, 6, 7, 8, 9, 10, 11, 12, 13, 14, 15, 16, 17, 18, 19, 20, 21, 22, 23, 24, 25] rfl
    have hD := hD.sub (ws' := cw_Main cI cZ cO amn apl abd alk atr mn lt ++ cw_Plan cI cZ cO apl pl ++ cw_Board cI cZ cO abd apl bd ++ cw_Locks cI cZ cO alk lk ++ cw_Trial cI cZ cO atr apl atb tr ++ cw_Board cI cZ cO atb apl tb) [0, 1, 26, 27, 28, 29, 30, 31, 32, 33, 34, 35, 36, 37, 38, 39, 40, 41, 42, 43, 44, 45, 46, 47, 48, 2, 3, 4, 5, 6, 7, 8, 9, 10, 11, 12, 13, 14, 15, 16, 17, 18, 19, 20, 21, 22, 23, 24, 25] (by decide) rfl
    generalize H1 = H at hP hS ⊢
    refine lv_iload_n hx hb nd_Main_runs_29 rfl (lv_at hl 2 rfl) ?_
    refine lv_icmp_ne (tgt := 37) hx hb nd_Main_runs_30 (by decide) (fun c_9 => ?_) (fun c_9 => ?_)
    · have c_9t := cr_ne c_9
      rw [if_neg c_9] at hM
      refine lv_iconst (v := 0) hx hb nd_Main_runs_37 (by decide) ?_
      exact W.zret (v := (0 : Int32)) (ty := .boolean) hx hb hr (by decide) (fun t ht hW => ⟨⟨(0 : Int32), (), rfl, by rw [hT, ← hM], by rw [ht]; exact hP, va_K.moved hW.alike hK, hD⟩, hS.F ht⟩) hS.2.2 nd_Main_runs_38
    · have c_9t := cr_eq c_9
      rw [if_pos c_9] at hM
      refine lv_iconst (v := 1) hx hb nd_Main_runs_33 (by decide) ?_
      refine lv_goto (tgt := 38) hx hb nd_Main_runs_34 (by decide) ?_
      exact W.zret (v := (1 : Int32)) (ty := .boolean) hx hb hr (by decide) (fun t ht hW => ⟨⟨(1 : Int32), (), rfl, by rw [hT, ← hM], by rw [ht]; exact hP, va_K.moved hW.alike hK, hD⟩, hS.F ht⟩) hS.2.2 nd_Main_runs_38

theorem nd_Main_startTask_0 : decode prog_1_method_17_code 0 = .ok (.aload_n 0, 1) := by decide +kernel
theorem nd_Main_startTask_1 : decode prog_1_method_17_code 1 = .ok (.getfield 21, 3) := by decide +kernel
theorem nd_Main_startTask_4 : decode prog_1_method_17_code 4 = .ok (.getfield 143, 3) := by decide +kernel
theorem nd_Main_startTask_7 : decode prog_1_method_17_code 7 = .ok (.iload_n 1, 1) := by decide +kernel
theorem nd_Main_startTask_8 : decode prog_1_method_17_code 8 = .ok (.iaload, 1) := by decide +kernel
theorem nd_Main_startTask_9 : decode prog_1_method_17_code 9 = .ok (.ifCond .eq (6), 3) := by decide +kernel
theorem nd_Main_startTask_12 : decode prog_1_method_17_code 12 = .ok (.bipush (-3), 2) := by decide +kernel
theorem nd_Main_startTask_14 : decode prog_1_method_17_code 14 = .ok (.ireturn, 1) := by decide +kernel
theorem nd_Main_startTask_15 : decode prog_1_method_17_code 15 = .ok (.aload_n 0, 1) := by decide +kernel
theorem nd_Main_startTask_16 : decode prog_1_method_17_code 16 = .ok (.getfield 21, 3) := by decide +kernel
theorem nd_Main_startTask_19 : decode prog_1_method_17_code 19 = .ok (.iload_n 1, 1) := by decide +kernel
theorem nd_Main_startTask_20 : decode prog_1_method_17_code 20 = .ok (.invokevirtual 161, 3) := by decide +kernel
theorem nd_Main_startTask_23 : decode prog_1_method_17_code 23 = .ok (.aload_n 0, 1) := by decide +kernel
theorem nd_Main_startTask_24 : decode prog_1_method_17_code 24 = .ok (.iload_n 1, 1) := by decide +kernel
theorem nd_Main_startTask_25 : decode prog_1_method_17_code 25 = .ok (.invokevirtual 146, 3) := by decide +kernel
theorem nd_Main_startTask_28 : decode prog_1_method_17_code 28 = .ok (.ifCond .eq (7), 3) := by decide +kernel
theorem nd_Main_startTask_31 : decode prog_1_method_17_code 31 = .ok (.iconst 1, 1) := by decide +kernel
theorem nd_Main_startTask_32 : decode prog_1_method_17_code 32 = .ok (.goto (4), 3) := by decide +kernel
theorem nd_Main_startTask_35 : decode prog_1_method_17_code 35 = .ok (.iconst 0, 1) := by decide +kernel
theorem nd_Main_startTask_36 : decode prog_1_method_17_code 36 = .ok (.ireturn, 1) := by decide +kernel
def md_Main_startTask (mn : cr_S) (lt : Int64) (pl : cr_S) (bd : cr_S) (lk : cr_S) (tr : cr_S) (tb : cr_S) (x1 : Int32) : Int32 × cr_S :=
  (if (bd 1 x1.toNatClampNeg) = 0 then (if (md_Main_runs mn lt pl (md_Board_makeReady pl bd x1) lk tr tb x1) = 0 then ((0 : Int32), (md_Board_makeReady pl bd x1)) else ((1 : Int32), (md_Board_makeReady pl bd x1))) else ((-3 : Int32), bd))
abbrev pq_Main_startTask (dC : Nat → ClassId) (dI : Nat → Nat → Nat) (cI cZ cO : ClassId) (amn apl abd alk atr atb : Nat → Nat) (mn : cr_S) (lt : Int64) (pl : cr_S) (bd : cr_S) (lk : cr_S) (tr : cr_S) (tb : cr_S) (x1 : Int32) (A : Nat → Prop) : Array Value → State → Outcome → State → Prop :=
  va_Qi (fun (r : Int32) (bd' : cr_S) => r = (md_Main_startTask mn lt pl bd lk tr tb x1).1 ∧ bd' = (md_Main_startTask mn lt pl bd lk tr tb x1).2 ∧ cr_RBoard bd') (fun (bd' : cr_S) t => va_P (dC, dI) vwCl (cw_Main cI cZ cO amn apl abd alk atr mn lt ++ cw_Plan cI cZ cO apl pl ++ cw_Board cI cZ cO abd apl bd' ++ cw_Locks cI cZ cO alk lk ++ cw_Trial cI cZ cO atr apl atb tr ++ cw_Board cI cZ cO atb apl tb) t.heap ∧ va_K (dC, dI) vwCl [(cI, .int), (cZ, .boolean), (cO, .array .int)] t ∧ va_D A (cw_Main cI cZ cO amn apl abd alk atr mn lt ++ cw_Plan cI cZ cO apl pl ++ cw_Board cI cZ cO abd apl bd' ++ cw_Locks cI cZ cO alk lk ++ cw_Trial cI cZ cO atr apl atb tr ++ cw_Board cI cZ cO atb apl tb)) A
set_option maxHeartbeats 4000000 in
set_option maxRecDepth 100000 in
theorem ct_Main_startTask (l : Launch) (dC : Nat → ClassId) (dI : Nat → Nat → Nat) (cI cZ cO : ClassId) (amn apl abd alk atr atb : Nat → Nat) (sz : Nat) (mn : cr_S) (lt : Int64) (pl : cr_S) (bd : cr_S) (lk : cr_S) (tr : cr_S) (tb : cr_S) (x1 : Int32) (hR_tb : cr_RBoard tb) (hR_lk : cr_RLocks lk) (hR_bd : cr_RBoard bd) (hR_pl : cr_RPlan pl) (hx1 : 0 ≤ x1.toInt ∧ x1.toInt ≤ 10) : Met l ny_Main_startTask nw_Main_startTask ({ frames := 4, cells := 0, slots := 0, locals := 92 } : Room) (va_Pc [.ref (amn 0), .int x1] (fun U => U.heap.size = sz ∧ va_P (dC, dI) vwCl (cw_Main cI cZ cO amn apl abd alk atr mn lt ++ cw_Plan cI cZ cO apl pl ++ cw_Board cI cZ cO abd apl bd ++ cw_Locks cI cZ cO alk lk ++ cw_Trial cI cZ cO atr apl atb tr ++ cw_Board cI cZ cO atb apl tb) U.heap ∧ va_K (dC, dI) vwCl [(cI, .int), (cZ, .boolean), (cO, .array .int)] U ∧ va_D (fun _ => True) (cw_Main cI cZ cO amn apl abd alk atr mn lt ++ cw_Plan cI cZ cO apl pl ++ cw_Board cI cZ cO abd apl bd ++ cw_Locks cI cZ cO alk lk ++ cw_Trial cI cZ cO atr apl atb tr ++ cw_Board cI cZ cO atb apl tb))) (pq_Main_startTask dC dI cI cZ cO amn apl abd alk atr atb mn lt pl bd lk tr tb x1 (va_A (cw_Main cI cZ cO amn apl abd alk atr mn lt ++ cw_Plan cI cZ cO apl pl ++ cw_Board cI cZ cO abd apl bd ++ cw_Locks cI cZ cO alk lk ++ cw_Trial cI cZ cO atr apl atb tr ++ cw_Board cI cZ cO atb apl tb) sz)) 0 0 (va_A (cw_Main cI cZ cO amn apl abd alk atr mn lt ++ cw_Plan cI cZ cO apl pl ++ cw_Board cI cZ cO abd apl bd ++ cw_Locks cI cZ cO alk lk ++ cw_Trial cI cZ cO atr apl atb tr ++ cw_Board cI cZ cO atb apl tb) sz) := by
  refine Met.ofW (cc := prog_1_method_17_code) (maxL := 2) (ret := (some .int)) (by decide) rfl ?_
  intro p e s m args below meth c s₁ B hml hv
  obtain ⟨rfl, hsz, hP, hK, hD0⟩ := hv
  have hx := B.exec
  have hb := B.bytes
  have hr := B.returns
  have hts0 := atoms_spec (ws := nw_Main_startTask) B.pre
  have hts : ∀ w ∈ ng_tbl, w.before ([.ref (amn 0), .int x1] : List Value).toArray s = true := fun w h => hts0 w (List.mem_cons_of_mem _ h)
  have hown : s.vm.findClass "CeilingRows" = some m.cls := findClass_of_methodNamed B.named
  have hlocks := B.notSynchronized
  subst hsz
  have hD := hD0.self (sz := s.heap.size)
  generalize hAe : va_A (cw_Main cI cZ cO amn apl abd alk atr mn lt ++ cw_Plan cI cZ cO apl pl ++ cw_Board cI cZ cO abd apl bd ++ cw_Locks cI cZ cO alk lk ++ cw_Trial cI cZ cO atr apl atb tr ++ cw_Board cI cZ cO atb apl tb) s.heap.size = A at hD ⊢
  have hA : ∀ q : Nat, s.heap.size ≤ q → A q := fun q h => by rw [← hAe]; exact Or.inr h
  have hS : va_S A s.heap s.heap [] := va_S.rf
  have hP : va_P (dC, dI) vwCl (cw_Main cI cZ cO amn apl abd alk atr mn lt ++ cw_Plan cI cZ cO apl pl ++ cw_Board cI cZ cO abd apl bd ++ cw_Locks cI cZ cO alk lk ++ cw_Trial cI cZ cO atr apl atb tr ++ cw_Board cI cZ cO atb apl tb) s.heap := hP
  have hl := lv_entry ([.ref (amn 0), .int x1]) (n := 2) (Nat.le_of_ble_eq_true rfl)
  rw [lg_entry_eq]
  generalize (lg_sl ([.ref (amn 0), .int x1]) ++ List.replicate (2 - (lg_sl ([.ref (amn 0), .int x1])).length) Slot.unset).toArray = ls at hl ⊢
  have hl : lv_has ls 2 [(0, .ref (amn 0)), (1, .int x1)] := hl
  have f0_pl_0 := cr_rfo hR_pl.1
  have f0_pl_1 := cr_rfo hR_pl.2.1
  have k_m3 : (-3 : Int32).toInt = -3 := by decide
  have k_0 : (0 : Int32).toInt = 0 := by decide
  have k_1 : (1 : Int32).toInt = 1 := by decide
  obtain ⟨tgt, hT⟩ : ∃ z, md_Main_startTask mn lt pl bd lk tr tb x1 = z := ⟨_, rfl⟩
  have hM := hT
  unfold md_Main_startTask at hM
  refine lv_aload_n hx hb nd_Main_startTask_0 rfl (lv_at hl 0 rfl) ?_
  refine va_get (D := (dC, dI)) (ci := 4) (v := .ref (abd 0)) (C := "CeilingRows") (T := nf_Main) (N := 6) hx hb hts nin_Main hown hK hP 0 rfl rfl 1 (by decide) (hts _ tw_139) (fun _ h9 => h9) rfl nd_Main_startTask_1 ?_
  refine va_get (D := (dC, dI)) (ci := 1) (v := .ref (abd 1)) (C := "CeilingRows$Board") (T := nf_Board) (N := 7) hx hb hts nin_Board hown hK hP 19 rfl rfl 1 (by decide) (hts _ tw_70) (fun _ h9 => h9) rfl nd_Main_startTask_4 ?_
  refine lv_iload_n hx hb nd_Main_startTask_7 rfl (lv_at hl 1 rfl) ?_
  have b_1 : vp_in x1 11 := vp_in_iff.mpr (by omega)
  refine va_iald hx hb hK hP 20 0 rfl rfl b_1 nd_Main_startTask_8 ?_
  refine lv_if_eq (tgt := 15) hx hb nd_Main_startTask_9 (by decide) (fun c_2 => ?_) (fun c_2 => ?_)
  · have c_2t := cr_eq c_2
    rw [if_pos c_2] at hM
    refine lv_aload_n hx hb nd_Main_startTask_15 rfl (lv_at hl 0 rfl) ?_
    refine va_get (D := (dC, dI)) (ci := 4) (v := .ref (abd 0)) (C := "CeilingRows") (T := nf_Main) (N := 6) hx hb hts nin_Main hown hK hP 0 rfl rfl 1 (by decide) (hts _ tw_139) (fun _ h9 => h9) rfl nd_Main_startTask_16 ?_
    refine lv_iload_n hx hb nd_Main_startTask_19 rfl (lv_at hl 1 rfl) ?_
    have hPc := hP.sub (ws' := cw_Plan cI cZ cO apl pl ++ cw_Board cI cZ cO abd apl bd) [2, 3, 4, 5, 6, 7, 8, 9, 10, 11, 12, 13, 14, 15, 16, 17, 18, 19, 20, 21, 22, 23, 24] rfl
    have hDc := hD.sub (ws' := cw_Plan cI cZ cO apl pl ++ cw_Board cI cZ cO abd apl bd) [2, 3, 4, 5, 6, 7, 8, 9, 10, 11, 12, 13, 14, 15, 16, 17, 18, 19, 20, 21, 22, 23, 24] (by decide) rfl
    have hFc := va_free (wc := cw_Plan cI cZ cO apl pl ++ cw_Board cI cZ cO abd apl bd) hD hS hA [2, 3, 4, 5, 6, 7, 8, 9, 10, 11, 12, 13, 14, 15, 16, 17, 18, 19, 20, 21, 22, 23, 24] rfl
    refine va_callv (va_runV (As := [.int x1]) (rest := []) ⟨hx, hb, hml, hown, hts⟩ (ct_Board_makeReady l dC dI cI cZ cO apl abd s.heap.size pl bd x1 hR_bd hR_pl (by omega)) (cwV 1 hts (ng_V tw_226 tw_227 tw_228 tw_3 tw_229) rfl rfl rfl (by decide +kernel) ⟨Nat.le_of_ble_eq_true rfl, Nat.le_of_ble_eq_true rfl⟩) ⟨fun a U g mk q => by obtain ⟨q0, q1, qP, qK, qD⟩ := q; exact ⟨q0, q1, qP, va_K.moved (u := U) (U := U.calling g mk a) (Vm.Alike.refl U.vm) qK, qD⟩, va_recv hK hPc (ci := 1) (q0 := 17) rfl rfl, fun U hU hW => ⟨rfl, by rw [hU], by rw [hU]; exact hPc, va_K.moved hW.alike hK, hDc.weaken (fun _ _ _ _ => trivial)⟩⟩ rfl rfl hl.1 rfl (lv_room (Nat.le_of_ble_eq_true rfl)) nd_Main_startTask_20 ⟨Nat.zero_le _, Nat.zero_le _⟩) hS (fun q _ h => hFc q h) hFc (fun u t H1 locs ht hvm hw hB hz1 hk1 hS => ?_)
    obtain ⟨hP1, hK1, hD1⟩ := hB
    rw [ht] at hP1
    obtain ⟨bdq_4, rfl⟩ : ∃ z, z = u := ⟨_, rfl⟩
    obtain ⟨w_5, hR_6⟩ := hw
    try rw [← w_5] at hM
    obtain ⟨hP, hD⟩ := va_join (wr := cw_Main cI cZ cO amn apl abd alk atr mn lt ++ cw_Locks cI cZ cO alk lk ++ cw_Trial cI cZ cO atr apl atb tr ++ cw_Board cI cZ cO atb apl tb) (w1 := cw_Plan cI cZ cO apl pl ++ cw_Board cI cZ cO abd apl bdq_4) hP hD [2, 3, 4, 5, 6, 7, 8, 9, 10, 11, 12, 13, 14, 15, 16, 17, 18, 19, 20, 21, 22, 23, 24] [0, 1, 25, 26, 27, 28, 29, 30, 31, 32, 33, 34, 35, 36, 37, 38, 39, 40, 41, 42, 43, 44, 45, 46, 47, 48] rfl rfl (by decide) (by decide) hk1 hFc hP1 hD1
    have hP := hP.sub (ws' := cw_Main cI cZ cO amn apl abd alk atr mn lt ++ cw_Plan cI cZ cO apl pl ++ cw_Board cI cZ cO abd apl bdq_4 ++ cw_Locks cI cZ cO alk lk ++ cw_Trial cI cZ cO atr apl atb tr ++ cw_Board cI cZ cO atb apl tb) [0, 1, 26, 27, 28, 29, 30, 31, 32, 33, 34, 35, 36, 37, 38, 39, 40, 41, 42, 43, 44, 45, 46, 47, 48, 2, 3, 4, 5, 6, 7, 8, 9, 10, 11, 12, 13, 14, 15, 16, 17, 18, 19, 20, 21, 22, 23, 24, 25] rfl
    have hD := hD.sub (ws' := cw_Main cI cZ cO amn apl abd alk atr mn lt ++ cw_Plan cI cZ cO apl pl ++ cw_Board cI cZ cO abd apl bdq_4 ++ cw_Locks cI cZ cO alk lk ++ cw_Trial cI cZ cO atr apl atb tr ++ cw_Board cI cZ cO atb apl tb) [0, 1, 26, 27, 28, 29, 30, 31, 32, 33, 34, 35, 36, 37, 38, 39, 40, 41, 42, 43, 44, 45, 46, 47, 48, 2, 3, 4, 5, 6, 7, 8, 9, 10, 11, 12, 13, 14, 15, 16, 17, 18, 19, 20, 21, 22, 23, 24, 25] (by decide) rfl
    generalize H1 = H at hP hS ⊢
    refine lv_aload_n hx hb nd_Main_startTask_23 rfl (lv_at hl 0 rfl) ?_
    refine lv_iload_n hx hb nd_Main_startTask_24 rfl (lv_at hl 1 rfl) ?_
    have hPc := hP
    have hDc := hD
    have hFc := va_free (wc := cw_Main cI cZ cO amn apl abd alk atr mn lt ++ cw_Plan cI cZ cO apl pl ++ cw_Board cI cZ cO abd apl bdq_4 ++ cw_Locks cI cZ cO alk lk ++ cw_Trial cI cZ cO atr apl atb tr ++ cw_Board cI cZ cO atb apl tb) hD hS hA [0, 1, 2, 3, 4, 5, 6, 7, 8, 9, 10, 11, 12, 13, 14, 15, 16, 17, 18, 19, 20, 21, 22, 23, 24, 25, 26, 27, 28, 29, 30, 31, 32, 33, 34, 35, 36, 37, 38, 39, 40, 41, 42, 43, 44, 45, 46, 47, 48] rfl
    refine va_calli (va_runV (As := [.int x1]) (rest := []) ⟨hx, hb, hml, hown, hts⟩ (ct_Main_runs l dC dI cI cZ cO amn apl abd alk atr atb H.size mn lt pl bdq_4 lk tr tb x1 hR_tb hR_lk hR_6 hR_pl (by omega)) (cwV 1 hts (ng_V tw_230 tw_232 tp_2 tw_1 tw_233) rfl rfl rfl (by decide +kernel) ⟨Nat.le_of_ble_eq_true rfl, Nat.le_of_ble_eq_true rfl⟩) ⟨fun a U g mk q => by obtain ⟨q0, q1, qP, qK, qD⟩ := q; exact ⟨q0, q1, qP, va_K.moved (u := U) (U := U.calling g mk a) (Vm.Alike.refl U.vm) qK, qD⟩, va_recv hK hPc (ci := 4) (q0 := 0) rfl rfl, fun U hU hW => ⟨rfl, by rw [hU], by rw [hU]; exact hPc, va_K.moved hW.alike hK, hDc.weaken (fun _ _ _ _ => trivial)⟩⟩ rfl rfl hl.1 rfl (lv_room (Nat.le_of_ble_eq_true rfl)) nd_Main_startTask_25 ⟨Nat.zero_le _, Nat.zero_le _⟩) hS (fun q _ h => hFc q h) hFc (fun r_7 u t H1 locs ht hvm hw hB hz1 hk1 hS => ?_)
    obtain ⟨hP1, hK1, hD1⟩ := hB
    rw [ht] at hP1
    have w_8 := hw
    try rw [← w_8] at hM
    have hP := hP1
    have hD := cr_Dw hD1 hFc
    generalize H1 = H at hP hS ⊢
    refine lv_if_eq (tgt := 35) hx hb nd_Main_startTask_28 (by decide) (fun c_9 => ?_) (fun c_9 => ?_)
    · have c_9t := cr_eq c_9
      rw [if_pos c_9] at hM
      refine lv_iconst (v := 0) hx hb nd_Main_startTask_35 (by decide) ?_
      exact W.iret (v := (0 : Int32)) hx hb hr (fun t ht hW => ⟨⟨(0 : Int32), bdq_4, rfl, ⟨by rw [hT, ← hM], by rw [hT, ← hM], hR_6⟩, by rw [ht]; exact hP, va_K.moved hW.alike hK, hD⟩, hS.F ht⟩) hS.2.2 nd_Main_startTask_36
    · have c_9t := cr_ne c_9
      rw [if_neg c_9] at hM
      refine lv_iconst (v := 1) hx hb nd_Main_startTask_31 (by decide) ?_
      refine lv_goto (tgt := 36) hx hb nd_Main_startTask_32 (by decide) ?_
      exact W.iret (v := (1 : Int32)) hx hb hr (fun t ht hW => ⟨⟨(1 : Int32), bdq_4, rfl, ⟨by rw [hT, ← hM], by rw [hT, ← hM], hR_6⟩, by rw [ht]; exact hP, va_K.moved hW.alike hK, hD⟩, hS.F ht⟩) hS.2.2 nd_Main_startTask_36
  · have c_2t := cr_ne c_2
    rw [if_neg c_2] at hM
    refine lv_bipush (v := -3) hx hb nd_Main_startTask_12 (by decide) ?_
    exact W.iret (v := (-3 : Int32)) hx hb hr (fun t ht hW => ⟨⟨(-3 : Int32), bd, rfl, ⟨by rw [hT, ← hM], by rw [hT, ← hM], hR_bd⟩, by rw [ht]; exact hP, va_K.moved hW.alike hK, hD⟩, hS.F ht⟩) hS.2.2 nd_Main_startTask_14

theorem nd_Main_sendEvent_0 : decode prog_1_method_18_code 0 = .ok (.aload_n 0, 1) := by decide +kernel
theorem nd_Main_sendEvent_1 : decode prog_1_method_18_code 1 = .ok (.getfield 21, 3) := by decide +kernel
theorem nd_Main_sendEvent_4 : decode prog_1_method_18_code 4 = .ok (.getfield 143, 3) := by decide +kernel
theorem nd_Main_sendEvent_7 : decode prog_1_method_18_code 7 = .ok (.iload_n 1, 1) := by decide +kernel
theorem nd_Main_sendEvent_8 : decode prog_1_method_18_code 8 = .ok (.iaload, 1) := by decide +kernel
theorem nd_Main_sendEvent_9 : decode prog_1_method_18_code 9 = .ok (.ifCond .ne (6), 3) := by decide +kernel
theorem nd_Main_sendEvent_12 : decode prog_1_method_18_code 12 = .ok (.bipush (-3), 2) := by decide +kernel
theorem nd_Main_sendEvent_14 : decode prog_1_method_18_code 14 = .ok (.ireturn, 1) := by decide +kernel
theorem nd_Main_sendEvent_15 : decode prog_1_method_18_code 15 = .ok (.aload_n 0, 1) := by decide +kernel
theorem nd_Main_sendEvent_16 : decode prog_1_method_18_code 16 = .ok (.getfield 21, 3) := by decide +kernel
theorem nd_Main_sendEvent_19 : decode prog_1_method_18_code 19 = .ok (.getfield 143, 3) := by decide +kernel
theorem nd_Main_sendEvent_22 : decode prog_1_method_18_code 22 = .ok (.iload_n 1, 1) := by decide +kernel
theorem nd_Main_sendEvent_23 : decode prog_1_method_18_code 23 = .ok (.iaload, 1) := by decide +kernel
theorem nd_Main_sendEvent_24 : decode prog_1_method_18_code 24 = .ok (.iconst 2, 1) := by decide +kernel
theorem nd_Main_sendEvent_25 : decode prog_1_method_18_code 25 = .ok (.if_icmp .ne (14), 3) := by decide +kernel
theorem nd_Main_sendEvent_28 : decode prog_1_method_18_code 28 = .ok (.aload_n 0, 1) := by decide +kernel
theorem nd_Main_sendEvent_29 : decode prog_1_method_18_code 29 = .ok (.getfield 21, 3) := by decide +kernel
theorem nd_Main_sendEvent_32 : decode prog_1_method_18_code 32 = .ok (.iload_n 1, 1) := by decide +kernel
theorem nd_Main_sendEvent_33 : decode prog_1_method_18_code 33 = .ok (.invokevirtual 161, 3) := by decide +kernel
theorem nd_Main_sendEvent_36 : decode prog_1_method_18_code 36 = .ok (.goto (10), 3) := by decide +kernel
theorem nd_Main_sendEvent_39 : decode prog_1_method_18_code 39 = .ok (.aload_n 0, 1) := by decide +kernel
theorem nd_Main_sendEvent_40 : decode prog_1_method_18_code 40 = .ok (.getfield 39, 3) := by decide +kernel
theorem nd_Main_sendEvent_43 : decode prog_1_method_18_code 43 = .ok (.iload_n 1, 1) := by decide +kernel
theorem nd_Main_sendEvent_44 : decode prog_1_method_18_code 44 = .ok (.iconst 1, 1) := by decide +kernel
theorem nd_Main_sendEvent_45 : decode prog_1_method_18_code 45 = .ok (.bastore, 1) := by decide +kernel
theorem nd_Main_sendEvent_46 : decode prog_1_method_18_code 46 = .ok (.aload_n 0, 1) := by decide +kernel
theorem nd_Main_sendEvent_47 : decode prog_1_method_18_code 47 = .ok (.iload_n 1, 1) := by decide +kernel
theorem nd_Main_sendEvent_48 : decode prog_1_method_18_code 48 = .ok (.invokevirtual 146, 3) := by decide +kernel
theorem nd_Main_sendEvent_51 : decode prog_1_method_18_code 51 = .ok (.ifCond .eq (7), 3) := by decide +kernel
theorem nd_Main_sendEvent_54 : decode prog_1_method_18_code 54 = .ok (.iconst 1, 1) := by decide +kernel
theorem nd_Main_sendEvent_55 : decode prog_1_method_18_code 55 = .ok (.goto (4), 3) := by decide +kernel
theorem nd_Main_sendEvent_58 : decode prog_1_method_18_code 58 = .ok (.iconst 0, 1) := by decide +kernel
theorem nd_Main_sendEvent_59 : decode prog_1_method_18_code 59 = .ok (.ireturn, 1) := by decide +kernel
def md_Main_sendEvent (mn : cr_S) (lt : Int64) (pl : cr_S) (bd : cr_S) (lk : cr_S) (tr : cr_S) (tb : cr_S) (x1 : Int32) : Int32 × cr_S × Int64 × cr_S :=
  (if (bd 1 x1.toNatClampNeg) = 0 then ((-3 : Int32), mn, lt, bd) else (if (bd 1 x1.toNatClampNeg) = (2 : Int32) then (if (md_Main_runs mn lt pl (md_Board_makeReady pl bd x1) lk tr tb x1) = 0 then ((0 : Int32), mn, lt, (md_Board_makeReady pl bd x1)) else ((1 : Int32), mn, lt, (md_Board_makeReady pl bd x1))) else (if (md_Main_runs (cr_up mn 1 x1.toNatClampNeg (1 : Int32)) lt pl bd lk tr tb x1) = 0 then ((0 : Int32), (cr_up mn 1 x1.toNatClampNeg (1 : Int32)), lt, bd) else ((1 : Int32), (cr_up mn 1 x1.toNatClampNeg (1 : Int32)), lt, bd))))
abbrev pq_Main_sendEvent (dC : Nat → ClassId) (dI : Nat → Nat → Nat) (cI cZ cO : ClassId) (amn apl abd alk atr atb : Nat → Nat) (mn : cr_S) (lt : Int64) (pl : cr_S) (bd : cr_S) (lk : cr_S) (tr : cr_S) (tb : cr_S) (x1 : Int32) (A : Nat → Prop) : Array Value → State → Outcome → State → Prop :=
  va_Qi (fun (r : Int32) (u : cr_S × Int64 × cr_S) => r = (md_Main_sendEvent mn lt pl bd lk tr tb x1).1 ∧ u.1 = (md_Main_sendEvent mn lt pl bd lk tr tb x1).2.1 ∧ u.2.1 = (md_Main_sendEvent mn lt pl bd lk tr tb x1).2.2.1 ∧ u.2.2 = (md_Main_sendEvent mn lt pl bd lk tr tb x1).2.2.2 ∧ cr_RBoard u.2.2) (fun (u : cr_S × Int64 × cr_S) t => va_P (dC, dI) vwCl (cw_Main cI cZ cO amn apl abd alk atr u.1 u.2.1 ++ cw_Plan cI cZ cO apl pl ++ cw_Board cI cZ cO abd apl u.2.2 ++ cw_Locks cI cZ cO alk lk ++ cw_Trial cI cZ cO atr apl atb tr ++ cw_Board cI cZ cO atb apl tb) t.heap ∧ va_K (dC, dI) vwCl [(cI, .int), (cZ, .boolean), (cO, .array .int)] t ∧ va_D A (cw_Main cI cZ cO amn apl abd alk atr u.1 u.2.1 ++ cw_Plan cI cZ cO apl pl ++ cw_Board cI cZ cO abd apl u.2.2 ++ cw_Locks cI cZ cO alk lk ++ cw_Trial cI cZ cO atr apl atb tr ++ cw_Board cI cZ cO atb apl tb)) A
set_option maxHeartbeats 4000000 in
set_option maxRecDepth 100000 in
theorem ct_Main_sendEvent (l : Launch) (dC : Nat → ClassId) (dI : Nat → Nat → Nat) (cI cZ cO : ClassId) (amn apl abd alk atr atb : Nat → Nat) (sz : Nat) (mn : cr_S) (lt : Int64) (pl : cr_S) (bd : cr_S) (lk : cr_S) (tr : cr_S) (tb : cr_S) (x1 : Int32) (hR_tb : cr_RBoard tb) (hR_lk : cr_RLocks lk) (hR_bd : cr_RBoard bd) (hR_pl : cr_RPlan pl) (hx1 : 0 ≤ x1.toInt ∧ x1.toInt ≤ 10) : Met l ny_Main_sendEvent nw_Main_sendEvent ({ frames := 4, cells := 0, slots := 0, locals := 92 } : Room) (va_Pc [.ref (amn 0), .int x1] (fun U => U.heap.size = sz ∧ va_P (dC, dI) vwCl (cw_Main cI cZ cO amn apl abd alk atr mn lt ++ cw_Plan cI cZ cO apl pl ++ cw_Board cI cZ cO abd apl bd ++ cw_Locks cI cZ cO alk lk ++ cw_Trial cI cZ cO atr apl atb tr ++ cw_Board cI cZ cO atb apl tb) U.heap ∧ va_K (dC, dI) vwCl [(cI, .int), (cZ, .boolean), (cO, .array .int)] U ∧ va_D (fun _ => True) (cw_Main cI cZ cO amn apl abd alk atr mn lt ++ cw_Plan cI cZ cO apl pl ++ cw_Board cI cZ cO abd apl bd ++ cw_Locks cI cZ cO alk lk ++ cw_Trial cI cZ cO atr apl atb tr ++ cw_Board cI cZ cO atb apl tb))) (pq_Main_sendEvent dC dI cI cZ cO amn apl abd alk atr atb mn lt pl bd lk tr tb x1 (va_A (cw_Main cI cZ cO amn apl abd alk atr mn lt ++ cw_Plan cI cZ cO apl pl ++ cw_Board cI cZ cO abd apl bd ++ cw_Locks cI cZ cO alk lk ++ cw_Trial cI cZ cO atr apl atb tr ++ cw_Board cI cZ cO atb apl tb) sz)) 0 0 (va_A (cw_Main cI cZ cO amn apl abd alk atr mn lt ++ cw_Plan cI cZ cO apl pl ++ cw_Board cI cZ cO abd apl bd ++ cw_Locks cI cZ cO alk lk ++ cw_Trial cI cZ cO atr apl atb tr ++ cw_Board cI cZ cO atb apl tb) sz) := by
  refine Met.ofW (cc := prog_1_method_18_code) (maxL := 2) (ret := (some .int)) (by decide) rfl ?_
  intro p e s m args below meth c s₁ B hml hv
  obtain ⟨rfl, hsz, hP, hK, hD0⟩ := hv
  have hx := B.exec
  have hb := B.bytes
  have hr := B.returns
  have hts0 := atoms_spec (ws := nw_Main_sendEvent) B.pre
  have hts : ∀ w ∈ ng_tbl, w.before ([.ref (amn 0), .int x1] : List Value).toArray s = true := fun w h => hts0 w (List.mem_cons_of_mem _ h)
  have hown : s.vm.findClass "CeilingRows" = some m.cls := findClass_of_methodNamed B.named
  have hlocks := B.notSynchronized
  subst hsz
  have hD := hD0.self (sz := s.heap.size)
  generalize hAe : va_A (cw_Main cI cZ cO amn apl abd alk atr mn lt ++ cw_Plan cI cZ cO apl pl ++ cw_Board cI cZ cO abd apl bd ++ cw_Locks cI cZ cO alk lk ++ cw_Trial cI cZ cO atr apl atb tr ++ cw_Board cI cZ cO atb apl tb) s.heap.size = A at hD ⊢
  have hA : ∀ q : Nat, s.heap.size ≤ q → A q := fun q h => by rw [← hAe]; exact Or.inr h
  have hS : va_S A s.heap s.heap [] := va_S.rf
  have hP : va_P (dC, dI) vwCl (cw_Main cI cZ cO amn apl abd alk atr mn lt ++ cw_Plan cI cZ cO apl pl ++ cw_Board cI cZ cO abd apl bd ++ cw_Locks cI cZ cO alk lk ++ cw_Trial cI cZ cO atr apl atb tr ++ cw_Board cI cZ cO atb apl tb) s.heap := hP
  have hl := lv_entry ([.ref (amn 0), .int x1]) (n := 2) (Nat.le_of_ble_eq_true rfl)
  rw [lg_entry_eq]
  generalize (lg_sl ([.ref (amn 0), .int x1]) ++ List.replicate (2 - (lg_sl ([.ref (amn 0), .int x1])).length) Slot.unset).toArray = ls at hl ⊢
  have hl : lv_has ls 2 [(0, .ref (amn 0)), (1, .int x1)] := hl
  have f0_pl_0 := cr_rfo hR_pl.1
  have f0_pl_1 := cr_rfo hR_pl.2.1
  have k_m3 : (-3 : Int32).toInt = -3 := by decide
  have k_0 : (0 : Int32).toInt = 0 := by decide
  have k_1 : (1 : Int32).toInt = 1 := by decide
  have k_2 : (2 : Int32).toInt = 2 := by decide
  obtain ⟨tgt, hT⟩ : ∃ z, md_Main_sendEvent mn lt pl bd lk tr tb x1 = z := ⟨_, rfl⟩
  have hM := hT
  unfold md_Main_sendEvent at hM
  refine lv_aload_n hx hb nd_Main_sendEvent_0 rfl (lv_at hl 0 rfl) ?_
  refine va_get (D := (dC, dI)) (ci := 4) (v := .ref (abd 0)) (C := "CeilingRows") (T := nf_Main) (N := 6) hx hb hts nin_Main hown hK hP 0 rfl rfl 1 (by decide) (hts _ tw_139) (fun _ h9 => h9) rfl nd_Main_sendEvent_1 ?_
  refine va_get (D := (dC, dI)) (ci := 1) (v := .ref (abd 1)) (C := "CeilingRows$Board") (T := nf_Board) (N := 7) hx hb hts nin_Board hown hK hP 19 rfl rfl 1 (by decide) (hts _ tw_70) (fun _ h9 => h9) rfl nd_Main_sendEvent_4 ?_
  refine lv_iload_n hx hb nd_Main_sendEvent_7 rfl (lv_at hl 1 rfl) ?_
  have b_1 : vp_in x1 11 := vp_in_iff.mpr (by omega)
  refine va_iald hx hb hK hP 20 0 rfl rfl b_1 nd_Main_sendEvent_8 ?_
  refine lv_if_ne (tgt := 15) hx hb nd_Main_sendEvent_9 (by decide) (fun c_2 => ?_) (fun c_2 => ?_)
  · have c_2t := cr_ne c_2
    rw [if_neg c_2] at hM
    refine lv_aload_n hx hb nd_Main_sendEvent_15 rfl (lv_at hl 0 rfl) ?_
    refine va_get (D := (dC, dI)) (ci := 4) (v := .ref (abd 0)) (C := "CeilingRows") (T := nf_Main) (N := 6) hx hb hts nin_Main hown hK hP 0 rfl rfl 1 (by decide) (hts _ tw_139) (fun _ h9 => h9) rfl nd_Main_sendEvent_16 ?_
    refine va_get (D := (dC, dI)) (ci := 1) (v := .ref (abd 1)) (C := "CeilingRows$Board") (T := nf_Board) (N := 7) hx hb hts nin_Board hown hK hP 19 rfl rfl 1 (by decide) (hts _ tw_70) (fun _ h9 => h9) rfl nd_Main_sendEvent_19 ?_
    refine lv_iload_n hx hb nd_Main_sendEvent_22 rfl (lv_at hl 1 rfl) ?_
    have b_3 : vp_in x1 11 := vp_in_iff.mpr (by omega)
    refine va_iald hx hb hK hP 20 0 rfl rfl b_3 nd_Main_sendEvent_23 ?_
    refine lv_iconst (v := 2) hx hb nd_Main_sendEvent_24 (by decide) ?_
    refine lv_icmp_ne (tgt := 39) hx hb nd_Main_sendEvent_25 (by decide) (fun c_4 => ?_) (fun c_4 => ?_)
    · have c_4t := cr_ne c_4
      rw [if_neg c_4] at hM
      refine lv_aload_n hx hb nd_Main_sendEvent_39 rfl (lv_at hl 0 rfl) ?_
      refine va_get (D := (dC, dI)) (ci := 4) (v := .ref (amn 1)) (C := "CeilingRows") (T := nf_Main) (N := 6) hx hb hts nin_Main hown hK hP 0 rfl rfl 4 (by decide) (hts _ tw_142) (fun _ h9 => h9) rfl nd_Main_sendEvent_40 ?_
      refine lv_iload_n hx hb nd_Main_sendEvent_43 rfl (lv_at hl 1 rfl) ?_
      refine lv_iconst (v := 1) hx hb nd_Main_sendEvent_44 (by decide) ?_
      have b_5 : vp_in x1 11 := vp_in_iff.mpr (by omega)
      refine va_zast hx hb hK hP hD hS 1 1 rfl rfl b_5 nd_Main_sendEvent_45 (fun H locs hP hD hS => ?_)
      rw [show vp_nar .boolean (1 : Int32) = (1 : Int32) by decide] at hP hD
      have hP : va_P (dC, dI) vwCl (cw_Main cI cZ cO amn apl abd alk atr (cr_up mn 1 x1.toNatClampNeg (1 : Int32)) lt ++ cw_Plan cI cZ cO apl pl ++ cw_Board cI cZ cO abd apl bd ++ cw_Locks cI cZ cO alk lk ++ cw_Trial cI cZ cO atr apl atb tr ++ cw_Board cI cZ cO atb apl tb) H := hP
      have hD : va_D A (cw_Main cI cZ cO amn apl abd alk atr (cr_up mn 1 x1.toNatClampNeg (1 : Int32)) lt ++ cw_Plan cI cZ cO apl pl ++ cw_Board cI cZ cO abd apl bd ++ cw_Locks cI cZ cO alk lk ++ cw_Trial cI cZ cO atr apl atb tr ++ cw_Board cI cZ cO atb apl tb) := hD
      obtain ⟨mnq_6, hmnq_6⟩ : ∃ z, (cr_up mn 1 x1.toNatClampNeg (1 : Int32)) = z := ⟨_, rfl⟩
      rw [hmnq_6] at hP hD
      try rw [hmnq_6] at hM
      refine lv_aload_n hx hb nd_Main_sendEvent_46 rfl (lv_at hl 0 rfl) ?_
      refine lv_iload_n hx hb nd_Main_sendEvent_47 rfl (lv_at hl 1 rfl) ?_
      have hPc := hP
      have hDc := hD
      have hFc := va_free (wc := cw_Main cI cZ cO amn apl abd alk atr mnq_6 lt ++ cw_Plan cI cZ cO apl pl ++ cw_Board cI cZ cO abd apl bd ++ cw_Locks cI cZ cO alk lk ++ cw_Trial cI cZ cO atr apl atb tr ++ cw_Board cI cZ cO atb apl tb) hD hS hA [0, 1, 2, 3, 4, 5, 6, 7, 8, 9, 10, 11, 12, 13, 14, 15, 16, 17, 18, 19, 20, 21, 22, 23, 24, 25, 26, 27, 28, 29, 30, 31, 32, 33, 34, 35, 36, 37, 38, 39, 40, 41, 42, 43, 44, 45, 46, 47, 48] rfl
      refine va_calli (va_runV (As := [.int x1]) (rest := []) ⟨hx, hb, hml, hown, hts⟩ (ct_Main_runs l dC dI cI cZ cO amn apl abd alk atr atb H.size mnq_6 lt pl bd lk tr tb x1 hR_tb hR_lk hR_bd hR_pl (by omega)) (cwV 1 hts (ng_V tw_230 tw_232 tp_2 tw_1 tw_233) rfl rfl rfl (by decide +kernel) ⟨Nat.le_of_ble_eq_true rfl, Nat.le_of_ble_eq_true rfl⟩) ⟨fun a U g mk q => by obtain ⟨q0, q1, qP, qK, qD⟩ := q; exact ⟨q0, q1, qP, va_K.moved (u := U) (U := U.calling g mk a) (Vm.Alike.refl U.vm) qK, qD⟩, va_recv hK hPc (ci := 4) (q0 := 0) rfl rfl, fun U hU hW => ⟨rfl, by rw [hU], by rw [hU]; exact hPc, va_K.moved hW.alike hK, hDc.weaken (fun _ _ _ _ => trivial)⟩⟩ rfl rfl hl.1 rfl (lv_room (Nat.le_of_ble_eq_true rfl)) nd_Main_sendEvent_48 ⟨Nat.zero_le _, Nat.zero_le _⟩) hS (fun q _ h => hFc q h) hFc (fun r_7 u t H1 locs ht hvm hw hB hz1 hk1 hS => ?_)
      obtain ⟨hP1, hK1, hD1⟩ := hB
      rw [ht] at hP1
      have w_8 := hw
      try rw [← w_8] at hM
      have hP := hP1
      have hD := cr_Dw hD1 hFc
      generalize H1 = H at hP hS ⊢
      refine lv_if_eq (tgt := 58) hx hb nd_Main_sendEvent_51 (by decide) (fun c_9 => ?_) (fun c_9 => ?_)
      · have c_9t := cr_eq c_9
        rw [if_pos c_9] at hM
        refine lv_iconst (v := 0) hx hb nd_Main_sendEvent_58 (by decide) ?_
        exact W.iret (v := (0 : Int32)) hx hb hr (fun t ht hW => ⟨⟨(0 : Int32), (mnq_6, lt, bd), rfl, ⟨by rw [hT, ← hM], by rw [hT, ← hM], by rw [hT, ← hM], by rw [hT, ← hM], hR_bd⟩, by rw [ht]; exact hP, va_K.moved hW.alike hK, hD⟩, hS.F ht⟩) hS.2.2 nd_Main_sendEvent_59
      · have c_9t := cr_ne c_9
        rw [if_neg c_9] at hM
        refine lv_iconst (v := 1) hx hb nd_Main_sendEvent_54 (by decide) ?_
        refine lv_goto (tgt := 59) hx hb nd_Main_sendEvent_55 (by decide) ?_
        exact W.iret (v := (1 : Int32)) hx hb hr (fun t ht hW => ⟨⟨(1 : Int32), (mnq_6, lt, bd), rfl, ⟨by rw [hT, ← hM], by rw [hT, ← hM], by rw [hT, ← hM], by rw [hT, ← hM], hR_bd⟩, by rw [ht]; exact hP, va_K.moved hW.alike hK, hD⟩, hS.F ht⟩) hS.2.2 nd_Main_sendEvent_59
    · have c_4t := cr_eq c_4
      rw [if_pos c_4] at hM
      refine lv_aload_n hx hb nd_Main_sendEvent_28 rfl (lv_at hl 0 rfl) ?_
      refine va_get (D := (dC, dI)) (ci := 4) (v := .ref (abd 0)) (C := "CeilingRows") (T := nf_Main) (N := 6) hx hb hts nin_Main hown hK hP 0 rfl rfl 1 (by decide) (hts _ tw_139) (fun _ h9 => h9) rfl nd_Main_sendEvent_29 ?_
      refine lv_iload_n hx hb nd_Main_sendEvent_32 rfl (lv_at hl 1 rfl) ?_
      have hPc := hP.sub (ws' := cw_Plan cI cZ cO apl pl ++ cw_Board cI cZ cO abd apl bd) [2, 3, 4, 5, 6, 7, 8, 9, 10, 11, 12, 13, 14, 15, 16, 17, 18, 19, 20, 21, 22, 23, 24] rfl
      have hDc := hD.sub (ws' := cw_Plan cI cZ cO apl pl ++ cw_Board cI cZ cO abd apl bd) [2, 3, 4, 5, 6, 7, 8, 9, 10, 11, 12, 13, 14, 15, 16, 17, 18, 19, 20, 21, 22, 23, 24] (by decide) rfl
      have hFc := va_free (wc := cw_Plan cI cZ cO apl pl ++ cw_Board cI cZ cO abd apl bd) hD hS hA [2, 3, 4, 5, 6, 7, 8, 9, 10, 11, 12, 13, 14, 15, 16, 17, 18, 19, 20, 21, 22, 23, 24] rfl
      refine va_callv (va_runV (As := [.int x1]) (rest := []) ⟨hx, hb, hml, hown, hts⟩ (ct_Board_makeReady l dC dI cI cZ cO apl abd s.heap.size pl bd x1 hR_bd hR_pl (by omega)) (cwV 1 hts (ng_V tw_226 tw_227 tw_228 tw_3 tw_229) rfl rfl rfl (by decide +kernel) ⟨Nat.le_of_ble_eq_true rfl, Nat.le_of_ble_eq_true rfl⟩) ⟨fun a U g mk q => by obtain ⟨q0, q1, qP, qK, qD⟩ := q; exact ⟨q0, q1, qP, va_K.moved (u := U) (U := U.calling g mk a) (Vm.Alike.refl U.vm) qK, qD⟩, va_recv hK hPc (ci := 1) (q0 := 17) rfl rfl, fun U hU hW => ⟨rfl, by rw [hU], by rw [hU]; exact hPc, va_K.moved hW.alike hK, hDc.weaken (fun _ _ _ _ => trivial)⟩⟩ rfl rfl hl.1 rfl (lv_room (Nat.le_of_ble_eq_true rfl)) nd_Main_sendEvent_33 ⟨Nat.zero_le _, Nat.zero_le _⟩) hS (fun q _ h => hFc q h) hFc (fun u t H1 locs ht hvm hw hB hz1 hk1 hS => ?_)
      obtain ⟨hP1, hK1, hD1⟩ := hB
      rw [ht] at hP1
      obtain ⟨bdq_11, rfl⟩ : ∃ z, z = u := ⟨_, rfl⟩
      obtain ⟨w_12, hR_13⟩ := hw
      try rw [← w_12] at hM
      obtain ⟨hP, hD⟩ := va_join (wr := cw_Main cI cZ cO amn apl abd alk atr mn lt ++ cw_Locks cI cZ cO alk lk ++ cw_Trial cI cZ cO atr apl atb tr ++ cw_Board cI cZ cO atb apl tb) (w1 := cw_Plan cI cZ cO apl pl ++ cw_Board cI cZ cO abd apl bdq_11) hP hD [2, 3, 4, 5, 6, 7, 8, 9, 10, 11, 12, 13, 14, 15, 16, 17, 18, 19, 20, 21, 22, 23, 24] [0, 1, 25, 26, 27, 28, 29, 30, 31, 32, 33, 34, 35, 36, 37, 38, 39, 40, 41, 42, 43, 44, 45, 46, 47, 48] rfl rfl (by decide) (by decide) hk1 hFc hP1 hD1
      have hP := hP.sub (ws' := cw_Main cI cZ cO amn apl abd alk atr mn lt ++ cw_Plan cI cZ cO apl pl ++ cw_Board cI cZ cO abd apl bdq_11 ++ cw_Locks cI cZ cO alk lk ++ cw_Trial cI cZ cO atr apl atb tr ++ cw_Board cI cZ cO atb apl tb) [0, 1, 26, 27, 28, 29, 30, 31, 32, 33, 34, 35, 36, 37, 38, 39, 40, 41, 42, 43, 44, 45, 46, 47, 48, 2, 3, 4, 5, 6, 7, 8, 9, 10, 11, 12, 13, 14, 15, 16, 17, 18, 19, 20, 21, 22, 23, 24, 25] rfl
      have hD := hD.sub (ws' := cw_Main cI cZ cO amn apl abd alk atr mn lt ++ cw_Plan cI cZ cO apl pl ++ cw_Board cI cZ cO abd apl bdq_11 ++ cw_Locks cI cZ cO alk lk ++ cw_Trial cI cZ cO atr apl atb tr ++ cw_Board cI cZ cO atb apl tb) [0, 1, 26, 27, 28, 29, 30, 31, 32, 33, 34, 35, 36, 37, 38, 39, 40, 41, 42, 43, 44, 45, 46, 47, 48, 2, 3, 4, 5, 6, 7, 8, 9, 10, 11, 12, 13, 14, 15, 16, 17, 18, 19, 20, 21, 22, 23, 24, 25] (by decide) rfl
      generalize H1 = H at hP hS ⊢
      refine lv_goto (tgt := 46) hx hb nd_Main_sendEvent_36 (by decide) ?_
      refine lv_aload_n hx hb nd_Main_sendEvent_46 rfl (lv_at hl 0 rfl) ?_
      refine lv_iload_n hx hb nd_Main_sendEvent_47 rfl (lv_at hl 1 rfl) ?_
      have hPc := hP
      have hDc := hD
      have hFc := va_free (wc := cw_Main cI cZ cO amn apl abd alk atr mn lt ++ cw_Plan cI cZ cO apl pl ++ cw_Board cI cZ cO abd apl bdq_11 ++ cw_Locks cI cZ cO alk lk ++ cw_Trial cI cZ cO atr apl atb tr ++ cw_Board cI cZ cO atb apl tb) hD hS hA [0, 1, 2, 3, 4, 5, 6, 7, 8, 9, 10, 11, 12, 13, 14, 15, 16, 17, 18, 19, 20, 21, 22, 23, 24, 25, 26, 27, 28, 29, 30, 31, 32, 33, 34, 35, 36, 37, 38, 39, 40, 41, 42, 43, 44, 45, 46, 47, 48] rfl
      refine va_calli (va_runV (As := [.int x1]) (rest := []) ⟨hx, hb, hml, hown, hts⟩ (ct_Main_runs l dC dI cI cZ cO amn apl abd alk atr atb H.size mn lt pl bdq_11 lk tr tb x1 hR_tb hR_lk hR_13 hR_pl (by omega)) (cwV 1 hts (ng_V tw_230 tw_232 tp_2 tw_1 tw_233) rfl rfl rfl (by decide +kernel) ⟨Nat.le_of_ble_eq_true rfl, Nat.le_of_ble_eq_true rfl⟩) ⟨fun a U g mk q => by obtain ⟨q0, q1, qP, qK, qD⟩ := q; exact ⟨q0, q1, qP, va_K.moved (u := U) (U := U.calling g mk a) (Vm.Alike.refl U.vm) qK, qD⟩, va_recv hK hPc (ci := 4) (q0 := 0) rfl rfl, fun U hU hW => ⟨rfl, by rw [hU], by rw [hU]; exact hPc, va_K.moved hW.alike hK, hDc.weaken (fun _ _ _ _ => trivial)⟩⟩ rfl rfl hl.1 rfl (lv_room (Nat.le_of_ble_eq_true rfl)) nd_Main_sendEvent_48 ⟨Nat.zero_le _, Nat.zero_le _⟩) hS (fun q _ h => hFc q h) hFc (fun r_14 u t H1 locs ht hvm hw hB hz1 hk1 hS => ?_)
      obtain ⟨hP1, hK1, hD1⟩ := hB
      rw [ht] at hP1
      have w_15 := hw
      try rw [← w_15] at hM
      have hP := hP1
      have hD := cr_Dw hD1 hFc
      generalize H1 = H at hP hS ⊢
      refine lv_if_eq (tgt := 58) hx hb nd_Main_sendEvent_51 (by decide) (fun c_16 => ?_) (fun c_16 => ?_)
      · have c_16t := cr_eq c_16
        rw [if_pos c_16] at hM
        refine lv_iconst (v := 0) hx hb nd_Main_sendEvent_58 (by decide) ?_
        exact W.iret (v := (0 : Int32)) hx hb hr (fun t ht hW => ⟨⟨(0 : Int32), (mn, lt, bdq_11), rfl, ⟨by rw [hT, ← hM], by rw [hT, ← hM], by rw [hT, ← hM], by rw [hT, ← hM], hR_13⟩, by rw [ht]; exact hP, va_K.moved hW.alike hK, hD⟩, hS.F ht⟩) hS.2.2 nd_Main_sendEvent_59
      · have c_16t := cr_ne c_16
        rw [if_neg c_16] at hM
        refine lv_iconst (v := 1) hx hb nd_Main_sendEvent_54 (by decide) ?_
        refine lv_goto (tgt := 59) hx hb nd_Main_sendEvent_55 (by decide) ?_
        exact W.iret (v := (1 : Int32)) hx hb hr (fun t ht hW => ⟨⟨(1 : Int32), (mn, lt, bdq_11), rfl, ⟨by rw [hT, ← hM], by rw [hT, ← hM], by rw [hT, ← hM], by rw [hT, ← hM], hR_13⟩, by rw [ht]; exact hP, va_K.moved hW.alike hK, hD⟩, hS.F ht⟩) hS.2.2 nd_Main_sendEvent_59
  · have c_2t := cr_eq c_2
    rw [if_pos c_2] at hM
    refine lv_bipush (v := -3) hx hb nd_Main_sendEvent_12 (by decide) ?_
    exact W.iret (v := (-3 : Int32)) hx hb hr (fun t ht hW => ⟨⟨(-3 : Int32), (mn, lt, bd), rfl, ⟨by rw [hT, ← hM], by rw [hT, ← hM], by rw [hT, ← hM], by rw [hT, ← hM], hR_bd⟩, by rw [ht]; exact hP, va_K.moved hW.alike hK, hD⟩, hS.F ht⟩) hS.2.2 nd_Main_sendEvent_14

theorem nd_Main_takeResource_0 : decode prog_1_method_19_code 0 = .ok (.aload_n 0, 1) := by decide +kernel
theorem nd_Main_takeResource_1 : decode prog_1_method_19_code 1 = .ok (.getfield 12, 3) := by decide +kernel
theorem nd_Main_takeResource_4 : decode prog_1_method_19_code 4 = .ok (.iload_n 1, 1) := by decide +kernel
theorem nd_Main_takeResource_5 : decode prog_1_method_19_code 5 = .ok (.iload_n 2, 1) := by decide +kernel
theorem nd_Main_takeResource_6 : decode prog_1_method_19_code 6 = .ok (.invokevirtual 85, 3) := by decide +kernel
theorem nd_Main_takeResource_9 : decode prog_1_method_19_code 9 = .ok (.ifCond .ne (6), 3) := by decide +kernel
theorem nd_Main_takeResource_12 : decode prog_1_method_19_code 12 = .ok (.bipush (-11), 2) := by decide +kernel
theorem nd_Main_takeResource_14 : decode prog_1_method_19_code 14 = .ok (.ireturn, 1) := by decide +kernel
theorem nd_Main_takeResource_15 : decode prog_1_method_19_code 15 = .ok (.aload_n 0, 1) := by decide +kernel
theorem nd_Main_takeResource_16 : decode prog_1_method_19_code 16 = .ok (.getfield 21, 3) := by decide +kernel
theorem nd_Main_takeResource_19 : decode prog_1_method_19_code 19 = .ok (.getfield 105, 3) := by decide +kernel
theorem nd_Main_takeResource_22 : decode prog_1_method_19_code 22 = .ok (.iload_n 2, 1) := by decide +kernel
theorem nd_Main_takeResource_23 : decode prog_1_method_19_code 23 = .ok (.iaload, 1) := by decide +kernel
theorem nd_Main_takeResource_24 : decode prog_1_method_19_code 24 = .ok (.iload_n 1, 1) := by decide +kernel
theorem nd_Main_takeResource_25 : decode prog_1_method_19_code 25 = .ok (.if_icmp .ne (6), 3) := by decide +kernel
theorem nd_Main_takeResource_28 : decode prog_1_method_19_code 28 = .ok (.bipush (-12), 2) := by decide +kernel
theorem nd_Main_takeResource_30 : decode prog_1_method_19_code 30 = .ok (.ireturn, 1) := by decide +kernel
theorem nd_Main_takeResource_31 : decode prog_1_method_19_code 31 = .ok (.aload_n 0, 1) := by decide +kernel
theorem nd_Main_takeResource_32 : decode prog_1_method_19_code 32 = .ok (.getfield 21, 3) := by decide +kernel
theorem nd_Main_takeResource_35 : decode prog_1_method_19_code 35 = .ok (.iload_n 1, 1) := by decide +kernel
theorem nd_Main_takeResource_36 : decode prog_1_method_19_code 36 = .ok (.iload_n 2, 1) := by decide +kernel
theorem nd_Main_takeResource_37 : decode prog_1_method_19_code 37 = .ok (.invokevirtual 165, 3) := by decide +kernel
theorem nd_Main_takeResource_40 : decode prog_1_method_19_code 40 = .ok (.iconst 1, 1) := by decide +kernel
theorem nd_Main_takeResource_41 : decode prog_1_method_19_code 41 = .ok (.ireturn, 1) := by decide +kernel
def md_Main_takeResource (mn : cr_S) (lt : Int64) (pl : cr_S) (bd : cr_S) (lk : cr_S) (tr : cr_S) (tb : cr_S) (x1 : Int32) (x2 : Int32) : Int32 × cr_S :=
  (if (md_Plan_isUsedBy pl x1 x2) = 0 then ((-11 : Int32), bd) else (if (bd 4 x2.toNatClampNeg) = x1 then ((-12 : Int32), bd) else ((1 : Int32), (md_Board_take pl bd x1 x2))))
abbrev pq_Main_takeResource (dC : Nat → ClassId) (dI : Nat → Nat → Nat) (cI cZ cO : ClassId) (amn apl abd alk atr atb : Nat → Nat) (mn : cr_S) (lt : Int64) (pl : cr_S) (bd : cr_S) (lk : cr_S) (tr : cr_S) (tb : cr_S) (x1 : Int32) (x2 : Int32) (A : Nat → Prop) : Array Value → State → Outcome → State → Prop :=
  va_Qi (fun (r : Int32) (bd' : cr_S) => r = (md_Main_takeResource mn lt pl bd lk tr tb x1 x2).1 ∧ bd' = (md_Main_takeResource mn lt pl bd lk tr tb x1 x2).2 ∧ cr_RBoard bd') (fun (bd' : cr_S) t => va_P (dC, dI) vwCl (cw_Main cI cZ cO amn apl abd alk atr mn lt ++ cw_Plan cI cZ cO apl pl ++ cw_Board cI cZ cO abd apl bd' ++ cw_Locks cI cZ cO alk lk ++ cw_Trial cI cZ cO atr apl atb tr ++ cw_Board cI cZ cO atb apl tb) t.heap ∧ va_K (dC, dI) vwCl [(cI, .int), (cZ, .boolean), (cO, .array .int)] t ∧ va_D A (cw_Main cI cZ cO amn apl abd alk atr mn lt ++ cw_Plan cI cZ cO apl pl ++ cw_Board cI cZ cO abd apl bd' ++ cw_Locks cI cZ cO alk lk ++ cw_Trial cI cZ cO atr apl atb tr ++ cw_Board cI cZ cO atb apl tb)) A
set_option maxHeartbeats 4000000 in
set_option maxRecDepth 100000 in
theorem ct_Main_takeResource (l : Launch) (dC : Nat → ClassId) (dI : Nat → Nat → Nat) (cI cZ cO : ClassId) (amn apl abd alk atr atb : Nat → Nat) (sz : Nat) (mn : cr_S) (lt : Int64) (pl : cr_S) (bd : cr_S) (lk : cr_S) (tr : cr_S) (tb : cr_S) (x1 : Int32) (x2 : Int32) (hR_tb : cr_RBoard tb) (hR_lk : cr_RLocks lk) (hR_bd : cr_RBoard bd) (hR_pl : cr_RPlan pl) (hx1 : 0 ≤ x1.toInt ∧ x1.toInt ≤ 10) (hx2 : 0 ≤ x2.toInt ∧ x2.toInt ≤ 8) : Met l ny_Main_takeResource nw_Main_takeResource ({ frames := 1, cells := 0, slots := 0, locals := 22 } : Room) (va_Pc [.ref (amn 0), .int x1, .int x2] (fun U => U.heap.size = sz ∧ va_P (dC, dI) vwCl (cw_Main cI cZ cO amn apl abd alk atr mn lt ++ cw_Plan cI cZ cO apl pl ++ cw_Board cI cZ cO abd apl bd ++ cw_Locks cI cZ cO alk lk ++ cw_Trial cI cZ cO atr apl atb tr ++ cw_Board cI cZ cO atb apl tb) U.heap ∧ va_K (dC, dI) vwCl [(cI, .int), (cZ, .boolean), (cO, .array .int)] U ∧ va_D (fun _ => True) (cw_Main cI cZ cO amn apl abd alk atr mn lt ++ cw_Plan cI cZ cO apl pl ++ cw_Board cI cZ cO abd apl bd ++ cw_Locks cI cZ cO alk lk ++ cw_Trial cI cZ cO atr apl atb tr ++ cw_Board cI cZ cO atb apl tb))) (pq_Main_takeResource dC dI cI cZ cO amn apl abd alk atr atb mn lt pl bd lk tr tb x1 x2 (va_A (cw_Main cI cZ cO amn apl abd alk atr mn lt ++ cw_Plan cI cZ cO apl pl ++ cw_Board cI cZ cO abd apl bd ++ cw_Locks cI cZ cO alk lk ++ cw_Trial cI cZ cO atr apl atb tr ++ cw_Board cI cZ cO atb apl tb) sz)) 0 0 (va_A (cw_Main cI cZ cO amn apl abd alk atr mn lt ++ cw_Plan cI cZ cO apl pl ++ cw_Board cI cZ cO abd apl bd ++ cw_Locks cI cZ cO alk lk ++ cw_Trial cI cZ cO atr apl atb tr ++ cw_Board cI cZ cO atb apl tb) sz) := by
  refine Met.ofW (cc := prog_1_method_19_code) (maxL := 3) (ret := (some .int)) (by decide) rfl ?_
  intro p e s m args below meth c s₁ B hml hv
  obtain ⟨rfl, hsz, hP, hK, hD0⟩ := hv
  have hx := B.exec
  have hb := B.bytes
  have hr := B.returns
  have hts0 := atoms_spec (ws := nw_Main_takeResource) B.pre
  have hts : ∀ w ∈ ng_tbl, w.before ([.ref (amn 0), .int x1, .int x2] : List Value).toArray s = true := fun w h => hts0 w (List.mem_cons_of_mem _ h)
  have hown : s.vm.findClass "CeilingRows" = some m.cls := findClass_of_methodNamed B.named
  have hlocks := B.notSynchronized
  subst hsz
  have hD := hD0.self (sz := s.heap.size)
  generalize hAe : va_A (cw_Main cI cZ cO amn apl abd alk atr mn lt ++ cw_Plan cI cZ cO apl pl ++ cw_Board cI cZ cO abd apl bd ++ cw_Locks cI cZ cO alk lk ++ cw_Trial cI cZ cO atr apl atb tr ++ cw_Board cI cZ cO atb apl tb) s.heap.size = A at hD ⊢
  have hA : ∀ q : Nat, s.heap.size ≤ q → A q := fun q h => by rw [← hAe]; exact Or.inr h
  have hS : va_S A s.heap s.heap [] := va_S.rf
  have hP : va_P (dC, dI) vwCl (cw_Main cI cZ cO amn apl abd alk atr mn lt ++ cw_Plan cI cZ cO apl pl ++ cw_Board cI cZ cO abd apl bd ++ cw_Locks cI cZ cO alk lk ++ cw_Trial cI cZ cO atr apl atb tr ++ cw_Board cI cZ cO atb apl tb) s.heap := hP
  have hl := lv_entry ([.ref (amn 0), .int x1, .int x2]) (n := 3) (Nat.le_of_ble_eq_true rfl)
  rw [lg_entry_eq]
  generalize (lg_sl ([.ref (amn 0), .int x1, .int x2]) ++ List.replicate (3 - (lg_sl ([.ref (amn 0), .int x1, .int x2])).length) Slot.unset).toArray = ls at hl ⊢
  have hl : lv_has ls 3 [(0, .ref (amn 0)), (1, .int x1), (2, .int x2)] := hl
  have f0_pl_0 := cr_rfo hR_pl.1
  have f0_pl_1 := cr_rfo hR_pl.2.1
  have k_m12 : (-12 : Int32).toInt = -12 := by decide
  have k_m11 : (-11 : Int32).toInt = -11 := by decide
  have k_0 : (0 : Int32).toInt = 0 := by decide
  have k_1 : (1 : Int32).toInt = 1 := by decide
  obtain ⟨tgt, hT⟩ : ∃ z, md_Main_takeResource mn lt pl bd lk tr tb x1 x2 = z := ⟨_, rfl⟩
  have hM := hT
  unfold md_Main_takeResource at hM
  refine lv_aload_n hx hb nd_Main_takeResource_0 rfl (lv_at hl 0 rfl) ?_
  refine va_get (D := (dC, dI)) (ci := 4) (v := .ref (apl 0)) (C := "CeilingRows") (T := nf_Main) (N := 6) hx hb hts nin_Main hown hK hP 0 rfl rfl 0 (by decide) (hts _ tw_138) (fun _ h9 => h9) rfl nd_Main_takeResource_1 ?_
  refine lv_iload_n hx hb nd_Main_takeResource_4 rfl (lv_at hl 1 rfl) ?_
  refine lv_iload_n hx hb nd_Main_takeResource_5 rfl (lv_at hl 2 rfl) ?_
  have hPc := hP.sub (ws' := cw_Plan cI cZ cO apl pl) [2, 3, 4, 5, 6, 7, 8, 9, 10, 11, 12, 13, 14, 15, 16, 17, 18] rfl
  have hDc := hD.sub (ws' := cw_Plan cI cZ cO apl pl) [2, 3, 4, 5, 6, 7, 8, 9, 10, 11, 12, 13, 14, 15, 16, 17, 18] (by decide) rfl
  have hFc := va_free (wc := cw_Plan cI cZ cO apl pl) hD hS hA [2, 3, 4, 5, 6, 7, 8, 9, 10, 11, 12, 13, 14, 15, 16, 17, 18] rfl
  refine va_calli (va_runV (As := [.int x1, .int x2]) (rest := []) ⟨hx, hb, hml, hown, hts⟩ (ct_Plan_isUsedBy l dC dI cI cZ cO apl s.heap.size pl x1 x2 hR_pl (by omega) (by omega)) (cwV 2 hts (ng_V tw_198 tw_199 tw_200 tw_2 tw_201) rfl rfl rfl (by decide +kernel) ⟨Nat.le_of_ble_eq_true rfl, Nat.le_of_ble_eq_true rfl⟩) ⟨fun a U g mk q => by obtain ⟨q0, q1, qP, qK, qD⟩ := q; exact ⟨q0, q1, qP, va_K.moved (u := U) (U := U.calling g mk a) (Vm.Alike.refl U.vm) qK, qD⟩, va_recv hK hPc (ci := 0) (q0 := 0) rfl rfl, fun U hU hW => ⟨rfl, by rw [hU], by rw [hU]; exact hPc, va_K.moved hW.alike hK, hDc.weaken (fun _ _ _ _ => trivial)⟩⟩ rfl rfl hl.1 rfl (lv_room (Nat.le_of_ble_eq_true rfl)) nd_Main_takeResource_6 ⟨Nat.zero_le _, Nat.zero_le _⟩) hS (fun q _ h => hFc q h) hFc (fun r_1 u t H1 locs ht hvm hw hB hz1 hk1 hS => ?_)
  obtain ⟨hP1, hK1, hD1⟩ := hB
  rw [ht] at hP1
  have w_2 := hw
  try rw [← w_2] at hM
  obtain ⟨hP, hD⟩ := va_join (wr := cw_Main cI cZ cO amn apl abd alk atr mn lt ++ cw_Board cI cZ cO abd apl bd ++ cw_Locks cI cZ cO alk lk ++ cw_Trial cI cZ cO atr apl atb tr ++ cw_Board cI cZ cO atb apl tb) (w1 := cw_Plan cI cZ cO apl pl) hP hD [2, 3, 4, 5, 6, 7, 8, 9, 10, 11, 12, 13, 14, 15, 16, 17, 18] [0, 1, 19, 20, 21, 22, 23, 24, 25, 26, 27, 28, 29, 30, 31, 32, 33, 34, 35, 36, 37, 38, 39, 40, 41, 42, 43, 44, 45, 46, 47, 48] rfl rfl (by decide) (by decide) hk1 hFc hP1 hD1
  have hP := hP.sub (ws' := cw_Main cI cZ cO amn apl abd alk atr mn lt ++ cw_Plan cI cZ cO apl pl ++ cw_Board cI cZ cO abd apl bd ++ cw_Locks cI cZ cO alk lk ++ cw_Trial cI cZ cO atr apl atb tr ++ cw_Board cI cZ cO atb apl tb) [0, 1, 32, 33, 34, 35, 36, 37, 38, 39, 40, 41, 42, 43, 44, 45, 46, 47, 48, 2, 3, 4, 5, 6, 7, 8, 9, 10, 11, 12, 13, 14, 15, 16, 17, 18, 19, 20, 21, 22, 23, 24, 25, 26, 27, 28, 29, 30, 31] rfl
  have hD := hD.sub (ws' := cw_Main cI cZ cO amn apl abd alk atr mn lt ++ cw_Plan cI cZ cO apl pl ++ cw_Board cI cZ cO abd apl bd ++ cw_Locks cI cZ cO alk lk ++ cw_Trial cI cZ cO atr apl atb tr ++ cw_Board cI cZ cO atb apl tb) [0, 1, 32, 33, 34, 35, 36, 37, 38, 39, 40, 41, 42, 43, 44, 45, 46, 47, 48, 2, 3, 4, 5, 6, 7, 8, 9, 10, 11, 12, 13, 14, 15, 16, 17, 18, 19, 20, 21, 22, 23, 24, 25, 26, 27, 28, 29, 30, 31] (by decide) rfl
  generalize H1 = H at hP hS ⊢
  refine lv_if_ne (tgt := 15) hx hb nd_Main_takeResource_9 (by decide) (fun c_3 => ?_) (fun c_3 => ?_)
  · have c_3t := cr_ne c_3
    rw [if_neg c_3] at hM
    refine lv_aload_n hx hb nd_Main_takeResource_15 rfl (lv_at hl 0 rfl) ?_
    refine va_get (D := (dC, dI)) (ci := 4) (v := .ref (abd 0)) (C := "CeilingRows") (T := nf_Main) (N := 6) hx hb hts nin_Main hown hK hP 0 rfl rfl 1 (by decide) (hts _ tw_139) (fun _ h9 => h9) rfl nd_Main_takeResource_16 ?_
    refine va_get (D := (dC, dI)) (ci := 1) (v := .ref (abd 4)) (C := "CeilingRows$Board") (T := nf_Board) (N := 7) hx hb hts nin_Board hown hK hP 19 rfl rfl 5 (by decide) (hts _ tw_77) (fun _ h9 => h9) rfl nd_Main_takeResource_19 ?_
    refine lv_iload_n hx hb nd_Main_takeResource_22 rfl (lv_at hl 2 rfl) ?_
    have b_4 : vp_in x2 9 := vp_in_iff.mpr (by omega)
    refine va_iald hx hb hK hP 23 0 rfl rfl b_4 nd_Main_takeResource_23 ?_
    refine lv_iload_n hx hb nd_Main_takeResource_24 rfl (lv_at hl 1 rfl) ?_
    refine lv_icmp_ne (tgt := 31) hx hb nd_Main_takeResource_25 (by decide) (fun c_5 => ?_) (fun c_5 => ?_)
    · have c_5t := cr_ne c_5
      rw [if_neg c_5] at hM
      refine lv_aload_n hx hb nd_Main_takeResource_31 rfl (lv_at hl 0 rfl) ?_
      refine va_get (D := (dC, dI)) (ci := 4) (v := .ref (abd 0)) (C := "CeilingRows") (T := nf_Main) (N := 6) hx hb hts nin_Main hown hK hP 0 rfl rfl 1 (by decide) (hts _ tw_139) (fun _ h9 => h9) rfl nd_Main_takeResource_32 ?_
      refine lv_iload_n hx hb nd_Main_takeResource_35 rfl (lv_at hl 1 rfl) ?_
      refine lv_iload_n hx hb nd_Main_takeResource_36 rfl (lv_at hl 2 rfl) ?_
      have hPc := hP.sub (ws' := cw_Plan cI cZ cO apl pl ++ cw_Board cI cZ cO abd apl bd) [2, 3, 4, 5, 6, 7, 8, 9, 10, 11, 12, 13, 14, 15, 16, 17, 18, 19, 20, 21, 22, 23, 24] rfl
      have hDc := hD.sub (ws' := cw_Plan cI cZ cO apl pl ++ cw_Board cI cZ cO abd apl bd) [2, 3, 4, 5, 6, 7, 8, 9, 10, 11, 12, 13, 14, 15, 16, 17, 18, 19, 20, 21, 22, 23, 24] (by decide) rfl
      have hFc := va_free (wc := cw_Plan cI cZ cO apl pl ++ cw_Board cI cZ cO abd apl bd) hD hS hA [2, 3, 4, 5, 6, 7, 8, 9, 10, 11, 12, 13, 14, 15, 16, 17, 18, 19, 20, 21, 22, 23, 24] rfl
      refine va_callv (va_runV (As := [.int x1, .int x2]) (rest := []) ⟨hx, hb, hml, hown, hts⟩ (ct_Board_take l dC dI cI cZ cO apl abd H.size pl bd x1 x2 hR_bd hR_pl (by omega) (by omega)) (cwV 2 hts (ng_V tw_255 tw_256 tw_257 tw_3 tw_258) rfl rfl rfl (by decide +kernel) ⟨Nat.le_of_ble_eq_true rfl, Nat.le_of_ble_eq_true rfl⟩) ⟨fun a U g mk q => by obtain ⟨q0, q1, qP, qK, qD⟩ := q; exact ⟨q0, q1, qP, va_K.moved (u := U) (U := U.calling g mk a) (Vm.Alike.refl U.vm) qK, qD⟩, va_recv hK hPc (ci := 1) (q0 := 17) rfl rfl, fun U hU hW => ⟨rfl, by rw [hU], by rw [hU]; exact hPc, va_K.moved hW.alike hK, hDc.weaken (fun _ _ _ _ => trivial)⟩⟩ rfl rfl hl.1 rfl (lv_room (Nat.le_of_ble_eq_true rfl)) nd_Main_takeResource_37 ⟨Nat.zero_le _, Nat.zero_le _⟩) hS (fun q _ h => hFc q h) hFc (fun u t H1 locs ht hvm hw hB hz1 hk1 hS => ?_)
      obtain ⟨hP1, hK1, hD1⟩ := hB
      rw [ht] at hP1
      obtain ⟨bdq_7, rfl⟩ : ∃ z, z = u := ⟨_, rfl⟩
      obtain ⟨w_8, hR_9⟩ := hw
      try rw [← w_8] at hM
      obtain ⟨hP, hD⟩ := va_join (wr := cw_Main cI cZ cO amn apl abd alk atr mn lt ++ cw_Locks cI cZ cO alk lk ++ cw_Trial cI cZ cO atr apl atb tr ++ cw_Board cI cZ cO atb apl tb) (w1 := cw_Plan cI cZ cO apl pl ++ cw_Board cI cZ cO abd apl bdq_7) hP hD [2, 3, 4, 5, 6, 7, 8, 9, 10, 11, 12, 13, 14, 15, 16, 17, 18, 19, 20, 21, 22, 23, 24] [0, 1, 25, 26, 27, 28, 29, 30, 31, 32, 33, 34, 35, 36, 37, 38, 39, 40, 41, 42, 43, 44, 45, 46, 47, 48] rfl rfl (by decide) (by decide) hk1 hFc hP1 hD1
      have hP := hP.sub (ws' := cw_Main cI cZ cO amn apl abd alk atr mn lt ++ cw_Plan cI cZ cO apl pl ++ cw_Board cI cZ cO abd apl bdq_7 ++ cw_Locks cI cZ cO alk lk ++ cw_Trial cI cZ cO atr apl atb tr ++ cw_Board cI cZ cO atb apl tb) [0, 1, 26, 27, 28, 29, 30, 31, 32, 33, 34, 35, 36, 37, 38, 39, 40, 41, 42, 43, 44, 45, 46, 47, 48, 2, 3, 4, 5, 6, 7, 8, 9, 10, 11, 12, 13, 14, 15, 16, 17, 18, 19, 20, 21, 22, 23, 24, 25] rfl
      have hD := hD.sub (ws' := cw_Main cI cZ cO amn apl abd alk atr mn lt ++ cw_Plan cI cZ cO apl pl ++ cw_Board cI cZ cO abd apl bdq_7 ++ cw_Locks cI cZ cO alk lk ++ cw_Trial cI cZ cO atr apl atb tr ++ cw_Board cI cZ cO atb apl tb) [0, 1, 26, 27, 28, 29, 30, 31, 32, 33, 34, 35, 36, 37, 38, 39, 40, 41, 42, 43, 44, 45, 46, 47, 48, 2, 3, 4, 5, 6, 7, 8, 9, 10, 11, 12, 13, 14, 15, 16, 17, 18, 19, 20, 21, 22, 23, 24, 25] (by decide) rfl
      generalize H1 = H at hP hS ⊢
      refine lv_iconst (v := 1) hx hb nd_Main_takeResource_40 (by decide) ?_
      exact W.iret (v := (1 : Int32)) hx hb hr (fun t ht hW => ⟨⟨(1 : Int32), bdq_7, rfl, ⟨by rw [hT, ← hM], by rw [hT, ← hM], hR_9⟩, by rw [ht]; exact hP, va_K.moved hW.alike hK, hD⟩, hS.F ht⟩) hS.2.2 nd_Main_takeResource_41
    · have c_5t := cr_eq c_5
      rw [if_pos c_5] at hM
      refine lv_bipush (v := -12) hx hb nd_Main_takeResource_28 (by decide) ?_
      exact W.iret (v := (-12 : Int32)) hx hb hr (fun t ht hW => ⟨⟨(-12 : Int32), bd, rfl, ⟨by rw [hT, ← hM], by rw [hT, ← hM], hR_bd⟩, by rw [ht]; exact hP, va_K.moved hW.alike hK, hD⟩, hS.F ht⟩) hS.2.2 nd_Main_takeResource_30
  · have c_3t := cr_eq c_3
    rw [if_pos c_3] at hM
    refine lv_bipush (v := -11) hx hb nd_Main_takeResource_12 (by decide) ?_
    exact W.iret (v := (-11 : Int32)) hx hb hr (fun t ht hW => ⟨⟨(-11 : Int32), bd, rfl, ⟨by rw [hT, ← hM], by rw [hT, ← hM], hR_bd⟩, by rw [ht]; exact hP, va_K.moved hW.alike hK, hD⟩, hS.F ht⟩) hS.2.2 nd_Main_takeResource_14

theorem nd_Main_giveBackResource_0 : decode prog_1_method_20_code 0 = .ok (.aload_n 0, 1) := by decide +kernel
theorem nd_Main_giveBackResource_1 : decode prog_1_method_20_code 1 = .ok (.getfield 21, 3) := by decide +kernel
theorem nd_Main_giveBackResource_4 : decode prog_1_method_20_code 4 = .ok (.getfield 169, 3) := by decide +kernel
theorem nd_Main_giveBackResource_7 : decode prog_1_method_20_code 7 = .ok (.iload_n 1, 1) := by decide +kernel
theorem nd_Main_giveBackResource_8 : decode prog_1_method_20_code 8 = .ok (.iaload, 1) := by decide +kernel
theorem nd_Main_giveBackResource_9 : decode prog_1_method_20_code 9 = .ok (.iload_n 2, 1) := by decide +kernel
theorem nd_Main_giveBackResource_10 : decode prog_1_method_20_code 10 = .ok (.if_icmp .eq (6), 3) := by decide +kernel
theorem nd_Main_giveBackResource_13 : decode prog_1_method_20_code 13 = .ok (.bipush (-13), 2) := by decide +kernel
theorem nd_Main_giveBackResource_15 : decode prog_1_method_20_code 15 = .ok (.ireturn, 1) := by decide +kernel
theorem nd_Main_giveBackResource_16 : decode prog_1_method_20_code 16 = .ok (.aload_n 0, 1) := by decide +kernel
theorem nd_Main_giveBackResource_17 : decode prog_1_method_20_code 17 = .ok (.getfield 21, 3) := by decide +kernel
theorem nd_Main_giveBackResource_20 : decode prog_1_method_20_code 20 = .ok (.iload_n 1, 1) := by decide +kernel
theorem nd_Main_giveBackResource_21 : decode prog_1_method_20_code 21 = .ok (.invokevirtual 172, 3) := by decide +kernel
theorem nd_Main_giveBackResource_24 : decode prog_1_method_20_code 24 = .ok (.iconst 1, 1) := by decide +kernel
theorem nd_Main_giveBackResource_25 : decode prog_1_method_20_code 25 = .ok (.ireturn, 1) := by decide +kernel
def md_Main_giveBackResource (mn : cr_S) (lt : Int64) (pl : cr_S) (bd : cr_S) (lk : cr_S) (tr : cr_S) (tb : cr_S) (x1 : Int32) (x2 : Int32) : Int32 × cr_S :=
  (if (bd 3 x1.toNatClampNeg) = x2 then ((1 : Int32), (md_Board_giveBackLast pl bd x1)) else ((-13 : Int32), bd))
abbrev pq_Main_giveBackResource (dC : Nat → ClassId) (dI : Nat → Nat → Nat) (cI cZ cO : ClassId) (amn apl abd alk atr atb : Nat → Nat) (mn : cr_S) (lt : Int64) (pl : cr_S) (bd : cr_S) (lk : cr_S) (tr : cr_S) (tb : cr_S) (x1 : Int32) (x2 : Int32) (A : Nat → Prop) : Array Value → State → Outcome → State → Prop :=
  va_Qi (fun (r : Int32) (bd' : cr_S) => r = (md_Main_giveBackResource mn lt pl bd lk tr tb x1 x2).1 ∧ bd' = (md_Main_giveBackResource mn lt pl bd lk tr tb x1 x2).2 ∧ cr_RBoard bd') (fun (bd' : cr_S) t => va_P (dC, dI) vwCl (cw_Main cI cZ cO amn apl abd alk atr mn lt ++ cw_Plan cI cZ cO apl pl ++ cw_Board cI cZ cO abd apl bd' ++ cw_Locks cI cZ cO alk lk ++ cw_Trial cI cZ cO atr apl atb tr ++ cw_Board cI cZ cO atb apl tb) t.heap ∧ va_K (dC, dI) vwCl [(cI, .int), (cZ, .boolean), (cO, .array .int)] t ∧ va_D A (cw_Main cI cZ cO amn apl abd alk atr mn lt ++ cw_Plan cI cZ cO apl pl ++ cw_Board cI cZ cO abd apl bd' ++ cw_Locks cI cZ cO alk lk ++ cw_Trial cI cZ cO atr apl atb tr ++ cw_Board cI cZ cO atb apl tb)) A
set_option maxHeartbeats 4000000 in
set_option maxRecDepth 100000 in
theorem ct_Main_giveBackResource (l : Launch) (dC : Nat → ClassId) (dI : Nat → Nat → Nat) (cI cZ cO : ClassId) (amn apl abd alk atr atb : Nat → Nat) (sz : Nat) (mn : cr_S) (lt : Int64) (pl : cr_S) (bd : cr_S) (lk : cr_S) (tr : cr_S) (tb : cr_S) (x1 : Int32) (x2 : Int32) (hR_tb : cr_RBoard tb) (hR_lk : cr_RLocks lk) (hR_bd : cr_RBoard bd) (hR_pl : cr_RPlan pl) (hx1 : 0 ≤ x1.toInt ∧ x1.toInt ≤ 10) : Met l ny_Main_giveBackResource nw_Main_giveBackResource ({ frames := 1, cells := 0, slots := 0, locals := 22 } : Room) (va_Pc [.ref (amn 0), .int x1, .int x2] (fun U => U.heap.size = sz ∧ va_P (dC, dI) vwCl (cw_Main cI cZ cO amn apl abd alk atr mn lt ++ cw_Plan cI cZ cO apl pl ++ cw_Board cI cZ cO abd apl bd ++ cw_Locks cI cZ cO alk lk ++ cw_Trial cI cZ cO atr apl atb tr ++ cw_Board cI cZ cO atb apl tb) U.heap ∧ va_K (dC, dI) vwCl [(cI, .int), (cZ, .boolean), (cO, .array .int)] U ∧ va_D (fun _ => True) (cw_Main cI cZ cO amn apl abd alk atr mn lt ++ cw_Plan cI cZ cO apl pl ++ cw_Board cI cZ cO abd apl bd ++ cw_Locks cI cZ cO alk lk ++ cw_Trial cI cZ cO atr apl atb tr ++ cw_Board cI cZ cO atb apl tb))) (pq_Main_giveBackResource dC dI cI cZ cO amn apl abd alk atr atb mn lt pl bd lk tr tb x1 x2 (va_A (cw_Main cI cZ cO amn apl abd alk atr mn lt ++ cw_Plan cI cZ cO apl pl ++ cw_Board cI cZ cO abd apl bd ++ cw_Locks cI cZ cO alk lk ++ cw_Trial cI cZ cO atr apl atb tr ++ cw_Board cI cZ cO atb apl tb) sz)) 0 0 (va_A (cw_Main cI cZ cO amn apl abd alk atr mn lt ++ cw_Plan cI cZ cO apl pl ++ cw_Board cI cZ cO abd apl bd ++ cw_Locks cI cZ cO alk lk ++ cw_Trial cI cZ cO atr apl atb tr ++ cw_Board cI cZ cO atb apl tb) sz) := by
  refine Met.ofW (cc := prog_1_method_20_code) (maxL := 3) (ret := (some .int)) (by decide) rfl ?_
  intro p e s m args below meth c s₁ B hml hv
  obtain ⟨rfl, hsz, hP, hK, hD0⟩ := hv
  have hx := B.exec
  have hb := B.bytes
  have hr := B.returns
  have hts0 := atoms_spec (ws := nw_Main_giveBackResource) B.pre
  have hts : ∀ w ∈ ng_tbl, w.before ([.ref (amn 0), .int x1, .int x2] : List Value).toArray s = true := fun w h => hts0 w (List.mem_cons_of_mem _ h)
  have hown : s.vm.findClass "CeilingRows" = some m.cls := findClass_of_methodNamed B.named
  have hlocks := B.notSynchronized
  subst hsz
  have hD := hD0.self (sz := s.heap.size)
  generalize hAe : va_A (cw_Main cI cZ cO amn apl abd alk atr mn lt ++ cw_Plan cI cZ cO apl pl ++ cw_Board cI cZ cO abd apl bd ++ cw_Locks cI cZ cO alk lk ++ cw_Trial cI cZ cO atr apl atb tr ++ cw_Board cI cZ cO atb apl tb) s.heap.size = A at hD ⊢
  have hA : ∀ q : Nat, s.heap.size ≤ q → A q := fun q h => by rw [← hAe]; exact Or.inr h
  have hS : va_S A s.heap s.heap [] := va_S.rf
  have hP : va_P (dC, dI) vwCl (cw_Main cI cZ cO amn apl abd alk atr mn lt ++ cw_Plan cI cZ cO apl pl ++ cw_Board cI cZ cO abd apl bd ++ cw_Locks cI cZ cO alk lk ++ cw_Trial cI cZ cO atr apl atb tr ++ cw_Board cI cZ cO atb apl tb) s.heap := hP
  have hl := lv_entry ([.ref (amn 0), .int x1, .int x2]) (n := 3) (Nat.le_of_ble_eq_true rfl)
  rw [lg_entry_eq]
  generalize (lg_sl ([.ref (amn 0), .int x1, .int x2]) ++ List.replicate (3 - (lg_sl ([.ref (amn 0), .int x1, .int x2])).length) Slot.unset).toArray = ls at hl ⊢
  have hl : lv_has ls 3 [(0, .ref (amn 0)), (1, .int x1), (2, .int x2)] := hl
  have f0_pl_0 := cr_rfo hR_pl.1
  have f0_pl_1 := cr_rfo hR_pl.2.1
  have k_m13 : (-13 : Int32).toInt = -13 := by decide
  have k_1 : (1 : Int32).toInt = 1 := by decide
  obtain ⟨tgt, hT⟩ : ∃ z, md_Main_giveBackResource mn lt pl bd lk tr tb x1 x2 = z := ⟨_, rfl⟩
  have hM := hT
  unfold md_Main_giveBackResource at hM
  refine lv_aload_n hx hb nd_Main_giveBackResource_0 rfl (lv_at hl 0 rfl) ?_
  refine va_get (D := (dC, dI)) (ci := 4) (v := .ref (abd 0)) (C := "CeilingRows") (T := nf_Main) (N := 6) hx hb hts nin_Main hown hK hP 0 rfl rfl 1 (by decide) (hts _ tw_139) (fun _ h9 => h9) rfl nd_Main_giveBackResource_1 ?_
  refine va_get (D := (dC, dI)) (ci := 1) (v := .ref (abd 3)) (C := "CeilingRows$Board") (T := nf_Board) (N := 7) hx hb hts nin_Board hown hK hP 19 rfl rfl 4 (by decide) (hts _ tw_74) (fun _ h9 => h9) rfl nd_Main_giveBackResource_4 ?_
  refine lv_iload_n hx hb nd_Main_giveBackResource_7 rfl (lv_at hl 1 rfl) ?_
  have b_1 : vp_in x1 11 := vp_in_iff.mpr (by omega)
  refine va_iald hx hb hK hP 22 0 rfl rfl b_1 nd_Main_giveBackResource_8 ?_
  have f_2 := cr_rgo hR_bd.1 (x1.toNatClampNeg)
  refine lv_iload_n hx hb nd_Main_giveBackResource_9 rfl (lv_at hl 2 rfl) ?_
  refine lv_icmp_eq (tgt := 16) hx hb nd_Main_giveBackResource_10 (by decide) (fun c_3 => ?_) (fun c_3 => ?_)
  · have c_3t := cr_eq c_3
    rw [if_pos c_3] at hM
    refine lv_aload_n hx hb nd_Main_giveBackResource_16 rfl (lv_at hl 0 rfl) ?_
    refine va_get (D := (dC, dI)) (ci := 4) (v := .ref (abd 0)) (C := "CeilingRows") (T := nf_Main) (N := 6) hx hb hts nin_Main hown hK hP 0 rfl rfl 1 (by decide) (hts _ tw_139) (fun _ h9 => h9) rfl nd_Main_giveBackResource_17 ?_
    refine lv_iload_n hx hb nd_Main_giveBackResource_20 rfl (lv_at hl 1 rfl) ?_
    have hPc := hP.sub (ws' := cw_Plan cI cZ cO apl pl ++ cw_Board cI cZ cO abd apl bd) [2, 3, 4, 5, 6, 7, 8, 9, 10, 11, 12, 13, 14, 15, 16, 17, 18, 19, 20, 21, 22, 23, 24] rfl
    have hDc := hD.sub (ws' := cw_Plan cI cZ cO apl pl ++ cw_Board cI cZ cO abd apl bd) [2, 3, 4, 5, 6, 7, 8, 9, 10, 11, 12, 13, 14, 15, 16, 17, 18, 19, 20, 21, 22, 23, 24] (by decide) rfl
    have hFc := va_free (wc := cw_Plan cI cZ cO apl pl ++ cw_Board cI cZ cO abd apl bd) hD hS hA [2, 3, 4, 5, 6, 7, 8, 9, 10, 11, 12, 13, 14, 15, 16, 17, 18, 19, 20, 21, 22, 23, 24] rfl
    refine va_callv (va_runV (As := [.int x1]) (rest := []) ⟨hx, hb, hml, hown, hts⟩ (ct_Board_giveBackLast l dC dI cI cZ cO apl abd s.heap.size pl bd x1 hR_bd hR_pl (by omega)) (cwV 1 hts (ng_V tw_263 tw_264 tw_265 tw_3 tw_266) rfl rfl rfl (by decide +kernel) ⟨Nat.le_of_ble_eq_true rfl, Nat.le_of_ble_eq_true rfl⟩) ⟨fun a U g mk q => by obtain ⟨q0, q1, qP, qK, qD⟩ := q; exact ⟨q0, q1, qP, va_K.moved (u := U) (U := U.calling g mk a) (Vm.Alike.refl U.vm) qK, qD⟩, va_recv hK hPc (ci := 1) (q0 := 17) rfl rfl, fun U hU hW => ⟨rfl, by rw [hU], by rw [hU]; exact hPc, va_K.moved hW.alike hK, hDc.weaken (fun _ _ _ _ => trivial)⟩⟩ rfl rfl hl.1 rfl (lv_room (Nat.le_of_ble_eq_true rfl)) nd_Main_giveBackResource_21 ⟨Nat.zero_le _, Nat.zero_le _⟩) hS (fun q _ h => hFc q h) hFc (fun u t H1 locs ht hvm hw hB hz1 hk1 hS => ?_)
    obtain ⟨hP1, hK1, hD1⟩ := hB
    rw [ht] at hP1
    obtain ⟨bdq_5, rfl⟩ : ∃ z, z = u := ⟨_, rfl⟩
    obtain ⟨w_6, hR_7⟩ := hw
    try rw [← w_6] at hM
    obtain ⟨hP, hD⟩ := va_join (wr := cw_Main cI cZ cO amn apl abd alk atr mn lt ++ cw_Locks cI cZ cO alk lk ++ cw_Trial cI cZ cO atr apl atb tr ++ cw_Board cI cZ cO atb apl tb) (w1 := cw_Plan cI cZ cO apl pl ++ cw_Board cI cZ cO abd apl bdq_5) hP hD [2, 3, 4, 5, 6, 7, 8, 9, 10, 11, 12, 13, 14, 15, 16, 17, 18, 19, 20, 21, 22, 23, 24] [0, 1, 25, 26, 27, 28, 29, 30, 31, 32, 33, 34, 35, 36, 37, 38, 39, 40, 41, 42, 43, 44, 45, 46, 47, 48] rfl rfl (by decide) (by decide) hk1 hFc hP1 hD1
    have hP := hP.sub (ws' := cw_Main cI cZ cO amn apl abd alk atr mn lt ++ cw_Plan cI cZ cO apl pl ++ cw_Board cI cZ cO abd apl bdq_5 ++ cw_Locks cI cZ cO alk lk ++ cw_Trial cI cZ cO atr apl atb tr ++ cw_Board cI cZ cO atb apl tb) [0, 1, 26, 27, 28, 29, 30, 31, 32, 33, 34, 35, 36, 37, 38, 39, 40, 41, 42, 43, 44, 45, 46, 47, 48, 2, 3, 4, 5, 6, 7, 8, 9, 10, 11, 12, 13, 14, 15, 16, 17, 18, 19, 20, 21, 22, 23, 24, 25] rfl
    have hD := hD.sub (ws' := cw_Main cI cZ cO amn apl abd alk atr mn lt ++ cw_Plan cI cZ cO apl pl ++ cw_Board cI cZ cO abd apl bdq_5 ++ cw_Locks cI cZ cO alk lk ++ cw_Trial cI cZ cO atr apl atb tr ++ cw_Board cI cZ cO atb apl tb) [0, 1, 26, 27, 28, 29, 30, 31, 32, 33, 34, 35, 36, 37, 38, 39, 40, 41, 42, 43, 44, 45, 46, 47, 48, 2, 3, 4, 5, 6, 7, 8, 9, 10, 11, 12, 13, 14, 15, 16, 17, 18, 19, 20, 21, 22, 23, 24, 25] (by decide) rfl
    generalize H1 = H at hP hS ⊢
    refine lv_iconst (v := 1) hx hb nd_Main_giveBackResource_24 (by decide) ?_
    exact W.iret (v := (1 : Int32)) hx hb hr (fun t ht hW => ⟨⟨(1 : Int32), bdq_5, rfl, ⟨by rw [hT, ← hM], by rw [hT, ← hM], hR_7⟩, by rw [ht]; exact hP, va_K.moved hW.alike hK, hD⟩, hS.F ht⟩) hS.2.2 nd_Main_giveBackResource_25
  · have c_3t := cr_ne c_3
    rw [if_neg c_3] at hM
    refine lv_bipush (v := -13) hx hb nd_Main_giveBackResource_13 (by decide) ?_
    exact W.iret (v := (-13 : Int32)) hx hb hr (fun t ht hW => ⟨⟨(-13 : Int32), bd, rfl, ⟨by rw [hT, ← hM], by rw [hT, ← hM], hR_bd⟩, by rw [ht]; exact hP, va_K.moved hW.alike hK, hD⟩, hS.F ht⟩) hS.2.2 nd_Main_giveBackResource_15

theorem nd_Main_endTask_0 : decode prog_1_method_21_code 0 = .ok (.aload_n 0, 1) := by decide +kernel
theorem nd_Main_endTask_1 : decode prog_1_method_21_code 1 = .ok (.getfield 21, 3) := by decide +kernel
theorem nd_Main_endTask_4 : decode prog_1_method_21_code 4 = .ok (.iload_n 1, 1) := by decide +kernel
theorem nd_Main_endTask_5 : decode prog_1_method_21_code 5 = .ok (.invokevirtual 175, 3) := by decide +kernel
theorem nd_Main_endTask_8 : decode prog_1_method_21_code 8 = .ok (.ifCond .eq (8), 3) := by decide +kernel
theorem nd_Main_endTask_11 : decode prog_1_method_21_code 11 = .ok (.bipush (-14), 2) := by decide +kernel
theorem nd_Main_endTask_13 : decode prog_1_method_21_code 13 = .ok (.goto (4), 3) := by decide +kernel
theorem nd_Main_endTask_16 : decode prog_1_method_21_code 16 = .ok (.iconst 1, 1) := by decide +kernel
theorem nd_Main_endTask_17 : decode prog_1_method_21_code 17 = .ok (.istore_n 2, 1) := by decide +kernel
theorem nd_Main_endTask_18 : decode prog_1_method_21_code 18 = .ok (.aload_n 0, 1) := by decide +kernel
theorem nd_Main_endTask_19 : decode prog_1_method_21_code 19 = .ok (.getfield 21, 3) := by decide +kernel
theorem nd_Main_endTask_22 : decode prog_1_method_21_code 22 = .ok (.iload_n 1, 1) := by decide +kernel
theorem nd_Main_endTask_23 : decode prog_1_method_21_code 23 = .ok (.invokevirtual 178, 3) := by decide +kernel
theorem nd_Main_endTask_26 : decode prog_1_method_21_code 26 = .ok (.aload_n 0, 1) := by decide +kernel
theorem nd_Main_endTask_27 : decode prog_1_method_21_code 27 = .ok (.getfield 39, 3) := by decide +kernel
theorem nd_Main_endTask_30 : decode prog_1_method_21_code 30 = .ok (.iload_n 1, 1) := by decide +kernel
theorem nd_Main_endTask_31 : decode prog_1_method_21_code 31 = .ok (.iconst 0, 1) := by decide +kernel
theorem nd_Main_endTask_32 : decode prog_1_method_21_code 32 = .ok (.bastore, 1) := by decide +kernel
theorem nd_Main_endTask_33 : decode prog_1_method_21_code 33 = .ok (.iload_n 2, 1) := by decide +kernel
theorem nd_Main_endTask_34 : decode prog_1_method_21_code 34 = .ok (.ireturn, 1) := by decide +kernel
def md_Main_endTask (mn : cr_S) (lt : Int64) (pl : cr_S) (bd : cr_S) (lk : cr_S) (tr : cr_S) (tb : cr_S) (x1 : Int32) : Int32 × cr_S × Int64 × cr_S :=
  (if (md_Board_holdsAny pl bd x1) = 0 then ((1 : Int32), (cr_up mn 1 x1.toNatClampNeg (0 : Int32)), lt, (md_Board_putToSleep pl bd x1)) else ((-14 : Int32), (cr_up mn 1 x1.toNatClampNeg (0 : Int32)), lt, (md_Board_putToSleep pl bd x1)))
abbrev pq_Main_endTask (dC : Nat → ClassId) (dI : Nat → Nat → Nat) (cI cZ cO : ClassId) (amn apl abd alk atr atb : Nat → Nat) (mn : cr_S) (lt : Int64) (pl : cr_S) (bd : cr_S) (lk : cr_S) (tr : cr_S) (tb : cr_S) (x1 : Int32) (A : Nat → Prop) : Array Value → State → Outcome → State → Prop :=
  va_Qi (fun (r : Int32) (u : cr_S × Int64 × cr_S) => r = (md_Main_endTask mn lt pl bd lk tr tb x1).1 ∧ u.1 = (md_Main_endTask mn lt pl bd lk tr tb x1).2.1 ∧ u.2.1 = (md_Main_endTask mn lt pl bd lk tr tb x1).2.2.1 ∧ u.2.2 = (md_Main_endTask mn lt pl bd lk tr tb x1).2.2.2 ∧ cr_RBoard u.2.2) (fun (u : cr_S × Int64 × cr_S) t => va_P (dC, dI) vwCl (cw_Main cI cZ cO amn apl abd alk atr u.1 u.2.1 ++ cw_Plan cI cZ cO apl pl ++ cw_Board cI cZ cO abd apl u.2.2 ++ cw_Locks cI cZ cO alk lk ++ cw_Trial cI cZ cO atr apl atb tr ++ cw_Board cI cZ cO atb apl tb) t.heap ∧ va_K (dC, dI) vwCl [(cI, .int), (cZ, .boolean), (cO, .array .int)] t ∧ va_D A (cw_Main cI cZ cO amn apl abd alk atr u.1 u.2.1 ++ cw_Plan cI cZ cO apl pl ++ cw_Board cI cZ cO abd apl u.2.2 ++ cw_Locks cI cZ cO alk lk ++ cw_Trial cI cZ cO atr apl atb tr ++ cw_Board cI cZ cO atb apl tb)) A
set_option maxHeartbeats 4000000 in
set_option maxRecDepth 100000 in
theorem ct_Main_endTask (l : Launch) (dC : Nat → ClassId) (dI : Nat → Nat → Nat) (cI cZ cO : ClassId) (amn apl abd alk atr atb : Nat → Nat) (sz : Nat) (mn : cr_S) (lt : Int64) (pl : cr_S) (bd : cr_S) (lk : cr_S) (tr : cr_S) (tb : cr_S) (x1 : Int32) (hR_tb : cr_RBoard tb) (hR_lk : cr_RLocks lk) (hR_bd : cr_RBoard bd) (hR_pl : cr_RPlan pl) (hx1 : 0 ≤ x1.toInt ∧ x1.toInt ≤ 10) : Met l ny_Main_endTask nw_Main_endTask ({ frames := 2, cells := 0, slots := 0, locals := 44 } : Room) (va_Pc [.ref (amn 0), .int x1] (fun U => U.heap.size = sz ∧ va_P (dC, dI) vwCl (cw_Main cI cZ cO amn apl abd alk atr mn lt ++ cw_Plan cI cZ cO apl pl ++ cw_Board cI cZ cO abd apl bd ++ cw_Locks cI cZ cO alk lk ++ cw_Trial cI cZ cO atr apl atb tr ++ cw_Board cI cZ cO atb apl tb) U.heap ∧ va_K (dC, dI) vwCl [(cI, .int), (cZ, .boolean), (cO, .array .int)] U ∧ va_D (fun _ => True) (cw_Main cI cZ cO amn apl abd alk atr mn lt ++ cw_Plan cI cZ cO apl pl ++ cw_Board cI cZ cO abd apl bd ++ cw_Locks cI cZ cO alk lk ++ cw_Trial cI cZ cO atr apl atb tr ++ cw_Board cI cZ cO atb apl tb))) (pq_Main_endTask dC dI cI cZ cO amn apl abd alk atr atb mn lt pl bd lk tr tb x1 (va_A (cw_Main cI cZ cO amn apl abd alk atr mn lt ++ cw_Plan cI cZ cO apl pl ++ cw_Board cI cZ cO abd apl bd ++ cw_Locks cI cZ cO alk lk ++ cw_Trial cI cZ cO atr apl atb tr ++ cw_Board cI cZ cO atb apl tb) sz)) 0 0 (va_A (cw_Main cI cZ cO amn apl abd alk atr mn lt ++ cw_Plan cI cZ cO apl pl ++ cw_Board cI cZ cO abd apl bd ++ cw_Locks cI cZ cO alk lk ++ cw_Trial cI cZ cO atr apl atb tr ++ cw_Board cI cZ cO atb apl tb) sz) := by
  refine Met.ofW (cc := prog_1_method_21_code) (maxL := 3) (ret := (some .int)) (by decide) rfl ?_
  intro p e s m args below meth c s₁ B hml hv
  obtain ⟨rfl, hsz, hP, hK, hD0⟩ := hv
  have hx := B.exec
  have hb := B.bytes
  have hr := B.returns
  have hts0 := atoms_spec (ws := nw_Main_endTask) B.pre
  have hts : ∀ w ∈ ng_tbl, w.before ([.ref (amn 0), .int x1] : List Value).toArray s = true := fun w h => hts0 w (List.mem_cons_of_mem _ h)
  have hown : s.vm.findClass "CeilingRows" = some m.cls := findClass_of_methodNamed B.named
  have hlocks := B.notSynchronized
  subst hsz
  have hD := hD0.self (sz := s.heap.size)
  generalize hAe : va_A (cw_Main cI cZ cO amn apl abd alk atr mn lt ++ cw_Plan cI cZ cO apl pl ++ cw_Board cI cZ cO abd apl bd ++ cw_Locks cI cZ cO alk lk ++ cw_Trial cI cZ cO atr apl atb tr ++ cw_Board cI cZ cO atb apl tb) s.heap.size = A at hD ⊢
  have hA : ∀ q : Nat, s.heap.size ≤ q → A q := fun q h => by rw [← hAe]; exact Or.inr h
  have hS : va_S A s.heap s.heap [] := va_S.rf
  have hP : va_P (dC, dI) vwCl (cw_Main cI cZ cO amn apl abd alk atr mn lt ++ cw_Plan cI cZ cO apl pl ++ cw_Board cI cZ cO abd apl bd ++ cw_Locks cI cZ cO alk lk ++ cw_Trial cI cZ cO atr apl atb tr ++ cw_Board cI cZ cO atb apl tb) s.heap := hP
  have hl := lv_entry ([.ref (amn 0), .int x1]) (n := 3) (Nat.le_of_ble_eq_true rfl)
  rw [lg_entry_eq]
  generalize (lg_sl ([.ref (amn 0), .int x1]) ++ List.replicate (3 - (lg_sl ([.ref (amn 0), .int x1])).length) Slot.unset).toArray = ls at hl ⊢
  have hl : lv_has ls 3 [(0, .ref (amn 0)), (1, .int x1)] := hl
  have f0_pl_0 := cr_rfo hR_pl.1
  have f0_pl_1 := cr_rfo hR_pl.2.1
  have k_m14 : (-14 : Int32).toInt = -14 := by decide
  have k_0 : (0 : Int32).toInt = 0 := by decide
  have k_1 : (1 : Int32).toInt = 1 := by decide
  obtain ⟨tgt, hT⟩ : ∃ z, md_Main_endTask mn lt pl bd lk tr tb x1 = z := ⟨_, rfl⟩
  have hM := hT
  unfold md_Main_endTask at hM
  refine lv_aload_n hx hb nd_Main_endTask_0 rfl (lv_at hl 0 rfl) ?_
  refine va_get (D := (dC, dI)) (ci := 4) (v := .ref (abd 0)) (C := "CeilingRows") (T := nf_Main) (N := 6) hx hb hts nin_Main hown hK hP 0 rfl rfl 1 (by decide) (hts _ tw_139) (fun _ h9 => h9) rfl nd_Main_endTask_1 ?_
  refine lv_iload_n hx hb nd_Main_endTask_4 rfl (lv_at hl 1 rfl) ?_
  have hPc := hP.sub (ws' := cw_Plan cI cZ cO apl pl ++ cw_Board cI cZ cO abd apl bd) [2, 3, 4, 5, 6, 7, 8, 9, 10, 11, 12, 13, 14, 15, 16, 17, 18, 19, 20, 21, 22, 23, 24] rfl
  have hDc := hD.sub (ws' := cw_Plan cI cZ cO apl pl ++ cw_Board cI cZ cO abd apl bd) [2, 3, 4, 5, 6, 7, 8, 9, 10, 11, 12, 13, 14, 15, 16, 17, 18, 19, 20, 21, 22, 23, 24] (by decide) rfl
  have hFc := va_free (wc := cw_Plan cI cZ cO apl pl ++ cw_Board cI cZ cO abd apl bd) hD hS hA [2, 3, 4, 5, 6, 7, 8, 9, 10, 11, 12, 13, 14, 15, 16, 17, 18, 19, 20, 21, 22, 23, 24] rfl
  refine va_calli (va_runV (As := [.int x1]) (rest := []) ⟨hx, hb, hml, hown, hts⟩ (ct_Board_holdsAny l dC dI cI cZ cO apl abd s.heap.size pl bd x1 hR_bd hR_pl (by omega)) (cwV 1 hts (ng_V tw_271 tw_272 tw_273 tw_3 tw_274) rfl rfl rfl (by decide +kernel) ⟨Nat.le_of_ble_eq_true rfl, Nat.le_of_ble_eq_true rfl⟩) ⟨fun a U g mk q => by obtain ⟨q0, q1, qP, qK, qD⟩ := q; exact ⟨q0, q1, qP, va_K.moved (u := U) (U := U.calling g mk a) (Vm.Alike.refl U.vm) qK, qD⟩, va_recv hK hPc (ci := 1) (q0 := 17) rfl rfl, fun U hU hW => ⟨rfl, by rw [hU], by rw [hU]; exact hPc, va_K.moved hW.alike hK, hDc.weaken (fun _ _ _ _ => trivial)⟩⟩ rfl rfl hl.1 rfl (lv_room (Nat.le_of_ble_eq_true rfl)) nd_Main_endTask_5 ⟨Nat.zero_le _, Nat.zero_le _⟩) hS (fun q _ h => hFc q h) hFc (fun r_1 u t H1 locs ht hvm hw hB hz1 hk1 hS => ?_)
  obtain ⟨hP1, hK1, hD1⟩ := hB
  rw [ht] at hP1
  have w_2 := hw
  try rw [← w_2] at hM
  obtain ⟨hP, hD⟩ := va_join (wr := cw_Main cI cZ cO amn apl abd alk atr mn lt ++ cw_Locks cI cZ cO alk lk ++ cw_Trial cI cZ cO atr apl atb tr ++ cw_Board cI cZ cO atb apl tb) (w1 := cw_Plan cI cZ cO apl pl ++ cw_Board cI cZ cO abd apl bd) hP hD [2, 3, 4, 5, 6, 7, 8, 9, 10, 11, 12, 13, 14, 15, 16, 17, 18, 19, 20, 21, 22, 23, 24] [0, 1, 25, 26, 27, 28, 29, 30, 31, 32, 33, 34, 35, 36, 37, 38, 39, 40, 41, 42, 43, 44, 45, 46, 47, 48] rfl rfl (by decide) (by decide) hk1 hFc hP1 hD1
  have hP := hP.sub (ws' := cw_Main cI cZ cO amn apl abd alk atr mn lt ++ cw_Plan cI cZ cO apl pl ++ cw_Board cI cZ cO abd apl bd ++ cw_Locks cI cZ cO alk lk ++ cw_Trial cI cZ cO atr apl atb tr ++ cw_Board cI cZ cO atb apl tb) [0, 1, 26, 27, 28, 29, 30, 31, 32, 33, 34, 35, 36, 37, 38, 39, 40, 41, 42, 43, 44, 45, 46, 47, 48, 2, 3, 4, 5, 6, 7, 8, 9, 10, 11, 12, 13, 14, 15, 16, 17, 18, 19, 20, 21, 22, 23, 24, 25] rfl
  have hD := hD.sub (ws' := cw_Main cI cZ cO amn apl abd alk atr mn lt ++ cw_Plan cI cZ cO apl pl ++ cw_Board cI cZ cO abd apl bd ++ cw_Locks cI cZ cO alk lk ++ cw_Trial cI cZ cO atr apl atb tr ++ cw_Board cI cZ cO atb apl tb) [0, 1, 26, 27, 28, 29, 30, 31, 32, 33, 34, 35, 36, 37, 38, 39, 40, 41, 42, 43, 44, 45, 46, 47, 48, 2, 3, 4, 5, 6, 7, 8, 9, 10, 11, 12, 13, 14, 15, 16, 17, 18, 19, 20, 21, 22, 23, 24, 25] (by decide) rfl
  generalize H1 = H at hP hS ⊢
  refine lv_if_eq (tgt := 16) hx hb nd_Main_endTask_8 (by decide) (fun c_3 => ?_) (fun c_3 => ?_)
  · have c_3t := cr_eq c_3
    rw [if_pos c_3] at hM
    refine lv_iconst (v := 1) hx hb nd_Main_endTask_16 (by decide) ?_
    refine lv_istore_n (lv' := [(2, .int (1 : Int32)), (0, .ref (amn 0)), (1, .int x1)]) hx hb nd_Main_endTask_17 rfl hl (by decide) rfl (fun ls hl => ?_)
    refine lv_aload_n hx hb nd_Main_endTask_18 rfl (lv_at hl 1 rfl) ?_
    refine va_get (D := (dC, dI)) (ci := 4) (v := .ref (abd 0)) (C := "CeilingRows") (T := nf_Main) (N := 6) hx hb hts nin_Main hown hK hP 0 rfl rfl 1 (by decide) (hts _ tw_139) (fun _ h9 => h9) rfl nd_Main_endTask_19 ?_
    refine lv_iload_n hx hb nd_Main_endTask_22 rfl (lv_at hl 2 rfl) ?_
    have hPc := hP.sub (ws' := cw_Plan cI cZ cO apl pl ++ cw_Board cI cZ cO abd apl bd) [2, 3, 4, 5, 6, 7, 8, 9, 10, 11, 12, 13, 14, 15, 16, 17, 18, 19, 20, 21, 22, 23, 24] rfl
    have hDc := hD.sub (ws' := cw_Plan cI cZ cO apl pl ++ cw_Board cI cZ cO abd apl bd) [2, 3, 4, 5, 6, 7, 8, 9, 10, 11, 12, 13, 14, 15, 16, 17, 18, 19, 20, 21, 22, 23, 24] (by decide) rfl
    have hFc := va_free (wc := cw_Plan cI cZ cO apl pl ++ cw_Board cI cZ cO abd apl bd) hD hS hA [2, 3, 4, 5, 6, 7, 8, 9, 10, 11, 12, 13, 14, 15, 16, 17, 18, 19, 20, 21, 22, 23, 24] rfl
    refine va_callv (va_runV (As := [.int x1]) (rest := []) ⟨hx, hb, hml, hown, hts⟩ (ct_Board_putToSleep l dC dI cI cZ cO apl abd H.size pl bd x1 hR_bd hR_pl (by omega)) (cwV 1 hts (ng_V tw_275 tw_276 tw_277 tw_3 tw_278) rfl rfl rfl (by decide +kernel) ⟨Nat.le_of_ble_eq_true rfl, Nat.le_of_ble_eq_true rfl⟩) ⟨fun a U g mk q => by obtain ⟨q0, q1, qP, qK, qD⟩ := q; exact ⟨q0, q1, qP, va_K.moved (u := U) (U := U.calling g mk a) (Vm.Alike.refl U.vm) qK, qD⟩, va_recv hK hPc (ci := 1) (q0 := 17) rfl rfl, fun U hU hW => ⟨rfl, by rw [hU], by rw [hU]; exact hPc, va_K.moved hW.alike hK, hDc.weaken (fun _ _ _ _ => trivial)⟩⟩ rfl rfl hl.1 rfl (lv_room (Nat.le_of_ble_eq_true rfl)) nd_Main_endTask_23 ⟨Nat.zero_le _, Nat.zero_le _⟩) hS (fun q _ h => hFc q h) hFc (fun u t H1 locs ht hvm hw hB hz1 hk1 hS => ?_)
    obtain ⟨hP1, hK1, hD1⟩ := hB
    rw [ht] at hP1
    obtain ⟨bdq_5, rfl⟩ : ∃ z, z = u := ⟨_, rfl⟩
    obtain ⟨w_6, hR_7⟩ := hw
    try rw [← w_6] at hM
    obtain ⟨hP, hD⟩ := va_join (wr := cw_Main cI cZ cO amn apl abd alk atr mn lt ++ cw_Locks cI cZ cO alk lk ++ cw_Trial cI cZ cO atr apl atb tr ++ cw_Board cI cZ cO atb apl tb) (w1 := cw_Plan cI cZ cO apl pl ++ cw_Board cI cZ cO abd apl bdq_5) hP hD [2, 3, 4, 5, 6, 7, 8, 9, 10, 11, 12, 13, 14, 15, 16, 17, 18, 19, 20, 21, 22, 23, 24] [0, 1, 25, 26, 27, 28, 29, 30, 31, 32, 33, 34, 35, 36, 37, 38, 39, 40, 41, 42, 43, 44, 45, 46, 47, 48] rfl rfl (by decide) (by decide) hk1 hFc hP1 hD1
    have hP := hP.sub (ws' := cw_Main cI cZ cO amn apl abd alk atr mn lt ++ cw_Plan cI cZ cO apl pl ++ cw_Board cI cZ cO abd apl bdq_5 ++ cw_Locks cI cZ cO alk lk ++ cw_Trial cI cZ cO atr apl atb tr ++ cw_Board cI cZ cO atb apl tb) [0, 1, 26, 27, 28, 29, 30, 31, 32, 33, 34, 35, 36, 37, 38, 39, 40, 41, 42, 43, 44, 45, 46, 47, 48, 2, 3, 4, 5, 6, 7, 8, 9, 10, 11, 12, 13, 14, 15, 16, 17, 18, 19, 20, 21, 22, 23, 24, 25] rfl
    have hD := hD.sub (ws' := cw_Main cI cZ cO amn apl abd alk atr mn lt ++ cw_Plan cI cZ cO apl pl ++ cw_Board cI cZ cO abd apl bdq_5 ++ cw_Locks cI cZ cO alk lk ++ cw_Trial cI cZ cO atr apl atb tr ++ cw_Board cI cZ cO atb apl tb) [0, 1, 26, 27, 28, 29, 30, 31, 32, 33, 34, 35, 36, 37, 38, 39, 40, 41, 42, 43, 44, 45, 46, 47, 48, 2, 3, 4, 5, 6, 7, 8, 9, 10, 11, 12, 13, 14, 15, 16, 17, 18, 19, 20, 21, 22, 23, 24, 25] (by decide) rfl
    generalize H1 = H at hP hS ⊢
    refine lv_aload_n hx hb nd_Main_endTask_26 rfl (lv_at hl 1 rfl) ?_
    refine va_get (D := (dC, dI)) (ci := 4) (v := .ref (amn 1)) (C := "CeilingRows") (T := nf_Main) (N := 6) hx hb hts nin_Main hown hK hP 0 rfl rfl 4 (by decide) (hts _ tw_142) (fun _ h9 => h9) rfl nd_Main_endTask_27 ?_
    refine lv_iload_n hx hb nd_Main_endTask_30 rfl (lv_at hl 2 rfl) ?_
    refine lv_iconst (v := 0) hx hb nd_Main_endTask_31 (by decide) ?_
    have b_8 : vp_in x1 11 := vp_in_iff.mpr (by omega)
    refine va_zast hx hb hK hP hD hS 1 1 rfl rfl b_8 nd_Main_endTask_32 (fun H locs hP hD hS => ?_)
    rw [show vp_nar .boolean (0 : Int32) = (0 : Int32) by decide] at hP hD
    have hP : va_P (dC, dI) vwCl (cw_Main cI cZ cO amn apl abd alk atr (cr_up mn 1 x1.toNatClampNeg (0 : Int32)) lt ++ cw_Plan cI cZ cO apl pl ++ cw_Board cI cZ cO abd apl bdq_5 ++ cw_Locks cI cZ cO alk lk ++ cw_Trial cI cZ cO atr apl atb tr ++ cw_Board cI cZ cO atb apl tb) H := hP
    have hD : va_D A (cw_Main cI cZ cO amn apl abd alk atr (cr_up mn 1 x1.toNatClampNeg (0 : Int32)) lt ++ cw_Plan cI cZ cO apl pl ++ cw_Board cI cZ cO abd apl bdq_5 ++ cw_Locks cI cZ cO alk lk ++ cw_Trial cI cZ cO atr apl atb tr ++ cw_Board cI cZ cO atb apl tb) := hD
    obtain ⟨mnq_9, hmnq_9⟩ : ∃ z, (cr_up mn 1 x1.toNatClampNeg (0 : Int32)) = z := ⟨_, rfl⟩
    rw [hmnq_9] at hP hD
    try rw [hmnq_9] at hM
    refine lv_iload_n hx hb nd_Main_endTask_33 rfl (lv_at hl 0 rfl) ?_
    exact W.iret (v := (1 : Int32)) hx hb hr (fun t ht hW => ⟨⟨(1 : Int32), (mnq_9, lt, bdq_5), rfl, ⟨by rw [hT, ← hM], by rw [hT, ← hM], by rw [hT, ← hM], by rw [hT, ← hM], hR_7⟩, by rw [ht]; exact hP, va_K.moved hW.alike hK, hD⟩, hS.F ht⟩) hS.2.2 nd_Main_endTask_34
  · have c_3t := cr_ne c_3
    rw [if_neg c_3] at hM
    refine lv_bipush (v := -14) hx hb nd_Main_endTask_11 (by decide) ?_
    refine lv_goto (tgt := 17) hx hb nd_Main_endTask_13 (by decide) ?_
    refine lv_istore_n (lv' := [(2, .int (-14 : Int32)), (0, .ref (amn 0)), (1, .int x1)]) hx hb nd_Main_endTask_17 rfl hl (by decide) rfl (fun ls hl => ?_)
    refine lv_aload_n hx hb nd_Main_endTask_18 rfl (lv_at hl 1 rfl) ?_
    refine va_get (D := (dC, dI)) (ci := 4) (v := .ref (abd 0)) (C := "CeilingRows") (T := nf_Main) (N := 6) hx hb hts nin_Main hown hK hP 0 rfl rfl 1 (by decide) (hts _ tw_139) (fun _ h9 => h9) rfl nd_Main_endTask_19 ?_
    refine lv_iload_n hx hb nd_Main_endTask_22 rfl (lv_at hl 2 rfl) ?_
    have hPc := hP.sub (ws' := cw_Plan cI cZ cO apl pl ++ cw_Board cI cZ cO abd apl bd) [2, 3, 4, 5, 6, 7, 8, 9, 10, 11, 12, 13, 14, 15, 16, 17, 18, 19, 20, 21, 22, 23, 24] rfl
    have hDc := hD.sub (ws' := cw_Plan cI cZ cO apl pl ++ cw_Board cI cZ cO abd apl bd) [2, 3, 4, 5, 6, 7, 8, 9, 10, 11, 12, 13, 14, 15, 16, 17, 18, 19, 20, 21, 22, 23, 24] (by decide) rfl
    have hFc := va_free (wc := cw_Plan cI cZ cO apl pl ++ cw_Board cI cZ cO abd apl bd) hD hS hA [2, 3, 4, 5, 6, 7, 8, 9, 10, 11, 12, 13, 14, 15, 16, 17, 18, 19, 20, 21, 22, 23, 24] rfl
    refine va_callv (va_runV (As := [.int x1]) (rest := []) ⟨hx, hb, hml, hown, hts⟩ (ct_Board_putToSleep l dC dI cI cZ cO apl abd H.size pl bd x1 hR_bd hR_pl (by omega)) (cwV 1 hts (ng_V tw_275 tw_276 tw_277 tw_3 tw_278) rfl rfl rfl (by decide +kernel) ⟨Nat.le_of_ble_eq_true rfl, Nat.le_of_ble_eq_true rfl⟩) ⟨fun a U g mk q => by obtain ⟨q0, q1, qP, qK, qD⟩ := q; exact ⟨q0, q1, qP, va_K.moved (u := U) (U := U.calling g mk a) (Vm.Alike.refl U.vm) qK, qD⟩, va_recv hK hPc (ci := 1) (q0 := 17) rfl rfl, fun U hU hW => ⟨rfl, by rw [hU], by rw [hU]; exact hPc, va_K.moved hW.alike hK, hDc.weaken (fun _ _ _ _ => trivial)⟩⟩ rfl rfl hl.1 rfl (lv_room (Nat.le_of_ble_eq_true rfl)) nd_Main_endTask_23 ⟨Nat.zero_le _, Nat.zero_le _⟩) hS (fun q _ h => hFc q h) hFc (fun u t H1 locs ht hvm hw hB hz1 hk1 hS => ?_)
    obtain ⟨hP1, hK1, hD1⟩ := hB
    rw [ht] at hP1
    obtain ⟨bdq_11, rfl⟩ : ∃ z, z = u := ⟨_, rfl⟩
    obtain ⟨w_12, hR_13⟩ := hw
    try rw [← w_12] at hM
    obtain ⟨hP, hD⟩ := va_join (wr := cw_Main cI cZ cO amn apl abd alk atr mn lt ++ cw_Locks cI cZ cO alk lk ++ cw_Trial cI cZ cO atr apl atb tr ++ cw_Board cI cZ cO atb apl tb) (w1 := cw_Plan cI cZ cO apl pl ++ cw_Board cI cZ cO abd apl bdq_11) hP hD [2, 3, 4, 5, 6, 7, 8, 9, 10, 11, 12, 13, 14, 15, 16, 17, 18, 19, 20, 21, 22, 23, 24] [0, 1, 25, 26, 27, 28, 29, 30, 31, 32, 33, 34, 35, 36, 37, 38, 39, 40, 41, 42, 43, 44, 45, 46, 47, 48] rfl rfl (by decide) (by decide) hk1 hFc hP1 hD1
    have hP := hP.sub (ws' := cw_Main cI cZ cO amn apl abd alk atr mn lt ++ cw_Plan cI cZ cO apl pl ++ cw_Board cI cZ cO abd apl bdq_11 ++ cw_Locks cI cZ cO alk lk ++ cw_Trial cI cZ cO atr apl atb tr ++ cw_Board cI cZ cO atb apl tb) [0, 1, 26, 27, 28, 29, 30, 31, 32, 33, 34, 35, 36, 37, 38, 39, 40, 41, 42, 43, 44, 45, 46, 47, 48, 2, 3, 4, 5, 6, 7, 8, 9, 10, 11, 12, 13, 14, 15, 16, 17, 18, 19, 20, 21, 22, 23, 24, 25] rfl
    have hD := hD.sub (ws' := cw_Main cI cZ cO amn apl abd alk atr mn lt ++ cw_Plan cI cZ cO apl pl ++ cw_Board cI cZ cO abd apl bdq_11 ++ cw_Locks cI cZ cO alk lk ++ cw_Trial cI cZ cO atr apl atb tr ++ cw_Board cI cZ cO atb apl tb) [0, 1, 26, 27, 28, 29, 30, 31, 32, 33, 34, 35, 36, 37, 38, 39, 40, 41, 42, 43, 44, 45, 46, 47, 48, 2, 3, 4, 5, 6, 7, 8, 9, 10, 11, 12, 13, 14, 15, 16, 17, 18, 19, 20, 21, 22, 23, 24, 25] (by decide) rfl
    generalize H1 = H at hP hS ⊢
    refine lv_aload_n hx hb nd_Main_endTask_26 rfl (lv_at hl 1 rfl) ?_
    refine va_get (D := (dC, dI)) (ci := 4) (v := .ref (amn 1)) (C := "CeilingRows") (T := nf_Main) (N := 6) hx hb hts nin_Main hown hK hP 0 rfl rfl 4 (by decide) (hts _ tw_142) (fun _ h9 => h9) rfl nd_Main_endTask_27 ?_
    refine lv_iload_n hx hb nd_Main_endTask_30 rfl (lv_at hl 2 rfl) ?_
    refine lv_iconst (v := 0) hx hb nd_Main_endTask_31 (by decide) ?_
    have b_14 : vp_in x1 11 := vp_in_iff.mpr (by omega)
    refine va_zast hx hb hK hP hD hS 1 1 rfl rfl b_14 nd_Main_endTask_32 (fun H locs hP hD hS => ?_)
    rw [show vp_nar .boolean (0 : Int32) = (0 : Int32) by decide] at hP hD
    have hP : va_P (dC, dI) vwCl (cw_Main cI cZ cO amn apl abd alk atr (cr_up mn 1 x1.toNatClampNeg (0 : Int32)) lt ++ cw_Plan cI cZ cO apl pl ++ cw_Board cI cZ cO abd apl bdq_11 ++ cw_Locks cI cZ cO alk lk ++ cw_Trial cI cZ cO atr apl atb tr ++ cw_Board cI cZ cO atb apl tb) H := hP
    have hD : va_D A (cw_Main cI cZ cO amn apl abd alk atr (cr_up mn 1 x1.toNatClampNeg (0 : Int32)) lt ++ cw_Plan cI cZ cO apl pl ++ cw_Board cI cZ cO abd apl bdq_11 ++ cw_Locks cI cZ cO alk lk ++ cw_Trial cI cZ cO atr apl atb tr ++ cw_Board cI cZ cO atb apl tb) := hD
    obtain ⟨mnq_15, hmnq_15⟩ : ∃ z, (cr_up mn 1 x1.toNatClampNeg (0 : Int32)) = z := ⟨_, rfl⟩
    rw [hmnq_15] at hP hD
    try rw [hmnq_15] at hM
    refine lv_iload_n hx hb nd_Main_endTask_33 rfl (lv_at hl 0 rfl) ?_
    exact W.iret (v := (-14 : Int32)) hx hb hr (fun t ht hW => ⟨⟨(-14 : Int32), (mnq_15, lt, bdq_11), rfl, ⟨by rw [hT, ← hM], by rw [hT, ← hM], by rw [hT, ← hM], by rw [hT, ← hM], hR_13⟩, by rw [ht]; exact hP, va_K.moved hW.alike hK, hD⟩, hS.F ht⟩) hS.2.2 nd_Main_endTask_34

theorem nd_Main_waitForEvent_0 : decode prog_1_method_22_code 0 = .ok (.aload_n 0, 1) := by decide +kernel
theorem nd_Main_waitForEvent_1 : decode prog_1_method_22_code 1 = .ok (.getfield 21, 3) := by decide +kernel
theorem nd_Main_waitForEvent_4 : decode prog_1_method_22_code 4 = .ok (.iload_n 1, 1) := by decide +kernel
theorem nd_Main_waitForEvent_5 : decode prog_1_method_22_code 5 = .ok (.invokevirtual 175, 3) := by decide +kernel
theorem nd_Main_waitForEvent_8 : decode prog_1_method_22_code 8 = .ok (.ifCond .eq (6), 3) := by decide +kernel
theorem nd_Main_waitForEvent_11 : decode prog_1_method_22_code 11 = .ok (.bipush (-15), 2) := by decide +kernel
theorem nd_Main_waitForEvent_13 : decode prog_1_method_22_code 13 = .ok (.ireturn, 1) := by decide +kernel
theorem nd_Main_waitForEvent_14 : decode prog_1_method_22_code 14 = .ok (.aload_n 0, 1) := by decide +kernel
theorem nd_Main_waitForEvent_15 : decode prog_1_method_22_code 15 = .ok (.getfield 39, 3) := by decide +kernel
theorem nd_Main_waitForEvent_18 : decode prog_1_method_22_code 18 = .ok (.iload_n 1, 1) := by decide +kernel
theorem nd_Main_waitForEvent_19 : decode prog_1_method_22_code 19 = .ok (.baload, 1) := by decide +kernel
theorem nd_Main_waitForEvent_20 : decode prog_1_method_22_code 20 = .ok (.ifCond .eq (12), 3) := by decide +kernel
theorem nd_Main_waitForEvent_23 : decode prog_1_method_22_code 23 = .ok (.aload_n 0, 1) := by decide +kernel
theorem nd_Main_waitForEvent_24 : decode prog_1_method_22_code 24 = .ok (.getfield 39, 3) := by decide +kernel
theorem nd_Main_waitForEvent_27 : decode prog_1_method_22_code 27 = .ok (.iload_n 1, 1) := by decide +kernel
theorem nd_Main_waitForEvent_28 : decode prog_1_method_22_code 28 = .ok (.iconst 0, 1) := by decide +kernel
theorem nd_Main_waitForEvent_29 : decode prog_1_method_22_code 29 = .ok (.bastore, 1) := by decide +kernel
theorem nd_Main_waitForEvent_30 : decode prog_1_method_22_code 30 = .ok (.iconst 1, 1) := by decide +kernel
theorem nd_Main_waitForEvent_31 : decode prog_1_method_22_code 31 = .ok (.ireturn, 1) := by decide +kernel
theorem nd_Main_waitForEvent_32 : decode prog_1_method_22_code 32 = .ok (.aload_n 0, 1) := by decide +kernel
theorem nd_Main_waitForEvent_33 : decode prog_1_method_22_code 33 = .ok (.getfield 21, 3) := by decide +kernel
theorem nd_Main_waitForEvent_36 : decode prog_1_method_22_code 36 = .ok (.getfield 143, 3) := by decide +kernel
theorem nd_Main_waitForEvent_39 : decode prog_1_method_22_code 39 = .ok (.iload_n 1, 1) := by decide +kernel
theorem nd_Main_waitForEvent_40 : decode prog_1_method_22_code 40 = .ok (.iconst 2, 1) := by decide +kernel
theorem nd_Main_waitForEvent_41 : decode prog_1_method_22_code 41 = .ok (.iastore, 1) := by decide +kernel
theorem nd_Main_waitForEvent_42 : decode prog_1_method_22_code 42 = .ok (.iconst 0, 1) := by decide +kernel
theorem nd_Main_waitForEvent_43 : decode prog_1_method_22_code 43 = .ok (.ireturn, 1) := by decide +kernel
def md_Main_waitForEvent (mn : cr_S) (lt : Int64) (pl : cr_S) (bd : cr_S) (lk : cr_S) (tr : cr_S) (tb : cr_S) (x1 : Int32) : Int32 × cr_S × Int64 × cr_S :=
  (if (md_Board_holdsAny pl bd x1) = 0 then (if (mn 1 x1.toNatClampNeg) = 0 then ((0 : Int32), mn, lt, (cr_up bd 1 x1.toNatClampNeg (2 : Int32))) else ((1 : Int32), (cr_up mn 1 x1.toNatClampNeg (0 : Int32)), lt, bd)) else ((-15 : Int32), mn, lt, bd))
abbrev pq_Main_waitForEvent (dC : Nat → ClassId) (dI : Nat → Nat → Nat) (cI cZ cO : ClassId) (amn apl abd alk atr atb : Nat → Nat) (mn : cr_S) (lt : Int64) (pl : cr_S) (bd : cr_S) (lk : cr_S) (tr : cr_S) (tb : cr_S) (x1 : Int32) (A : Nat → Prop) : Array Value → State → Outcome → State → Prop :=
  va_Qi (fun (r : Int32) (u : cr_S × Int64 × cr_S) => r = (md_Main_waitForEvent mn lt pl bd lk tr tb x1).1 ∧ u.1 = (md_Main_waitForEvent mn lt pl bd lk tr tb x1).2.1 ∧ u.2.1 = (md_Main_waitForEvent mn lt pl bd lk tr tb x1).2.2.1 ∧ u.2.2 = (md_Main_waitForEvent mn lt pl bd lk tr tb x1).2.2.2 ∧ cr_RBoard u.2.2) (fun (u : cr_S × Int64 × cr_S) t => va_P (dC, dI) vwCl (cw_Main cI cZ cO amn apl abd alk atr u.1 u.2.1 ++ cw_Plan cI cZ cO apl pl ++ cw_Board cI cZ cO abd apl u.2.2 ++ cw_Locks cI cZ cO alk lk ++ cw_Trial cI cZ cO atr apl atb tr ++ cw_Board cI cZ cO atb apl tb) t.heap ∧ va_K (dC, dI) vwCl [(cI, .int), (cZ, .boolean), (cO, .array .int)] t ∧ va_D A (cw_Main cI cZ cO amn apl abd alk atr u.1 u.2.1 ++ cw_Plan cI cZ cO apl pl ++ cw_Board cI cZ cO abd apl u.2.2 ++ cw_Locks cI cZ cO alk lk ++ cw_Trial cI cZ cO atr apl atb tr ++ cw_Board cI cZ cO atb apl tb)) A
set_option maxHeartbeats 4000000 in
set_option maxRecDepth 100000 in
theorem ct_Main_waitForEvent (l : Launch) (dC : Nat → ClassId) (dI : Nat → Nat → Nat) (cI cZ cO : ClassId) (amn apl abd alk atr atb : Nat → Nat) (sz : Nat) (mn : cr_S) (lt : Int64) (pl : cr_S) (bd : cr_S) (lk : cr_S) (tr : cr_S) (tb : cr_S) (x1 : Int32) (hR_tb : cr_RBoard tb) (hR_lk : cr_RLocks lk) (hR_bd : cr_RBoard bd) (hR_pl : cr_RPlan pl) (hx1 : 0 ≤ x1.toInt ∧ x1.toInt ≤ 10) : Met l ny_Main_waitForEvent nw_Main_waitForEvent ({ frames := 1, cells := 0, slots := 0, locals := 21 } : Room) (va_Pc [.ref (amn 0), .int x1] (fun U => U.heap.size = sz ∧ va_P (dC, dI) vwCl (cw_Main cI cZ cO amn apl abd alk atr mn lt ++ cw_Plan cI cZ cO apl pl ++ cw_Board cI cZ cO abd apl bd ++ cw_Locks cI cZ cO alk lk ++ cw_Trial cI cZ cO atr apl atb tr ++ cw_Board cI cZ cO atb apl tb) U.heap ∧ va_K (dC, dI) vwCl [(cI, .int), (cZ, .boolean), (cO, .array .int)] U ∧ va_D (fun _ => True) (cw_Main cI cZ cO amn apl abd alk atr mn lt ++ cw_Plan cI cZ cO apl pl ++ cw_Board cI cZ cO abd apl bd ++ cw_Locks cI cZ cO alk lk ++ cw_Trial cI cZ cO atr apl atb tr ++ cw_Board cI cZ cO atb apl tb))) (pq_Main_waitForEvent dC dI cI cZ cO amn apl abd alk atr atb mn lt pl bd lk tr tb x1 (va_A (cw_Main cI cZ cO amn apl abd alk atr mn lt ++ cw_Plan cI cZ cO apl pl ++ cw_Board cI cZ cO abd apl bd ++ cw_Locks cI cZ cO alk lk ++ cw_Trial cI cZ cO atr apl atb tr ++ cw_Board cI cZ cO atb apl tb) sz)) 0 0 (va_A (cw_Main cI cZ cO amn apl abd alk atr mn lt ++ cw_Plan cI cZ cO apl pl ++ cw_Board cI cZ cO abd apl bd ++ cw_Locks cI cZ cO alk lk ++ cw_Trial cI cZ cO atr apl atb tr ++ cw_Board cI cZ cO atb apl tb) sz) := by
  refine Met.ofW (cc := prog_1_method_22_code) (maxL := 2) (ret := (some .int)) (by decide) rfl ?_
  intro p e s m args below meth c s₁ B hml hv
  obtain ⟨rfl, hsz, hP, hK, hD0⟩ := hv
  have hx := B.exec
  have hb := B.bytes
  have hr := B.returns
  have hts0 := atoms_spec (ws := nw_Main_waitForEvent) B.pre
  have hts : ∀ w ∈ ng_tbl, w.before ([.ref (amn 0), .int x1] : List Value).toArray s = true := fun w h => hts0 w (List.mem_cons_of_mem _ h)
  have hown : s.vm.findClass "CeilingRows" = some m.cls := findClass_of_methodNamed B.named
  have hlocks := B.notSynchronized
  subst hsz
  have hD := hD0.self (sz := s.heap.size)
  generalize hAe : va_A (cw_Main cI cZ cO amn apl abd alk atr mn lt ++ cw_Plan cI cZ cO apl pl ++ cw_Board cI cZ cO abd apl bd ++ cw_Locks cI cZ cO alk lk ++ cw_Trial cI cZ cO atr apl atb tr ++ cw_Board cI cZ cO atb apl tb) s.heap.size = A at hD ⊢
  have hA : ∀ q : Nat, s.heap.size ≤ q → A q := fun q h => by rw [← hAe]; exact Or.inr h
  have hS : va_S A s.heap s.heap [] := va_S.rf
  have hP : va_P (dC, dI) vwCl (cw_Main cI cZ cO amn apl abd alk atr mn lt ++ cw_Plan cI cZ cO apl pl ++ cw_Board cI cZ cO abd apl bd ++ cw_Locks cI cZ cO alk lk ++ cw_Trial cI cZ cO atr apl atb tr ++ cw_Board cI cZ cO atb apl tb) s.heap := hP
  have hl := lv_entry ([.ref (amn 0), .int x1]) (n := 2) (Nat.le_of_ble_eq_true rfl)
  rw [lg_entry_eq]
  generalize (lg_sl ([.ref (amn 0), .int x1]) ++ List.replicate (2 - (lg_sl ([.ref (amn 0), .int x1])).length) Slot.unset).toArray = ls at hl ⊢
  have hl : lv_has ls 2 [(0, .ref (amn 0)), (1, .int x1)] := hl
  have f0_pl_0 := cr_rfo hR_pl.1
  have f0_pl_1 := cr_rfo hR_pl.2.1
  have k_m15 : (-15 : Int32).toInt = -15 := by decide
  have k_0 : (0 : Int32).toInt = 0 := by decide
  have k_1 : (1 : Int32).toInt = 1 := by decide
  have k_2 : (2 : Int32).toInt = 2 := by decide
  obtain ⟨tgt, hT⟩ : ∃ z, md_Main_waitForEvent mn lt pl bd lk tr tb x1 = z := ⟨_, rfl⟩
  have hM := hT
  unfold md_Main_waitForEvent at hM
  refine lv_aload_n hx hb nd_Main_waitForEvent_0 rfl (lv_at hl 0 rfl) ?_
  refine va_get (D := (dC, dI)) (ci := 4) (v := .ref (abd 0)) (C := "CeilingRows") (T := nf_Main) (N := 6) hx hb hts nin_Main hown hK hP 0 rfl rfl 1 (by decide) (hts _ tw_139) (fun _ h9 => h9) rfl nd_Main_waitForEvent_1 ?_
  refine lv_iload_n hx hb nd_Main_waitForEvent_4 rfl (lv_at hl 1 rfl) ?_
  have hPc := hP.sub (ws' := cw_Plan cI cZ cO apl pl ++ cw_Board cI cZ cO abd apl bd) [2, 3, 4, 5, 6, 7, 8, 9, 10, 11, 12, 13, 14, 15, 16, 17, 18, 19, 20, 21, 22, 23, 24] rfl
  have hDc := hD.sub (ws' := cw_Plan cI cZ cO apl pl ++ cw_Board cI cZ cO abd apl bd) [2, 3, 4, 5, 6, 7, 8, 9, 10, 11, 12, 13, 14, 15, 16, 17, 18, 19, 20, 21, 22, 23, 24] (by decide) rfl
  have hFc := va_free (wc := cw_Plan cI cZ cO apl pl ++ cw_Board cI cZ cO abd apl bd) hD hS hA [2, 3, 4, 5, 6, 7, 8, 9, 10, 11, 12, 13, 14, 15, 16, 17, 18, 19, 20, 21, 22, 23, 24] rfl
  refine va_calli (va_runV (As := [.int x1]) (rest := []) ⟨hx, hb, hml, hown, hts⟩ (ct_Board_holdsAny l dC dI cI cZ cO apl abd s.heap.size pl bd x1 hR_bd hR_pl (by omega)) (cwV 1 hts (ng_V tw_271 tw_272 tw_273 tw_3 tw_274) rfl rfl rfl (by decide +kernel) ⟨Nat.le_of_ble_eq_true rfl, Nat.le_of_ble_eq_true rfl⟩) ⟨fun a U g mk q => by obtain ⟨q0, q1, qP, qK, qD⟩ := q; exact ⟨q0, q1, qP, va_K.moved (u := U) (U := U.calling g mk a) (Vm.Alike.refl U.vm) qK, qD⟩, va_recv hK hPc (ci := 1) (q0 := 17) rfl rfl, fun U hU hW => ⟨rfl, by rw [hU], by rw [hU]; exact hPc, va_K.moved hW.alike hK, hDc.weaken (fun _ _ _ _ => trivial)⟩⟩ rfl rfl hl.1 rfl (lv_room (Nat.le_of_ble_eq_true rfl)) nd_Main_waitForEvent_5 ⟨Nat.zero_le _, Nat.zero_le _⟩) hS (fun q _ h => hFc q h) hFc (fun r_1 u t H1 locs ht hvm hw hB hz1 hk1 hS => ?_)
  obtain ⟨hP1, hK1, hD1⟩ := hB
  rw [ht] at hP1
  have w_2 := hw
  try rw [← w_2] at hM
  obtain ⟨hP, hD⟩ := va_join (wr := cw_Main cI cZ cO amn apl abd alk atr mn lt ++ cw_Locks cI cZ cO alk lk ++ cw_Trial cI cZ cO atr apl atb tr ++ cw_Board cI cZ cO atb apl tb) (w1 := cw_Plan cI cZ cO apl pl ++ cw_Board cI cZ cO abd apl bd) hP hD [2, 3, 4, 5, 6, 7, 8, 9, 10, 11, 12, 13, 14, 15, 16, 17, 18, 19, 20, 21, 22, 23, 24] [0, 1, 25, 26, 27, 28, 29, 30, 31, 32, 33, 34, 35, 36, 37, 38, 39, 40, 41, 42, 43, 44, 45, 46, 47, 48] rfl rfl (by decide) (by decide) hk1 hFc hP1 hD1
  have hP := hP.sub (ws' := cw_Main cI cZ cO amn apl abd alk atr mn lt ++ cw_Plan cI cZ cO apl pl ++ cw_Board cI cZ cO abd apl bd ++ cw_Locks cI cZ cO alk lk ++ cw_Trial cI cZ cO atr apl atb tr ++ cw_Board cI cZ cO atb apl tb) [0, 1, 26, 27, 28, 29, 30, 31, 32, 33, 34, 35, 36, 37, 38, 39, 40, 41, 42, 43, 44, 45, 46, 47, 48, 2, 3, 4, 5, 6, 7, 8, 9, 10, 11, 12, 13, 14, 15, 16, 17, 18, 19, 20, 21, 22, 23, 24, 25] rfl
  have hD := hD.sub (ws' := cw_Main cI cZ cO amn apl abd alk atr mn lt ++ cw_Plan cI cZ cO apl pl ++ cw_Board cI cZ cO abd apl bd ++ cw_Locks cI cZ cO alk lk ++ cw_Trial cI cZ cO atr apl atb tr ++ cw_Board cI cZ cO atb apl tb) [0, 1, 26, 27, 28, 29, 30, 31, 32, 33, 34, 35, 36, 37, 38, 39, 40, 41, 42, 43, 44, 45, 46, 47, 48, 2, 3, 4, 5, 6, 7, 8, 9, 10, 11, 12, 13, 14, 15, 16, 17, 18, 19, 20, 21, 22, 23, 24, 25] (by decide) rfl
  generalize H1 = H at hP hS ⊢
  refine lv_if_eq (tgt := 14) hx hb nd_Main_waitForEvent_8 (by decide) (fun c_3 => ?_) (fun c_3 => ?_)
  · have c_3t := cr_eq c_3
    rw [if_pos c_3] at hM
    refine lv_aload_n hx hb nd_Main_waitForEvent_14 rfl (lv_at hl 0 rfl) ?_
    refine va_get (D := (dC, dI)) (ci := 4) (v := .ref (amn 1)) (C := "CeilingRows") (T := nf_Main) (N := 6) hx hb hts nin_Main hown hK hP 0 rfl rfl 4 (by decide) (hts _ tw_142) (fun _ h9 => h9) rfl nd_Main_waitForEvent_15 ?_
    refine lv_iload_n hx hb nd_Main_waitForEvent_18 rfl (lv_at hl 1 rfl) ?_
    have b_4 : vp_in x1 11 := vp_in_iff.mpr (by omega)
    refine va_zald hx hb hK hP 1 1 rfl rfl b_4 nd_Main_waitForEvent_19 ?_
    refine lv_if_eq (tgt := 32) hx hb nd_Main_waitForEvent_20 (by decide) (fun c_5 => ?_) (fun c_5 => ?_)
    · have c_5t := cr_eq c_5
      rw [if_pos c_5] at hM
      refine lv_aload_n hx hb nd_Main_waitForEvent_32 rfl (lv_at hl 0 rfl) ?_
      refine va_get (D := (dC, dI)) (ci := 4) (v := .ref (abd 0)) (C := "CeilingRows") (T := nf_Main) (N := 6) hx hb hts nin_Main hown hK hP 0 rfl rfl 1 (by decide) (hts _ tw_139) (fun _ h9 => h9) rfl nd_Main_waitForEvent_33 ?_
      refine va_get (D := (dC, dI)) (ci := 1) (v := .ref (abd 1)) (C := "CeilingRows$Board") (T := nf_Board) (N := 7) hx hb hts nin_Board hown hK hP 19 rfl rfl 1 (by decide) (hts _ tw_70) (fun _ h9 => h9) rfl nd_Main_waitForEvent_36 ?_
      refine lv_iload_n hx hb nd_Main_waitForEvent_39 rfl (lv_at hl 1 rfl) ?_
      refine lv_iconst (v := 2) hx hb nd_Main_waitForEvent_40 (by decide) ?_
      have b_6 : vp_in x1 11 := vp_in_iff.mpr (by omega)
      refine va_iast hx hb hK hP hD hS 20 0 rfl rfl b_6 nd_Main_waitForEvent_41 (fun H locs hP hD hS => ?_)
      have hP : va_P (dC, dI) vwCl (cw_Main cI cZ cO amn apl abd alk atr mn lt ++ cw_Plan cI cZ cO apl pl ++ cw_Board cI cZ cO abd apl (cr_up bd 1 x1.toNatClampNeg (2 : Int32)) ++ cw_Locks cI cZ cO alk lk ++ cw_Trial cI cZ cO atr apl atb tr ++ cw_Board cI cZ cO atb apl tb) H := hP
      have hD : va_D A (cw_Main cI cZ cO amn apl abd alk atr mn lt ++ cw_Plan cI cZ cO apl pl ++ cw_Board cI cZ cO abd apl (cr_up bd 1 x1.toNatClampNeg (2 : Int32)) ++ cw_Locks cI cZ cO alk lk ++ cw_Trial cI cZ cO atr apl atb tr ++ cw_Board cI cZ cO atb apl tb) := hD
      have hR_7 : cr_RBoard (cr_up bd 1 x1.toNatClampNeg (2 : Int32)) := ⟨cr_rg_up hR_bd.1 (fun e => absurd e (by decide)), cr_rg_up hR_bd.2 (fun e => absurd e (by decide))⟩
      obtain ⟨bdq_8, hbdq_8⟩ : ∃ z, (cr_up bd 1 x1.toNatClampNeg (2 : Int32)) = z := ⟨_, rfl⟩
      rw [hbdq_8] at hP hD hR_7
      try rw [hbdq_8] at hM
      refine lv_iconst (v := 0) hx hb nd_Main_waitForEvent_42 (by decide) ?_
      exact W.iret (v := (0 : Int32)) hx hb hr (fun t ht hW => ⟨⟨(0 : Int32), (mn, lt, bdq_8), rfl, ⟨by rw [hT, ← hM], by rw [hT, ← hM], by rw [hT, ← hM], by rw [hT, ← hM], hR_7⟩, by rw [ht]; exact hP, va_K.moved hW.alike hK, hD⟩, hS.F ht⟩) hS.2.2 nd_Main_waitForEvent_43
    · have c_5t := cr_ne c_5
      rw [if_neg c_5] at hM
      refine lv_aload_n hx hb nd_Main_waitForEvent_23 rfl (lv_at hl 0 rfl) ?_
      refine va_get (D := (dC, dI)) (ci := 4) (v := .ref (amn 1)) (C := "CeilingRows") (T := nf_Main) (N := 6) hx hb hts nin_Main hown hK hP 0 rfl rfl 4 (by decide) (hts _ tw_142) (fun _ h9 => h9) rfl nd_Main_waitForEvent_24 ?_
      refine lv_iload_n hx hb nd_Main_waitForEvent_27 rfl (lv_at hl 1 rfl) ?_
      refine lv_iconst (v := 0) hx hb nd_Main_waitForEvent_28 (by decide) ?_
      have b_9 : vp_in x1 11 := vp_in_iff.mpr (by omega)
      refine va_zast hx hb hK hP hD hS 1 1 rfl rfl b_9 nd_Main_waitForEvent_29 (fun H locs hP hD hS => ?_)
      rw [show vp_nar .boolean (0 : Int32) = (0 : Int32) by decide] at hP hD
      have hP : va_P (dC, dI) vwCl (cw_Main cI cZ cO amn apl abd alk atr (cr_up mn 1 x1.toNatClampNeg (0 : Int32)) lt ++ cw_Plan cI cZ cO apl pl ++ cw_Board cI cZ cO abd apl bd ++ cw_Locks cI cZ cO alk lk ++ cw_Trial cI cZ cO atr apl atb tr ++ cw_Board cI cZ cO atb apl tb) H := hP
      have hD : va_D A (cw_Main cI cZ cO amn apl abd alk atr (cr_up mn 1 x1.toNatClampNeg (0 : Int32)) lt ++ cw_Plan cI cZ cO apl pl ++ cw_Board cI cZ cO abd apl bd ++ cw_Locks cI cZ cO alk lk ++ cw_Trial cI cZ cO atr apl atb tr ++ cw_Board cI cZ cO atb apl tb) := hD
      obtain ⟨mnq_10, hmnq_10⟩ : ∃ z, (cr_up mn 1 x1.toNatClampNeg (0 : Int32)) = z := ⟨_, rfl⟩
      rw [hmnq_10] at hP hD
      try rw [hmnq_10] at hM
      refine lv_iconst (v := 1) hx hb nd_Main_waitForEvent_30 (by decide) ?_
      exact W.iret (v := (1 : Int32)) hx hb hr (fun t ht hW => ⟨⟨(1 : Int32), (mnq_10, lt, bd), rfl, ⟨by rw [hT, ← hM], by rw [hT, ← hM], by rw [hT, ← hM], by rw [hT, ← hM], hR_bd⟩, by rw [ht]; exact hP, va_K.moved hW.alike hK, hD⟩, hS.F ht⟩) hS.2.2 nd_Main_waitForEvent_31
  · have c_3t := cr_ne c_3
    rw [if_neg c_3] at hM
    refine lv_bipush (v := -15) hx hb nd_Main_waitForEvent_11 (by decide) ?_
    exact W.iret (v := (-15 : Int32)) hx hb hr (fun t ht hW => ⟨⟨(-15 : Int32), (mn, lt, bd), rfl, ⟨by rw [hT, ← hM], by rw [hT, ← hM], by rw [hT, ← hM], by rw [hT, ← hM], hR_bd⟩, by rw [ht]; exact hP, va_K.moved hW.alike hK, hD⟩, hS.F ht⟩) hS.2.2 nd_Main_waitForEvent_13
end
section
theorem nd_Main_task_0 : decode prog_1_method_2_code 0 = .ok (.iload_n 1, 1) := by decide +kernel
theorem nd_Main_task_1 : decode prog_1_method_2_code 1 = .ok (.iconst 1, 1) := by decide +kernel
theorem nd_Main_task_2 : decode prog_1_method_2_code 2 = .ok (.if_icmp .lt (16), 3) := by decide +kernel
theorem nd_Main_task_5 : decode prog_1_method_2_code 5 = .ok (.iload_n 1, 1) := by decide +kernel
theorem nd_Main_task_6 : decode prog_1_method_2_code 6 = .ok (.bipush 20, 2) := by decide +kernel
theorem nd_Main_task_8 : decode prog_1_method_2_code 8 = .ok (.if_icmp .gt (10), 3) := by decide +kernel
theorem nd_Main_task_11 : decode prog_1_method_2_code 11 = .ok (.iload_n 2, 1) := by decide +kernel
theorem nd_Main_task_12 : decode prog_1_method_2_code 12 = .ok (.invokestatic 47, 3) := by decide +kernel
theorem nd_Main_task_15 : decode prog_1_method_2_code 15 = .ok (.ifCond .ne (6), 3) := by decide +kernel
theorem nd_Main_task_18 : decode prog_1_method_2_code 18 = .ok (.bipush (-2), 2) := by decide +kernel
theorem nd_Main_task_20 : decode prog_1_method_2_code 20 = .ok (.ireturn, 1) := by decide +kernel
theorem nd_Main_task_21 : decode prog_1_method_2_code 21 = .ok (.aload_n 0, 1) := by decide +kernel
theorem nd_Main_task_22 : decode prog_1_method_2_code 22 = .ok (.getfield 12, 3) := by decide +kernel
theorem nd_Main_task_25 : decode prog_1_method_2_code 25 = .ok (.getfield 51, 3) := by decide +kernel
theorem nd_Main_task_28 : decode prog_1_method_2_code 28 = .ok (.bipush 10, 2) := by decide +kernel
theorem nd_Main_task_30 : decode prog_1_method_2_code 30 = .ok (.if_icmp .lt (6), 3) := by decide +kernel
theorem nd_Main_task_33 : decode prog_1_method_2_code 33 = .ok (.bipush (-4), 2) := by decide +kernel
theorem nd_Main_task_35 : decode prog_1_method_2_code 35 = .ok (.ireturn, 1) := by decide +kernel
theorem nd_Main_task_36 : decode prog_1_method_2_code 36 = .ok (.aload_n 0, 1) := by decide +kernel
theorem nd_Main_task_37 : decode prog_1_method_2_code 37 = .ok (.getfield 12, 3) := by decide +kernel
theorem nd_Main_task_40 : decode prog_1_method_2_code 40 = .ok (.iload_n 1, 1) := by decide +kernel
theorem nd_Main_task_41 : decode prog_1_method_2_code 41 = .ok (.iload_n 2, 1) := by decide +kernel
theorem nd_Main_task_42 : decode prog_1_method_2_code 42 = .ok (.invokevirtual 55, 3) := by decide +kernel
theorem nd_Main_task_45 : decode prog_1_method_2_code 45 = .ok (.ireturn, 1) := by decide +kernel
def md_Main_task (mn : cr_S) (lt : Int64) (pl : cr_S) (bd : cr_S) (lk : cr_S) (tr : cr_S) (tb : cr_S) (x1 : Int32) (x2 : Int32) : Int32 × cr_S :=
  (if x1 < (1 : Int32) then ((-2 : Int32), pl) else (if (20 : Int32) < x1 then ((-2 : Int32), pl) else (if (md_Main_isCore  x2) = 0 then ((-2 : Int32), pl) else (if (pl 0 0) < (10 : Int32) then (((md_Plan_addTask pl x1 x2).1), ((md_Plan_addTask pl x1 x2).2)) else ((-4 : Int32), pl)))))
abbrev pq_Main_task (dC : Nat → ClassId) (dI : Nat → Nat → Nat) (cI cZ cO : ClassId) (amn apl abd alk atr atb : Nat → Nat) (mn : cr_S) (lt : Int64) (pl : cr_S) (bd : cr_S) (lk : cr_S) (tr : cr_S) (tb : cr_S) (x1 : Int32) (x2 : Int32) (A : Nat → Prop) : Array Value → State → Outcome → State → Prop :=
  va_Qi (fun (r : Int32) (pl' : cr_S) => r = (md_Main_task mn lt pl bd lk tr tb x1 x2).1 ∧ pl' = (md_Main_task mn lt pl bd lk tr tb x1 x2).2 ∧ cr_RPlan pl') (fun (pl' : cr_S) t => va_P (dC, dI) vwCl (cw_Main cI cZ cO amn apl abd alk atr mn lt ++ cw_Plan cI cZ cO apl pl' ++ cw_Board cI cZ cO abd apl bd ++ cw_Locks cI cZ cO alk lk ++ cw_Trial cI cZ cO atr apl atb tr ++ cw_Board cI cZ cO atb apl tb) t.heap ∧ va_K (dC, dI) vwCl [(cI, .int), (cZ, .boolean), (cO, .array .int)] t ∧ va_D A (cw_Main cI cZ cO amn apl abd alk atr mn lt ++ cw_Plan cI cZ cO apl pl' ++ cw_Board cI cZ cO abd apl bd ++ cw_Locks cI cZ cO alk lk ++ cw_Trial cI cZ cO atr apl atb tr ++ cw_Board cI cZ cO atb apl tb)) A
set_option maxHeartbeats 4000000 in
set_option maxRecDepth 100000 in
theorem ct_Main_task (l : Launch) (dC : Nat → ClassId) (dI : Nat → Nat → Nat) (cI cZ cO : ClassId) (amn apl abd alk atr atb : Nat → Nat) (sz : Nat) (mn : cr_S) (lt : Int64) (pl : cr_S) (bd : cr_S) (lk : cr_S) (tr : cr_S) (tb : cr_S) (x1 : Int32) (x2 : Int32) (hR_tb : cr_RBoard tb) (hR_lk : cr_RLocks lk) (hR_bd : cr_RBoard bd) (hR_pl : cr_RPlan pl) : Met l ny_Main_task nw_Main_task ({ frames := 1, cells := 0, slots := 0, locals := 22 } : Room) (va_Pc [.ref (amn 0), .int x1, .int x2] (fun U => U.heap.size = sz ∧ va_P (dC, dI) vwCl (cw_Main cI cZ cO amn apl abd alk atr mn lt ++ cw_Plan cI cZ cO apl pl ++ cw_Board cI cZ cO abd apl bd ++ cw_Locks cI cZ cO alk lk ++ cw_Trial cI cZ cO atr apl atb tr ++ cw_Board cI cZ cO atb apl tb) U.heap ∧ va_K (dC, dI) vwCl [(cI, .int), (cZ, .boolean), (cO, .array .int)] U ∧ va_D (fun _ => True) (cw_Main cI cZ cO amn apl abd alk atr mn lt ++ cw_Plan cI cZ cO apl pl ++ cw_Board cI cZ cO abd apl bd ++ cw_Locks cI cZ cO alk lk ++ cw_Trial cI cZ cO atr apl atb tr ++ cw_Board cI cZ cO atb apl tb))) (pq_Main_task dC dI cI cZ cO amn apl abd alk atr atb mn lt pl bd lk tr tb x1 x2 (va_A (cw_Main cI cZ cO amn apl abd alk atr mn lt ++ cw_Plan cI cZ cO apl pl ++ cw_Board cI cZ cO abd apl bd ++ cw_Locks cI cZ cO alk lk ++ cw_Trial cI cZ cO atr apl atb tr ++ cw_Board cI cZ cO atb apl tb) sz)) 0 0 (va_A (cw_Main cI cZ cO amn apl abd alk atr mn lt ++ cw_Plan cI cZ cO apl pl ++ cw_Board cI cZ cO abd apl bd ++ cw_Locks cI cZ cO alk lk ++ cw_Trial cI cZ cO atr apl atb tr ++ cw_Board cI cZ cO atb apl tb) sz) := by
  refine Met.ofW (cc := prog_1_method_2_code) (maxL := 3) (ret := (some .int)) (by decide) rfl ?_
  intro p e s m args below meth c s₁ B hml hv
  obtain ⟨rfl, hsz, hP, hK, hD0⟩ := hv
  have hx := B.exec
  have hb := B.bytes
  have hr := B.returns
  have hts0 := atoms_spec (ws := nw_Main_task) B.pre
  have hts : ∀ w ∈ ng_tbl, w.before ([.ref (amn 0), .int x1, .int x2] : List Value).toArray s = true := fun w h => hts0 w (List.mem_cons_of_mem _ h)
  have hown : s.vm.findClass "CeilingRows" = some m.cls := findClass_of_methodNamed B.named
  have hlocks := B.notSynchronized
  subst hsz
  have hD := hD0.self (sz := s.heap.size)
  generalize hAe : va_A (cw_Main cI cZ cO amn apl abd alk atr mn lt ++ cw_Plan cI cZ cO apl pl ++ cw_Board cI cZ cO abd apl bd ++ cw_Locks cI cZ cO alk lk ++ cw_Trial cI cZ cO atr apl atb tr ++ cw_Board cI cZ cO atb apl tb) s.heap.size = A at hD ⊢
  have hA : ∀ q : Nat, s.heap.size ≤ q → A q := fun q h => by rw [← hAe]; exact Or.inr h
  have hS : va_S A s.heap s.heap [] := va_S.rf
  have hP : va_P (dC, dI) vwCl (cw_Main cI cZ cO amn apl abd alk atr mn lt ++ cw_Plan cI cZ cO apl pl ++ cw_Board cI cZ cO abd apl bd ++ cw_Locks cI cZ cO alk lk ++ cw_Trial cI cZ cO atr apl atb tr ++ cw_Board cI cZ cO atb apl tb) s.heap := hP
  have hl := lv_entry ([.ref (amn 0), .int x1, .int x2]) (n := 3) (Nat.le_of_ble_eq_true rfl)
  rw [lg_entry_eq]
  generalize (lg_sl ([.ref (amn 0), .int x1, .int x2]) ++ List.replicate (3 - (lg_sl ([.ref (amn 0), .int x1, .int x2])).length) Slot.unset).toArray = ls at hl ⊢
  have hl : lv_has ls 3 [(0, .ref (amn 0)), (1, .int x1), (2, .int x2)] := hl
  have f0_pl_0 := cr_rfo hR_pl.1
  have f0_pl_1 := cr_rfo hR_pl.2.1
  have k_m4 : (-4 : Int32).toInt = -4 := by decide
  have k_m2 : (-2 : Int32).toInt = -2 := by decide
  have k_0 : (0 : Int32).toInt = 0 := by decide
  have k_1 : (1 : Int32).toInt = 1 := by decide
  have k_10 : (10 : Int32).toInt = 10 := by decide
  have k_20 : (20 : Int32).toInt = 20 := by decide
  obtain ⟨tgt, hT⟩ : ∃ z, md_Main_task mn lt pl bd lk tr tb x1 x2 = z := ⟨_, rfl⟩
  have hM := hT
  unfold md_Main_task at hM
  refine lv_iload_n hx hb nd_Main_task_0 rfl (lv_at hl 1 rfl) ?_
  refine lv_iconst (v := 1) hx hb nd_Main_task_1 (by decide) ?_
  refine lv_icmp_lt (tgt := 18) hx hb nd_Main_task_2 (by decide) (fun c_1 => ?_) (fun c_1 => ?_)
  · have c_1t := cr_lt c_1
    rw [if_pos c_1] at hM
    refine lv_bipush (v := -2) hx hb nd_Main_task_18 (by decide) ?_
    exact W.iret (v := (-2 : Int32)) hx hb hr (fun t ht hW => ⟨⟨(-2 : Int32), pl, rfl, ⟨by rw [hT, ← hM], by rw [hT, ← hM], hR_pl⟩, by rw [ht]; exact hP, va_K.moved hW.alike hK, hD⟩, hS.F ht⟩) hS.2.2 nd_Main_task_20
  · have c_1t := cr_nlt c_1
    rw [if_neg c_1] at hM
    refine lv_iload_n hx hb nd_Main_task_5 rfl (lv_at hl 1 rfl) ?_
    refine lv_bipush (v := 20) hx hb nd_Main_task_6 (by decide) ?_
    refine lv_icmp_gt (tgt := 18) hx hb nd_Main_task_8 (by decide) (fun c_2 => ?_) (fun c_2 => ?_)
    · have c_2t := cr_lt c_2
      rw [if_pos c_2] at hM
      refine lv_bipush (v := -2) hx hb nd_Main_task_18 (by decide) ?_
      exact W.iret (v := (-2 : Int32)) hx hb hr (fun t ht hW => ⟨⟨(-2 : Int32), pl, rfl, ⟨by rw [hT, ← hM], by rw [hT, ← hM], hR_pl⟩, by rw [ht]; exact hP, va_K.moved hW.alike hK, hD⟩, hS.F ht⟩) hS.2.2 nd_Main_task_20
    · have c_2t := cr_nlt c_2
      rw [if_neg c_2] at hM
      refine lv_iload_n hx hb nd_Main_task_11 rfl (lv_at hl 2 rfl) ?_
      have hPc := hP.sub (ws' := ([] : va_W)) [] rfl
      have hDc := hD.sub (ws' := ([] : va_W)) [] (by decide) rfl
      have hFc := va_free (wc := ([] : va_W)) hD hS hA [] rfl
      refine va_calli (va_runS (As := [.int x2]) (rest := []) ⟨hx, hb, hml, hown, hts⟩ (ct_Main_isCore l dC dI cI cZ cO  s.heap.size  x2 ) (va_cwS 1 hts (ng_S tw_162 tw_163 tw_1 tw_164) rfl rfl rfl (by decide +kernel) ⟨Nat.le_of_ble_eq_true rfl, Nat.le_of_ble_eq_true rfl⟩) ⟨fun a U g mk q => by obtain ⟨q0, q1, qP, qK, qD⟩ := q; exact ⟨q0, q1, qP, va_K.moved (u := U) (U := U.calling g mk a) (Vm.Alike.refl U.vm) qK, qD⟩, fun U hU hW => ⟨rfl, by rw [hU], by rw [hU]; exact hPc, va_K.moved hW.alike hK, hDc.weaken (fun _ _ _ _ => trivial)⟩⟩ rfl rfl hl.1 rfl (lv_room (Nat.le_of_ble_eq_true rfl)) nd_Main_task_12 ⟨Nat.zero_le _, Nat.zero_le _⟩) hS (fun q _ h => hFc q h) hFc (fun r_3 u t H1 locs ht hvm hw hB hz1 hk1 hS => ?_)
      obtain ⟨hP1, hK1, hD1⟩ := hB
      rw [ht] at hP1
      obtain ⟨w_4, f_5⟩ := hw
      try rw [← w_4] at hM
      obtain ⟨hP, hD⟩ := va_join (wr := cw_Main cI cZ cO amn apl abd alk atr mn lt ++ cw_Plan cI cZ cO apl pl ++ cw_Board cI cZ cO abd apl bd ++ cw_Locks cI cZ cO alk lk ++ cw_Trial cI cZ cO atr apl atb tr ++ cw_Board cI cZ cO atb apl tb) (w1 := ([] : va_W)) hP hD [] [0, 1, 2, 3, 4, 5, 6, 7, 8, 9, 10, 11, 12, 13, 14, 15, 16, 17, 18, 19, 20, 21, 22, 23, 24, 25, 26, 27, 28, 29, 30, 31, 32, 33, 34, 35, 36, 37, 38, 39, 40, 41, 42, 43, 44, 45, 46, 47, 48] rfl rfl (by decide) (by decide) hk1 hFc hP1 hD1
      have hP := hP.sub (ws' := cw_Main cI cZ cO amn apl abd alk atr mn lt ++ cw_Plan cI cZ cO apl pl ++ cw_Board cI cZ cO abd apl bd ++ cw_Locks cI cZ cO alk lk ++ cw_Trial cI cZ cO atr apl atb tr ++ cw_Board cI cZ cO atb apl tb) [0, 1, 2, 3, 4, 5, 6, 7, 8, 9, 10, 11, 12, 13, 14, 15, 16, 17, 18, 19, 20, 21, 22, 23, 24, 25, 26, 27, 28, 29, 30, 31, 32, 33, 34, 35, 36, 37, 38, 39, 40, 41, 42, 43, 44, 45, 46, 47, 48] rfl
      have hD := hD.sub (ws' := cw_Main cI cZ cO amn apl abd alk atr mn lt ++ cw_Plan cI cZ cO apl pl ++ cw_Board cI cZ cO abd apl bd ++ cw_Locks cI cZ cO alk lk ++ cw_Trial cI cZ cO atr apl atb tr ++ cw_Board cI cZ cO atb apl tb) [0, 1, 2, 3, 4, 5, 6, 7, 8, 9, 10, 11, 12, 13, 14, 15, 16, 17, 18, 19, 20, 21, 22, 23, 24, 25, 26, 27, 28, 29, 30, 31, 32, 33, 34, 35, 36, 37, 38, 39, 40, 41, 42, 43, 44, 45, 46, 47, 48] (by decide) rfl
      generalize H1 = H at hP hS ⊢
      refine lv_if_ne (tgt := 21) hx hb nd_Main_task_15 (by decide) (fun c_6 => ?_) (fun c_6 => ?_)
      · have c_6t := cr_ne c_6
        rw [if_neg c_6] at hM
        refine lv_aload_n hx hb nd_Main_task_21 rfl (lv_at hl 0 rfl) ?_
        refine va_get (D := (dC, dI)) (ci := 4) (v := .ref (apl 0)) (C := "CeilingRows") (T := nf_Main) (N := 6) hx hb hts nin_Main hown hK hP 0 rfl rfl 0 (by decide) (hts _ tw_138) (fun _ h9 => h9) rfl nd_Main_task_22 ?_
        refine va_get (D := (dC, dI)) (ci := 0) (v := .int (pl 0 0)) (C := "CeilingRows$Plan") (T := nf_Plan) (N := 7) hx hb hts nin_Plan hown hK hP 2 rfl rfl 0 (by decide) (hts _ tw_28) (fun _ h9 => h9) rfl nd_Main_task_25 ?_
        have f_7 := cr_rfo hR_pl.1
        refine lv_bipush (v := 10) hx hb nd_Main_task_28 (by decide) ?_
        refine lv_icmp_lt (tgt := 36) hx hb nd_Main_task_30 (by decide) (fun c_8 => ?_) (fun c_8 => ?_)
        · have c_8t := cr_lt c_8
          rw [if_pos c_8] at hM
          refine lv_aload_n hx hb nd_Main_task_36 rfl (lv_at hl 0 rfl) ?_
          refine va_get (D := (dC, dI)) (ci := 4) (v := .ref (apl 0)) (C := "CeilingRows") (T := nf_Main) (N := 6) hx hb hts nin_Main hown hK hP 0 rfl rfl 0 (by decide) (hts _ tw_138) (fun _ h9 => h9) rfl nd_Main_task_37 ?_
          refine lv_iload_n hx hb nd_Main_task_40 rfl (lv_at hl 1 rfl) ?_
          refine lv_iload_n hx hb nd_Main_task_41 rfl (lv_at hl 2 rfl) ?_
          have hPc := hP.sub (ws' := cw_Plan cI cZ cO apl pl) [2, 3, 4, 5, 6, 7, 8, 9, 10, 11, 12, 13, 14, 15, 16, 17, 18] rfl
          have hDc := hD.sub (ws' := cw_Plan cI cZ cO apl pl) [2, 3, 4, 5, 6, 7, 8, 9, 10, 11, 12, 13, 14, 15, 16, 17, 18] (by decide) rfl
          have hFc := va_free (wc := cw_Plan cI cZ cO apl pl) hD hS hA [2, 3, 4, 5, 6, 7, 8, 9, 10, 11, 12, 13, 14, 15, 16, 17, 18] rfl
          refine va_calli (va_runV (As := [.int x1, .int x2]) (rest := []) ⟨hx, hb, hml, hown, hts⟩ (ct_Plan_addTask l dC dI cI cZ cO apl H.size pl x1 x2 hR_pl (by omega) (by omega)) (cwV 2 hts (ng_V tw_165 tw_166 tw_167 tw_2 tw_168) rfl rfl rfl (by decide +kernel) ⟨Nat.le_of_ble_eq_true rfl, Nat.le_of_ble_eq_true rfl⟩) ⟨fun a U g mk q => by obtain ⟨q0, q1, qP, qK, qD⟩ := q; exact ⟨q0, q1, qP, va_K.moved (u := U) (U := U.calling g mk a) (Vm.Alike.refl U.vm) qK, qD⟩, va_recv hK hPc (ci := 0) (q0 := 0) rfl rfl, fun U hU hW => ⟨rfl, by rw [hU], by rw [hU]; exact hPc, va_K.moved hW.alike hK, hDc.weaken (fun _ _ _ _ => trivial)⟩⟩ rfl rfl hl.1 rfl (lv_room (Nat.le_of_ble_eq_true rfl)) nd_Main_task_42 ⟨Nat.zero_le _, Nat.zero_le _⟩) hS (fun q _ h => hFc q h) hFc (fun r_9 u t H1 locs ht hvm hw hB hz1 hk1 hS => ?_)
          obtain ⟨hP1, hK1, hD1⟩ := hB
          rw [ht] at hP1
          obtain ⟨plq_11, rfl⟩ : ∃ z, z = u := ⟨_, rfl⟩
          obtain ⟨w_10, w_12, hR_13⟩ := hw
          try rw [← w_10] at hM
          try rw [← w_12] at hM
          obtain ⟨hP, hD⟩ := va_join (wr := cw_Main cI cZ cO amn apl abd alk atr mn lt ++ cw_Board cI cZ cO abd apl bd ++ cw_Locks cI cZ cO alk lk ++ cw_Trial cI cZ cO atr apl atb tr ++ cw_Board cI cZ cO atb apl tb) (w1 := cw_Plan cI cZ cO apl plq_11) hP hD [2, 3, 4, 5, 6, 7, 8, 9, 10, 11, 12, 13, 14, 15, 16, 17, 18] [0, 1, 19, 20, 21, 22, 23, 24, 25, 26, 27, 28, 29, 30, 31, 32, 33, 34, 35, 36, 37, 38, 39, 40, 41, 42, 43, 44, 45, 46, 47, 48] rfl rfl (by decide) (by decide) hk1 hFc hP1 hD1
          have hP := hP.sub (ws' := cw_Main cI cZ cO amn apl abd alk atr mn lt ++ cw_Plan cI cZ cO apl plq_11 ++ cw_Board cI cZ cO abd apl bd ++ cw_Locks cI cZ cO alk lk ++ cw_Trial cI cZ cO atr apl atb tr ++ cw_Board cI cZ cO atb apl tb) [0, 1, 32, 33, 34, 35, 36, 37, 38, 39, 40, 41, 42, 43, 44, 45, 46, 47, 48, 2, 3, 4, 5, 6, 7, 8, 9, 10, 11, 12, 13, 14, 15, 16, 17, 18, 19, 20, 21, 22, 23, 24, 25, 26, 27, 28, 29, 30, 31] rfl
          have hD := hD.sub (ws' := cw_Main cI cZ cO amn apl abd alk atr mn lt ++ cw_Plan cI cZ cO apl plq_11 ++ cw_Board cI cZ cO abd apl bd ++ cw_Locks cI cZ cO alk lk ++ cw_Trial cI cZ cO atr apl atb tr ++ cw_Board cI cZ cO atb apl tb) [0, 1, 32, 33, 34, 35, 36, 37, 38, 39, 40, 41, 42, 43, 44, 45, 46, 47, 48, 2, 3, 4, 5, 6, 7, 8, 9, 10, 11, 12, 13, 14, 15, 16, 17, 18, 19, 20, 21, 22, 23, 24, 25, 26, 27, 28, 29, 30, 31] (by decide) rfl
          generalize H1 = H at hP hS ⊢
          exact W.iret (v := r_9) hx hb hr (fun t ht hW => ⟨⟨r_9, plq_11, rfl, ⟨by rw [hT, ← hM], by rw [hT, ← hM], hR_13⟩, by rw [ht]; exact hP, va_K.moved hW.alike hK, hD⟩, hS.F ht⟩) hS.2.2 nd_Main_task_45
        · have c_8t := cr_nlt c_8
          rw [if_neg c_8] at hM
          refine lv_bipush (v := -4) hx hb nd_Main_task_33 (by decide) ?_
          exact W.iret (v := (-4 : Int32)) hx hb hr (fun t ht hW => ⟨⟨(-4 : Int32), pl, rfl, ⟨by rw [hT, ← hM], by rw [hT, ← hM], hR_pl⟩, by rw [ht]; exact hP, va_K.moved hW.alike hK, hD⟩, hS.F ht⟩) hS.2.2 nd_Main_task_35
      · have c_6t := cr_eq c_6
        rw [if_pos c_6] at hM
        refine lv_bipush (v := -2) hx hb nd_Main_task_18 (by decide) ?_
        exact W.iret (v := (-2 : Int32)) hx hb hr (fun t ht hW => ⟨⟨(-2 : Int32), pl, rfl, ⟨by rw [hT, ← hM], by rw [hT, ← hM], hR_pl⟩, by rw [ht]; exact hP, va_K.moved hW.alike hK, hD⟩, hS.F ht⟩) hS.2.2 nd_Main_task_20

theorem nd_Main_resource_0 : decode prog_1_method_3_code 0 = .ok (.aload_n 0, 1) := by decide +kernel
theorem nd_Main_resource_1 : decode prog_1_method_3_code 1 = .ok (.getfield 12, 3) := by decide +kernel
theorem nd_Main_resource_4 : decode prog_1_method_3_code 4 = .ok (.getfield 59, 3) := by decide +kernel
theorem nd_Main_resource_7 : decode prog_1_method_3_code 7 = .ok (.bipush 8, 2) := by decide +kernel
theorem nd_Main_resource_9 : decode prog_1_method_3_code 9 = .ok (.if_icmp .lt (6), 3) := by decide +kernel
theorem nd_Main_resource_12 : decode prog_1_method_3_code 12 = .ok (.bipush (-4), 2) := by decide +kernel
theorem nd_Main_resource_14 : decode prog_1_method_3_code 14 = .ok (.ireturn, 1) := by decide +kernel
theorem nd_Main_resource_15 : decode prog_1_method_3_code 15 = .ok (.aload_n 0, 1) := by decide +kernel
theorem nd_Main_resource_16 : decode prog_1_method_3_code 16 = .ok (.getfield 12, 3) := by decide +kernel
theorem nd_Main_resource_19 : decode prog_1_method_3_code 19 = .ok (.invokevirtual 62, 3) := by decide +kernel
theorem nd_Main_resource_22 : decode prog_1_method_3_code 22 = .ok (.ireturn, 1) := by decide +kernel
def md_Main_resource (mn : cr_S) (lt : Int64) (pl : cr_S) (bd : cr_S) (lk : cr_S) (tr : cr_S) (tb : cr_S) : Int32 × cr_S :=
  (if (pl 0 1) < (8 : Int32) then (((md_Plan_addResource pl).1), ((md_Plan_addResource pl).2)) else ((-4 : Int32), pl))
abbrev pq_Main_resource (dC : Nat → ClassId) (dI : Nat → Nat → Nat) (cI cZ cO : ClassId) (amn apl abd alk atr atb : Nat → Nat) (mn : cr_S) (lt : Int64) (pl : cr_S) (bd : cr_S) (lk : cr_S) (tr : cr_S) (tb : cr_S)  (A : Nat → Prop) : Array Value → State → Outcome → State → Prop :=
  va_Qi (fun (r : Int32) (pl' : cr_S) => r = (md_Main_resource mn lt pl bd lk tr tb).1 ∧ pl' = (md_Main_resource mn lt pl bd lk tr tb).2 ∧ cr_RPlan pl') (fun (pl' : cr_S) t => va_P (dC, dI) vwCl (cw_Main cI cZ cO amn apl abd alk atr mn lt ++ cw_Plan cI cZ cO apl pl' ++ cw_Board cI cZ cO abd apl bd ++ cw_Locks cI cZ cO alk lk ++ cw_Trial cI cZ cO atr apl atb tr ++ cw_Board cI cZ cO atb apl tb) t.heap ∧ va_K (dC, dI) vwCl [(cI, .int), (cZ, .boolean), (cO, .array .int)] t ∧ va_D A (cw_Main cI cZ cO amn apl abd alk atr mn lt ++ cw_Plan cI cZ cO apl pl' ++ cw_Board cI cZ cO abd apl bd ++ cw_Locks cI cZ cO alk lk ++ cw_Trial cI cZ cO atr apl atb tr ++ cw_Board cI cZ cO atb apl tb)) A
set_option maxHeartbeats 4000000 in
set_option maxRecDepth 100000 in
theorem ct_Main_resource (l : Launch) (dC : Nat → ClassId) (dI : Nat → Nat → Nat) (cI cZ cO : ClassId) (amn apl abd alk atr atb : Nat → Nat) (sz : Nat) (mn : cr_S) (lt : Int64) (pl : cr_S) (bd : cr_S) (lk : cr_S) (tr : cr_S) (tb : cr_S)  (hR_tb : cr_RBoard tb) (hR_lk : cr_RLocks lk) (hR_bd : cr_RBoard bd) (hR_pl : cr_RPlan pl) : Met l ny_Main_resource nw_Main_resource ({ frames := 1, cells := 0, slots := 0, locals := 20 } : Room) (va_Pc [.ref (amn 0)] (fun U => U.heap.size = sz ∧ va_P (dC, dI) vwCl (cw_Main cI cZ cO amn apl abd alk atr mn lt ++ cw_Plan cI cZ cO apl pl ++ cw_Board cI cZ cO abd apl bd ++ cw_Locks cI cZ cO alk lk ++ cw_Trial cI cZ cO atr apl atb tr ++ cw_Board cI cZ cO atb apl tb) U.heap ∧ va_K (dC, dI) vwCl [(cI, .int), (cZ, .boolean), (cO, .array .int)] U ∧ va_D (fun _ => True) (cw_Main cI cZ cO amn apl abd alk atr mn lt ++ cw_Plan cI cZ cO apl pl ++ cw_Board cI cZ cO abd apl bd ++ cw_Locks cI cZ cO alk lk ++ cw_Trial cI cZ cO atr apl atb tr ++ cw_Board cI cZ cO atb apl tb))) (pq_Main_resource dC dI cI cZ cO amn apl abd alk atr atb mn lt pl bd lk tr tb  (va_A (cw_Main cI cZ cO amn apl abd alk atr mn lt ++ cw_Plan cI cZ cO apl pl ++ cw_Board cI cZ cO abd apl bd ++ cw_Locks cI cZ cO alk lk ++ cw_Trial cI cZ cO atr apl atb tr ++ cw_Board cI cZ cO atb apl tb) sz)) 0 0 (va_A (cw_Main cI cZ cO amn apl abd alk atr mn lt ++ cw_Plan cI cZ cO apl pl ++ cw_Board cI cZ cO abd apl bd ++ cw_Locks cI cZ cO alk lk ++ cw_Trial cI cZ cO atr apl atb tr ++ cw_Board cI cZ cO atb apl tb) sz) := by
  refine Met.ofW (cc := prog_1_method_3_code) (maxL := 1) (ret := (some .int)) (by decide) rfl ?_
  intro p e s m args below meth c s₁ B hml hv
  obtain ⟨rfl, hsz, hP, hK, hD0⟩ := hv
  have hx := B.exec
  have hb := B.bytes
  have hr := B.returns
  have hts0 := atoms_spec (ws := nw_Main_resource) B.pre
  have hts : ∀ w ∈ ng_tbl, w.before ([.ref (amn 0)] : List Value).toArray s = true := fun w h => hts0 w (List.mem_cons_of_mem _ h)
  have hown : s.vm.findClass "CeilingRows" = some m.cls := findClass_of_methodNamed B.named
  have hlocks := B.notSynchronized
  subst hsz
  have hD := hD0.self (sz := s.heap.size)
  generalize hAe : va_A (cw_Main cI cZ cO amn apl abd alk atr mn lt ++ cw_Plan cI cZ cO apl pl ++ cw_Board cI cZ cO abd apl bd ++ cw_Locks cI cZ cO alk lk ++ cw_Trial cI cZ cO atr apl atb tr ++ cw_Board cI cZ cO atb apl tb) s.heap.size = A at hD ⊢
  have hA : ∀ q : Nat, s.heap.size ≤ q → A q := fun q h => by rw [← hAe]; exact Or.inr h
  have hS : va_S A s.heap s.heap [] := va_S.rf
  have hP : va_P (dC, dI) vwCl (cw_Main cI cZ cO amn apl abd alk atr mn lt ++ cw_Plan cI cZ cO apl pl ++ cw_Board cI cZ cO abd apl bd ++ cw_Locks cI cZ cO alk lk ++ cw_Trial cI cZ cO atr apl atb tr ++ cw_Board cI cZ cO atb apl tb) s.heap := hP
  have hl := lv_entry ([.ref (amn 0)]) (n := 1) (Nat.le_of_ble_eq_true rfl)
  rw [lg_entry_eq]
  generalize (lg_sl ([.ref (amn 0)]) ++ List.replicate (1 - (lg_sl ([.ref (amn 0)])).length) Slot.unset).toArray = ls at hl ⊢
  have hl : lv_has ls 1 [(0, .ref (amn 0))] := hl
  have f0_pl_0 := cr_rfo hR_pl.1
  have f0_pl_1 := cr_rfo hR_pl.2.1
  have k_m4 : (-4 : Int32).toInt = -4 := by decide
  have k_8 : (8 : Int32).toInt = 8 := by decide
  obtain ⟨tgt, hT⟩ : ∃ z, md_Main_resource mn lt pl bd lk tr tb = z := ⟨_, rfl⟩
  have hM := hT
  unfold md_Main_resource at hM
  refine lv_aload_n hx hb nd_Main_resource_0 rfl (lv_at hl 0 rfl) ?_
  refine va_get (D := (dC, dI)) (ci := 4) (v := .ref (apl 0)) (C := "CeilingRows") (T := nf_Main) (N := 6) hx hb hts nin_Main hown hK hP 0 rfl rfl 0 (by decide) (hts _ tw_138) (fun _ h9 => h9) rfl nd_Main_resource_1 ?_
  refine va_get (D := (dC, dI)) (ci := 0) (v := .int (pl 0 1)) (C := "CeilingRows$Plan") (T := nf_Plan) (N := 7) hx hb hts nin_Plan hown hK hP 2 rfl rfl 1 (by decide) (hts _ tw_30) (fun _ h9 => h9) rfl nd_Main_resource_4 ?_
  have f_1 := cr_rfo hR_pl.2.1
  refine lv_bipush (v := 8) hx hb nd_Main_resource_7 (by decide) ?_
  refine lv_icmp_lt (tgt := 15) hx hb nd_Main_resource_9 (by decide) (fun c_2 => ?_) (fun c_2 => ?_)
  · have c_2t := cr_lt c_2
    rw [if_pos c_2] at hM
    refine lv_aload_n hx hb nd_Main_resource_15 rfl (lv_at hl 0 rfl) ?_
    refine va_get (D := (dC, dI)) (ci := 4) (v := .ref (apl 0)) (C := "CeilingRows") (T := nf_Main) (N := 6) hx hb hts nin_Main hown hK hP 0 rfl rfl 0 (by decide) (hts _ tw_138) (fun _ h9 => h9) rfl nd_Main_resource_16 ?_
    have hPc := hP.sub (ws' := cw_Plan cI cZ cO apl pl) [2, 3, 4, 5, 6, 7, 8, 9, 10, 11, 12, 13, 14, 15, 16, 17, 18] rfl
    have hDc := hD.sub (ws' := cw_Plan cI cZ cO apl pl) [2, 3, 4, 5, 6, 7, 8, 9, 10, 11, 12, 13, 14, 15, 16, 17, 18] (by decide) rfl
    have hFc := va_free (wc := cw_Plan cI cZ cO apl pl) hD hS hA [2, 3, 4, 5, 6, 7, 8, 9, 10, 11, 12, 13, 14, 15, 16, 17, 18] rfl
    refine va_calli (va_runV (As := []) (rest := []) ⟨hx, hb, hml, hown, hts⟩ (ct_Plan_addResource l dC dI cI cZ cO apl s.heap.size pl  hR_pl (by omega)) (cwV 0 hts (ng_V tw_173 tw_174 tw_175 tw_2 tw_176) rfl rfl rfl (by decide +kernel) ⟨Nat.le_of_ble_eq_true rfl, Nat.le_of_ble_eq_true rfl⟩) ⟨fun a U g mk q => by obtain ⟨q0, q1, qP, qK, qD⟩ := q; exact ⟨q0, q1, qP, va_K.moved (u := U) (U := U.calling g mk a) (Vm.Alike.refl U.vm) qK, qD⟩, va_recv hK hPc (ci := 0) (q0 := 0) rfl rfl, fun U hU hW => ⟨rfl, by rw [hU], by rw [hU]; exact hPc, va_K.moved hW.alike hK, hDc.weaken (fun _ _ _ _ => trivial)⟩⟩ rfl rfl hl.1 rfl (lv_room (Nat.le_of_ble_eq_true rfl)) nd_Main_resource_19 ⟨Nat.zero_le _, Nat.zero_le _⟩) hS (fun q _ h => hFc q h) hFc (fun r_3 u t H1 locs ht hvm hw hB hz1 hk1 hS => ?_)
    obtain ⟨hP1, hK1, hD1⟩ := hB
    rw [ht] at hP1
    obtain ⟨plq_5, rfl⟩ : ∃ z, z = u := ⟨_, rfl⟩
    obtain ⟨w_4, w_6, hR_7⟩ := hw
    try rw [← w_4] at hM
    try rw [← w_6] at hM
    obtain ⟨hP, hD⟩ := va_join (wr := cw_Main cI cZ cO amn apl abd alk atr mn lt ++ cw_Board cI cZ cO abd apl bd ++ cw_Locks cI cZ cO alk lk ++ cw_Trial cI cZ cO atr apl atb tr ++ cw_Board cI cZ cO atb apl tb) (w1 := cw_Plan cI cZ cO apl plq_5) hP hD [2, 3, 4, 5, 6, 7, 8, 9, 10, 11, 12, 13, 14, 15, 16, 17, 18] [0, 1, 19, 20, 21, 22, 23, 24, 25, 26, 27, 28, 29, 30, 31, 32, 33, 34, 35, 36, 37, 38, 39, 40, 41, 42, 43, 44, 45, 46, 47, 48] rfl rfl (by decide) (by decide) hk1 hFc hP1 hD1
    have hP := hP.sub (ws' := cw_Main cI cZ cO amn apl abd alk atr mn lt ++ cw_Plan cI cZ cO apl plq_5 ++ cw_Board cI cZ cO abd apl bd ++ cw_Locks cI cZ cO alk lk ++ cw_Trial cI cZ cO atr apl atb tr ++ cw_Board cI cZ cO atb apl tb) [0, 1, 32, 33, 34, 35, 36, 37, 38, 39, 40, 41, 42, 43, 44, 45, 46, 47, 48, 2, 3, 4, 5, 6, 7, 8, 9, 10, 11, 12, 13, 14, 15, 16, 17, 18, 19, 20, 21, 22, 23, 24, 25, 26, 27, 28, 29, 30, 31] rfl
    have hD := hD.sub (ws' := cw_Main cI cZ cO amn apl abd alk atr mn lt ++ cw_Plan cI cZ cO apl plq_5 ++ cw_Board cI cZ cO abd apl bd ++ cw_Locks cI cZ cO alk lk ++ cw_Trial cI cZ cO atr apl atb tr ++ cw_Board cI cZ cO atb apl tb) [0, 1, 32, 33, 34, 35, 36, 37, 38, 39, 40, 41, 42, 43, 44, 45, 46, 47, 48, 2, 3, 4, 5, 6, 7, 8, 9, 10, 11, 12, 13, 14, 15, 16, 17, 18, 19, 20, 21, 22, 23, 24, 25, 26, 27, 28, 29, 30, 31] (by decide) rfl
    generalize H1 = H at hP hS ⊢
    exact W.iret (v := r_3) hx hb hr (fun t ht hW => ⟨⟨r_3, plq_5, rfl, ⟨by rw [hT, ← hM], by rw [hT, ← hM], hR_7⟩, by rw [ht]; exact hP, va_K.moved hW.alike hK, hD⟩, hS.F ht⟩) hS.2.2 nd_Main_resource_22
  · have c_2t := cr_nlt c_2
    rw [if_neg c_2] at hM
    refine lv_bipush (v := -4) hx hb nd_Main_resource_12 (by decide) ?_
    exact W.iret (v := (-4 : Int32)) hx hb hr (fun t ht hW => ⟨⟨(-4 : Int32), pl, rfl, ⟨by rw [hT, ← hM], by rw [hT, ← hM], hR_pl⟩, by rw [ht]; exact hP, va_K.moved hW.alike hK, hD⟩, hS.F ht⟩) hS.2.2 nd_Main_resource_14

theorem nd_Main_uses_0 : decode prog_1_method_4_code 0 = .ok (.aload_n 0, 1) := by decide +kernel
theorem nd_Main_uses_1 : decode prog_1_method_4_code 1 = .ok (.getfield 12, 3) := by decide +kernel
theorem nd_Main_uses_4 : decode prog_1_method_4_code 4 = .ok (.iload_n 1, 1) := by decide +kernel
theorem nd_Main_uses_5 : decode prog_1_method_4_code 5 = .ok (.invokevirtual 66, 3) := by decide +kernel
theorem nd_Main_uses_8 : decode prog_1_method_4_code 8 = .ok (.ifCond .eq (14), 3) := by decide +kernel
theorem nd_Main_uses_11 : decode prog_1_method_4_code 11 = .ok (.aload_n 0, 1) := by decide +kernel
theorem nd_Main_uses_12 : decode prog_1_method_4_code 12 = .ok (.getfield 12, 3) := by decide +kernel
theorem nd_Main_uses_15 : decode prog_1_method_4_code 15 = .ok (.iload_n 2, 1) := by decide +kernel
theorem nd_Main_uses_16 : decode prog_1_method_4_code 16 = .ok (.invokevirtual 69, 3) := by decide +kernel
theorem nd_Main_uses_19 : decode prog_1_method_4_code 19 = .ok (.ifCond .ne (5), 3) := by decide +kernel
theorem nd_Main_uses_22 : decode prog_1_method_4_code 22 = .ok (.iconst (-1), 1) := by decide +kernel
theorem nd_Main_uses_23 : decode prog_1_method_4_code 23 = .ok (.ireturn, 1) := by decide +kernel
theorem nd_Main_uses_24 : decode prog_1_method_4_code 24 = .ok (.lload_n 3, 1) := by decide +kernel
theorem nd_Main_uses_25 : decode prog_1_method_4_code 25 = .ok (.lconst 1, 1) := by decide +kernel
theorem nd_Main_uses_26 : decode prog_1_method_4_code 26 = .ok (.lcmp, 1) := by decide +kernel
theorem nd_Main_uses_27 : decode prog_1_method_4_code 27 = .ok (.ifCond .lt (11), 3) := by decide +kernel
theorem nd_Main_uses_30 : decode prog_1_method_4_code 30 = .ok (.lload_n 3, 1) := by decide +kernel
theorem nd_Main_uses_31 : decode prog_1_method_4_code 31 = .ok (.ldc2_w 72, 3) := by decide +kernel
theorem nd_Main_uses_34 : decode prog_1_method_4_code 34 = .ok (.lcmp, 1) := by decide +kernel
theorem nd_Main_uses_35 : decode prog_1_method_4_code 35 = .ok (.ifCond .le (6), 3) := by decide +kernel
theorem nd_Main_uses_38 : decode prog_1_method_4_code 38 = .ok (.bipush (-2), 2) := by decide +kernel
theorem nd_Main_uses_40 : decode prog_1_method_4_code 40 = .ok (.ireturn, 1) := by decide +kernel
theorem nd_Main_uses_41 : decode prog_1_method_4_code 41 = .ok (.aload_n 0, 1) := by decide +kernel
theorem nd_Main_uses_42 : decode prog_1_method_4_code 42 = .ok (.getfield 12, 3) := by decide +kernel
theorem nd_Main_uses_45 : decode prog_1_method_4_code 45 = .ok (.getfield 74, 3) := by decide +kernel
theorem nd_Main_uses_48 : decode prog_1_method_4_code 48 = .ok (.iload_n 1, 1) := by decide +kernel
theorem nd_Main_uses_49 : decode prog_1_method_4_code 49 = .ok (.iaload, 1) := by decide +kernel
theorem nd_Main_uses_50 : decode prog_1_method_4_code 50 = .ok (.istore 5, 2) := by decide +kernel
theorem nd_Main_uses_52 : decode prog_1_method_4_code 52 = .ok (.aload_n 0, 1) := by decide +kernel
theorem nd_Main_uses_53 : decode prog_1_method_4_code 53 = .ok (.getfield 21, 3) := by decide +kernel
theorem nd_Main_uses_56 : decode prog_1_method_4_code 56 = .ok (.iload 5, 2) := by decide +kernel
theorem nd_Main_uses_58 : decode prog_1_method_4_code 58 = .ok (.invokevirtual 78, 3) := by decide +kernel
theorem nd_Main_uses_61 : decode prog_1_method_4_code 61 = .ok (.ifCond .eq (16), 3) := by decide +kernel
theorem nd_Main_uses_64 : decode prog_1_method_4_code 64 = .ok (.aload_n 0, 1) := by decide +kernel
theorem nd_Main_uses_65 : decode prog_1_method_4_code 65 = .ok (.getfield 12, 3) := by decide +kernel
theorem nd_Main_uses_68 : decode prog_1_method_4_code 68 = .ok (.iload_n 2, 1) := by decide +kernel
theorem nd_Main_uses_69 : decode prog_1_method_4_code 69 = .ok (.iload 5, 2) := by decide +kernel
theorem nd_Main_uses_71 : decode prog_1_method_4_code 71 = .ok (.invokevirtual 81, 3) := by decide +kernel
theorem nd_Main_uses_74 : decode prog_1_method_4_code 74 = .ok (.ifCond .eq (6), 3) := by decide +kernel
theorem nd_Main_uses_77 : decode prog_1_method_4_code 77 = .ok (.bipush (-3), 2) := by decide +kernel
theorem nd_Main_uses_79 : decode prog_1_method_4_code 79 = .ok (.ireturn, 1) := by decide +kernel
theorem nd_Main_uses_80 : decode prog_1_method_4_code 80 = .ok (.aload_n 0, 1) := by decide +kernel
theorem nd_Main_uses_81 : decode prog_1_method_4_code 81 = .ok (.getfield 12, 3) := by decide +kernel
theorem nd_Main_uses_84 : decode prog_1_method_4_code 84 = .ok (.iload_n 1, 1) := by decide +kernel
theorem nd_Main_uses_85 : decode prog_1_method_4_code 85 = .ok (.iload_n 2, 1) := by decide +kernel
theorem nd_Main_uses_86 : decode prog_1_method_4_code 86 = .ok (.invokevirtual 85, 3) := by decide +kernel
theorem nd_Main_uses_89 : decode prog_1_method_4_code 89 = .ok (.ifCond .eq (7), 3) := by decide +kernel
theorem nd_Main_uses_92 : decode prog_1_method_4_code 92 = .ok (.iconst 0, 1) := by decide +kernel
theorem nd_Main_uses_93 : decode prog_1_method_4_code 93 = .ok (.goto (4), 3) := by decide +kernel
theorem nd_Main_uses_96 : decode prog_1_method_4_code 96 = .ok (.iconst 1, 1) := by decide +kernel
theorem nd_Main_uses_97 : decode prog_1_method_4_code 97 = .ok (.istore 6, 2) := by decide +kernel
theorem nd_Main_uses_99 : decode prog_1_method_4_code 99 = .ok (.aload_n 0, 1) := by decide +kernel
theorem nd_Main_uses_100 : decode prog_1_method_4_code 100 = .ok (.getfield 12, 3) := by decide +kernel
theorem nd_Main_uses_103 : decode prog_1_method_4_code 103 = .ok (.iload_n 1, 1) := by decide +kernel
theorem nd_Main_uses_104 : decode prog_1_method_4_code 104 = .ok (.iload_n 2, 1) := by decide +kernel
theorem nd_Main_uses_105 : decode prog_1_method_4_code 105 = .ok (.lload_n 3, 1) := by decide +kernel
theorem nd_Main_uses_106 : decode prog_1_method_4_code 106 = .ok (.l2i, 1) := by decide +kernel
theorem nd_Main_uses_107 : decode prog_1_method_4_code 107 = .ok (.invokevirtual 88, 3) := by decide +kernel
theorem nd_Main_uses_110 : decode prog_1_method_4_code 110 = .ok (.iload 6, 2) := by decide +kernel
theorem nd_Main_uses_112 : decode prog_1_method_4_code 112 = .ok (.ireturn, 1) := by decide +kernel
def md_Main_uses (mn : cr_S) (lt : Int64) (pl : cr_S) (bd : cr_S) (lk : cr_S) (tr : cr_S) (tb : cr_S) (x1 : Int32) (x2 : Int32) (x3 : Int64) : Int32 × cr_S :=
  (if (md_Plan_hasTask pl x1) = 0 then ((-1 : Int32), pl) else (if (md_Plan_hasResource pl x2) = 0 then ((-1 : Int32), pl) else (if (lg_cmp x3 (1 : Int64)) < 0 then ((-2 : Int32), pl) else (if (lg_cmp x3 (1000 : Int64)) ≤ 0 then (if (md_Board_allSleepOn pl bd (pl 2 x1.toNatClampNeg)) = 0 then ((-3 : Int32), pl) else (if (md_Plan_isUsedByAnotherCore pl x2 (pl 2 x1.toNatClampNeg)) = 0 then (if (md_Plan_isUsedBy pl x1 x2) = 0 then ((1 : Int32), (md_Plan_setUse pl x1 x2 x3.toInt32)) else ((0 : Int32), (md_Plan_setUse pl x1 x2 x3.toInt32))) else ((-3 : Int32), pl))) else ((-2 : Int32), pl)))))
abbrev pq_Main_uses (dC : Nat → ClassId) (dI : Nat → Nat → Nat) (cI cZ cO : ClassId) (amn apl abd alk atr atb : Nat → Nat) (mn : cr_S) (lt : Int64) (pl : cr_S) (bd : cr_S) (lk : cr_S) (tr : cr_S) (tb : cr_S) (x1 : Int32) (x2 : Int32) (x3 : Int64) (A : Nat → Prop) : Array Value → State → Outcome → State → Prop :=
  va_Qi (fun (r : Int32) (pl' : cr_S) => r = (md_Main_uses mn lt pl bd lk tr tb x1 x2 x3).1 ∧ pl' = (md_Main_uses mn lt pl bd lk tr tb x1 x2 x3).2 ∧ cr_RPlan pl') (fun (pl' : cr_S) t => va_P (dC, dI) vwCl (cw_Main cI cZ cO amn apl abd alk atr mn lt ++ cw_Plan cI cZ cO apl pl' ++ cw_Board cI cZ cO abd apl bd ++ cw_Locks cI cZ cO alk lk ++ cw_Trial cI cZ cO atr apl atb tr ++ cw_Board cI cZ cO atb apl tb) t.heap ∧ va_K (dC, dI) vwCl [(cI, .int), (cZ, .boolean), (cO, .array .int)] t ∧ va_D A (cw_Main cI cZ cO amn apl abd alk atr mn lt ++ cw_Plan cI cZ cO apl pl' ++ cw_Board cI cZ cO abd apl bd ++ cw_Locks cI cZ cO alk lk ++ cw_Trial cI cZ cO atr apl atb tr ++ cw_Board cI cZ cO atb apl tb)) A
set_option maxHeartbeats 4000000 in
set_option maxRecDepth 100000 in
theorem ct_Main_uses (l : Launch) (dC : Nat → ClassId) (dI : Nat → Nat → Nat) (cI cZ cO : ClassId) (amn apl abd alk atr atb : Nat → Nat) (sz : Nat) (mn : cr_S) (lt : Int64) (pl : cr_S) (bd : cr_S) (lk : cr_S) (tr : cr_S) (tb : cr_S) (x1 : Int32) (x2 : Int32) (x3 : Int64) (hR_tb : cr_RBoard tb) (hR_lk : cr_RLocks lk) (hR_bd : cr_RBoard bd) (hR_pl : cr_RPlan pl) : Met l ny_Main_uses nw_Main_uses ({ frames := 2, cells := 0, slots := 0, locals := 44 } : Room) (va_Pc [.ref (amn 0), .int x1, .int x2, .long x3] (fun U => U.heap.size = sz ∧ va_P (dC, dI) vwCl (cw_Main cI cZ cO amn apl abd alk atr mn lt ++ cw_Plan cI cZ cO apl pl ++ cw_Board cI cZ cO abd apl bd ++ cw_Locks cI cZ cO alk lk ++ cw_Trial cI cZ cO atr apl atb tr ++ cw_Board cI cZ cO atb apl tb) U.heap ∧ va_K (dC, dI) vwCl [(cI, .int), (cZ, .boolean), (cO, .array .int)] U ∧ va_D (fun _ => True) (cw_Main cI cZ cO amn apl abd alk atr mn lt ++ cw_Plan cI cZ cO apl pl ++ cw_Board cI cZ cO abd apl bd ++ cw_Locks cI cZ cO alk lk ++ cw_Trial cI cZ cO atr apl atb tr ++ cw_Board cI cZ cO atb apl tb))) (pq_Main_uses dC dI cI cZ cO amn apl abd alk atr atb mn lt pl bd lk tr tb x1 x2 x3 (va_A (cw_Main cI cZ cO amn apl abd alk atr mn lt ++ cw_Plan cI cZ cO apl pl ++ cw_Board cI cZ cO abd apl bd ++ cw_Locks cI cZ cO alk lk ++ cw_Trial cI cZ cO atr apl atb tr ++ cw_Board cI cZ cO atb apl tb) sz)) 0 0 (va_A (cw_Main cI cZ cO amn apl abd alk atr mn lt ++ cw_Plan cI cZ cO apl pl ++ cw_Board cI cZ cO abd apl bd ++ cw_Locks cI cZ cO alk lk ++ cw_Trial cI cZ cO atr apl atb tr ++ cw_Board cI cZ cO atb apl tb) sz) := by
  refine Met.ofW (cc := prog_1_method_4_code) (maxL := 7) (ret := (some .int)) (by decide) rfl ?_
  intro p e s m args below meth c s₁ B hml hv
  obtain ⟨rfl, hsz, hP, hK, hD0⟩ := hv
  have hx := B.exec
  have hb := B.bytes
  have hr := B.returns
  have hts0 := atoms_spec (ws := nw_Main_uses) B.pre
  have hts : ∀ w ∈ ng_tbl, w.before ([.ref (amn 0), .int x1, .int x2, .long x3] : List Value).toArray s = true := fun w h => hts0 w (List.mem_cons_of_mem _ h)
  have hown : s.vm.findClass "CeilingRows" = some m.cls := findClass_of_methodNamed B.named
  have hlocks := B.notSynchronized
  subst hsz
  have hD := hD0.self (sz := s.heap.size)
  generalize hAe : va_A (cw_Main cI cZ cO amn apl abd alk atr mn lt ++ cw_Plan cI cZ cO apl pl ++ cw_Board cI cZ cO abd apl bd ++ cw_Locks cI cZ cO alk lk ++ cw_Trial cI cZ cO atr apl atb tr ++ cw_Board cI cZ cO atb apl tb) s.heap.size = A at hD ⊢
  have hA : ∀ q : Nat, s.heap.size ≤ q → A q := fun q h => by rw [← hAe]; exact Or.inr h
  have hS : va_S A s.heap s.heap [] := va_S.rf
  have hP : va_P (dC, dI) vwCl (cw_Main cI cZ cO amn apl abd alk atr mn lt ++ cw_Plan cI cZ cO apl pl ++ cw_Board cI cZ cO abd apl bd ++ cw_Locks cI cZ cO alk lk ++ cw_Trial cI cZ cO atr apl atb tr ++ cw_Board cI cZ cO atb apl tb) s.heap := hP
  have hl := lv_entry ([.ref (amn 0), .int x1, .int x2, .long x3]) (n := 7) (Nat.le_of_ble_eq_true rfl)
  rw [lg_entry_eq]
  generalize (lg_sl ([.ref (amn 0), .int x1, .int x2, .long x3]) ++ List.replicate (7 - (lg_sl ([.ref (amn 0), .int x1, .int x2, .long x3])).length) Slot.unset).toArray = ls at hl ⊢
  have hl : lv_has ls 7 [(0, .ref (amn 0)), (1, .int x1), (2, .int x2), (3, .long x3)] := hl
  have f0_pl_0 := cr_rfo hR_pl.1
  have f0_pl_1 := cr_rfo hR_pl.2.1
  have k_m3 : (-3 : Int32).toInt = -3 := by decide
  have k_m2 : (-2 : Int32).toInt = -2 := by decide
  have k_m1 : (-1 : Int32).toInt = -1 := by decide
  have k_0 : (0 : Int32).toInt = 0 := by decide
  have k_1 : (1 : Int32).toInt = 1 := by decide
  obtain ⟨tgt, hT⟩ : ∃ z, md_Main_uses mn lt pl bd lk tr tb x1 x2 x3 = z := ⟨_, rfl⟩
  have hM := hT
  unfold md_Main_uses at hM
  refine lv_aload_n hx hb nd_Main_uses_0 rfl (lv_at hl 0 rfl) ?_
  refine va_get (D := (dC, dI)) (ci := 4) (v := .ref (apl 0)) (C := "CeilingRows") (T := nf_Main) (N := 6) hx hb hts nin_Main hown hK hP 0 rfl rfl 0 (by decide) (hts _ tw_138) (fun _ h9 => h9) rfl nd_Main_uses_1 ?_
  refine lv_iload_n hx hb nd_Main_uses_4 rfl (lv_at hl 1 rfl) ?_
  have hPc := hP.sub (ws' := cw_Plan cI cZ cO apl pl) [2, 3, 4, 5, 6, 7, 8, 9, 10, 11, 12, 13, 14, 15, 16, 17, 18] rfl
  have hDc := hD.sub (ws' := cw_Plan cI cZ cO apl pl) [2, 3, 4, 5, 6, 7, 8, 9, 10, 11, 12, 13, 14, 15, 16, 17, 18] (by decide) rfl
  have hFc := va_free (wc := cw_Plan cI cZ cO apl pl) hD hS hA [2, 3, 4, 5, 6, 7, 8, 9, 10, 11, 12, 13, 14, 15, 16, 17, 18] rfl
  refine va_calli (va_runV (As := [.int x1]) (rest := []) ⟨hx, hb, hml, hown, hts⟩ (ct_Plan_hasTask l dC dI cI cZ cO apl s.heap.size pl x1 hR_pl) (cwV 1 hts (ng_V tw_181 tw_182 tw_183 tw_2 tw_184) rfl rfl rfl (by decide +kernel) ⟨Nat.le_of_ble_eq_true rfl, Nat.le_of_ble_eq_true rfl⟩) ⟨fun a U g mk q => by obtain ⟨q0, q1, qP, qK, qD⟩ := q; exact ⟨q0, q1, qP, va_K.moved (u := U) (U := U.calling g mk a) (Vm.Alike.refl U.vm) qK, qD⟩, va_recv hK hPc (ci := 0) (q0 := 0) rfl rfl, fun U hU hW => ⟨rfl, by rw [hU], by rw [hU]; exact hPc, va_K.moved hW.alike hK, hDc.weaken (fun _ _ _ _ => trivial)⟩⟩ rfl rfl hl.1 rfl (lv_room (Nat.le_of_ble_eq_true rfl)) nd_Main_uses_5 ⟨Nat.zero_le _, Nat.zero_le _⟩) hS (fun q _ h => hFc q h) hFc (fun r_1 u t H1 locs ht hvm hw hB hz1 hk1 hS => ?_)
  obtain ⟨hP1, hK1, hD1⟩ := hB
  rw [ht] at hP1
  obtain ⟨w_2, f_3⟩ := hw
  try rw [← w_2] at hM
  obtain ⟨hP, hD⟩ := va_join (wr := cw_Main cI cZ cO amn apl abd alk atr mn lt ++ cw_Board cI cZ cO abd apl bd ++ cw_Locks cI cZ cO alk lk ++ cw_Trial cI cZ cO atr apl atb tr ++ cw_Board cI cZ cO atb apl tb) (w1 := cw_Plan cI cZ cO apl pl) hP hD [2, 3, 4, 5, 6, 7, 8, 9, 10, 11, 12, 13, 14, 15, 16, 17, 18] [0, 1, 19, 20, 21, 22, 23, 24, 25, 26, 27, 28, 29, 30, 31, 32, 33, 34, 35, 36, 37, 38, 39, 40, 41, 42, 43, 44, 45, 46, 47, 48] rfl rfl (by decide) (by decide) hk1 hFc hP1 hD1
  have hP := hP.sub (ws' := cw_Main cI cZ cO amn apl abd alk atr mn lt ++ cw_Plan cI cZ cO apl pl ++ cw_Board cI cZ cO abd apl bd ++ cw_Locks cI cZ cO alk lk ++ cw_Trial cI cZ cO atr apl atb tr ++ cw_Board cI cZ cO atb apl tb) [0, 1, 32, 33, 34, 35, 36, 37, 38, 39, 40, 41, 42, 43, 44, 45, 46, 47, 48, 2, 3, 4, 5, 6, 7, 8, 9, 10, 11, 12, 13, 14, 15, 16, 17, 18, 19, 20, 21, 22, 23, 24, 25, 26, 27, 28, 29, 30, 31] rfl
  have hD := hD.sub (ws' := cw_Main cI cZ cO amn apl abd alk atr mn lt ++ cw_Plan cI cZ cO apl pl ++ cw_Board cI cZ cO abd apl bd ++ cw_Locks cI cZ cO alk lk ++ cw_Trial cI cZ cO atr apl atb tr ++ cw_Board cI cZ cO atb apl tb) [0, 1, 32, 33, 34, 35, 36, 37, 38, 39, 40, 41, 42, 43, 44, 45, 46, 47, 48, 2, 3, 4, 5, 6, 7, 8, 9, 10, 11, 12, 13, 14, 15, 16, 17, 18, 19, 20, 21, 22, 23, 24, 25, 26, 27, 28, 29, 30, 31] (by decide) rfl
  generalize H1 = H at hP hS ⊢
  refine lv_if_eq (tgt := 22) hx hb nd_Main_uses_8 (by decide) (fun c_4 => ?_) (fun c_4 => ?_)
  · have c_4t := cr_eq c_4
    rw [if_pos c_4] at hM
    refine lv_iconst (v := -1) hx hb nd_Main_uses_22 (by decide) ?_
    exact W.iret (v := (-1 : Int32)) hx hb hr (fun t ht hW => ⟨⟨(-1 : Int32), pl, rfl, ⟨by rw [hT, ← hM], by rw [hT, ← hM], hR_pl⟩, by rw [ht]; exact hP, va_K.moved hW.alike hK, hD⟩, hS.F ht⟩) hS.2.2 nd_Main_uses_23
  · have c_4t := cr_ne c_4
    rw [if_neg c_4] at hM
    refine lv_aload_n hx hb nd_Main_uses_11 rfl (lv_at hl 0 rfl) ?_
    refine va_get (D := (dC, dI)) (ci := 4) (v := .ref (apl 0)) (C := "CeilingRows") (T := nf_Main) (N := 6) hx hb hts nin_Main hown hK hP 0 rfl rfl 0 (by decide) (hts _ tw_138) (fun _ h9 => h9) rfl nd_Main_uses_12 ?_
    refine lv_iload_n hx hb nd_Main_uses_15 rfl (lv_at hl 2 rfl) ?_
    have hPc := hP.sub (ws' := cw_Plan cI cZ cO apl pl) [2, 3, 4, 5, 6, 7, 8, 9, 10, 11, 12, 13, 14, 15, 16, 17, 18] rfl
    have hDc := hD.sub (ws' := cw_Plan cI cZ cO apl pl) [2, 3, 4, 5, 6, 7, 8, 9, 10, 11, 12, 13, 14, 15, 16, 17, 18] (by decide) rfl
    have hFc := va_free (wc := cw_Plan cI cZ cO apl pl) hD hS hA [2, 3, 4, 5, 6, 7, 8, 9, 10, 11, 12, 13, 14, 15, 16, 17, 18] rfl
    refine va_calli (va_runV (As := [.int x2]) (rest := []) ⟨hx, hb, hml, hown, hts⟩ (ct_Plan_hasResource l dC dI cI cZ cO apl H.size pl x2 hR_pl) (cwV 1 hts (ng_V tw_185 tw_186 tw_187 tw_2 tw_188) rfl rfl rfl (by decide +kernel) ⟨Nat.le_of_ble_eq_true rfl, Nat.le_of_ble_eq_true rfl⟩) ⟨fun a U g mk q => by obtain ⟨q0, q1, qP, qK, qD⟩ := q; exact ⟨q0, q1, qP, va_K.moved (u := U) (U := U.calling g mk a) (Vm.Alike.refl U.vm) qK, qD⟩, va_recv hK hPc (ci := 0) (q0 := 0) rfl rfl, fun U hU hW => ⟨rfl, by rw [hU], by rw [hU]; exact hPc, va_K.moved hW.alike hK, hDc.weaken (fun _ _ _ _ => trivial)⟩⟩ rfl rfl hl.1 rfl (lv_room (Nat.le_of_ble_eq_true rfl)) nd_Main_uses_16 ⟨Nat.zero_le _, Nat.zero_le _⟩) hS (fun q _ h => hFc q h) hFc (fun r_5 u t H1 locs ht hvm hw hB hz1 hk1 hS => ?_)
    obtain ⟨hP1, hK1, hD1⟩ := hB
    rw [ht] at hP1
    obtain ⟨w_6, f_7⟩ := hw
    try rw [← w_6] at hM
    obtain ⟨hP, hD⟩ := va_join (wr := cw_Main cI cZ cO amn apl abd alk atr mn lt ++ cw_Board cI cZ cO abd apl bd ++ cw_Locks cI cZ cO alk lk ++ cw_Trial cI cZ cO atr apl atb tr ++ cw_Board cI cZ cO atb apl tb) (w1 := cw_Plan cI cZ cO apl pl) hP hD [2, 3, 4, 5, 6, 7, 8, 9, 10, 11, 12, 13, 14, 15, 16, 17, 18] [0, 1, 19, 20, 21, 22, 23, 24, 25, 26, 27, 28, 29, 30, 31, 32, 33, 34, 35, 36, 37, 38, 39, 40, 41, 42, 43, 44, 45, 46, 47, 48] rfl rfl (by decide) (by decide) hk1 hFc hP1 hD1
    have hP := hP.sub (ws' := cw_Main cI cZ cO amn apl abd alk atr mn lt ++ cw_Plan cI cZ cO apl pl ++ cw_Board cI cZ cO abd apl bd ++ cw_Locks cI cZ cO alk lk ++ cw_Trial cI cZ cO atr apl atb tr ++ cw_Board cI cZ cO atb apl tb) [0, 1, 32, 33, 34, 35, 36, 37, 38, 39, 40, 41, 42, 43, 44, 45, 46, 47, 48, 2, 3, 4, 5, 6, 7, 8, 9, 10, 11, 12, 13, 14, 15, 16, 17, 18, 19, 20, 21, 22, 23, 24, 25, 26, 27, 28, 29, 30, 31] rfl
    have hD := hD.sub (ws' := cw_Main cI cZ cO amn apl abd alk atr mn lt ++ cw_Plan cI cZ cO apl pl ++ cw_Board cI cZ cO abd apl bd ++ cw_Locks cI cZ cO alk lk ++ cw_Trial cI cZ cO atr apl atb tr ++ cw_Board cI cZ cO atb apl tb) [0, 1, 32, 33, 34, 35, 36, 37, 38, 39, 40, 41, 42, 43, 44, 45, 46, 47, 48, 2, 3, 4, 5, 6, 7, 8, 9, 10, 11, 12, 13, 14, 15, 16, 17, 18, 19, 20, 21, 22, 23, 24, 25, 26, 27, 28, 29, 30, 31] (by decide) rfl
    generalize H1 = H at hP hS ⊢
    refine lv_if_ne (tgt := 24) hx hb nd_Main_uses_19 (by decide) (fun c_8 => ?_) (fun c_8 => ?_)
    · have c_8t := cr_ne c_8
      rw [if_neg c_8] at hM
      refine lv_lload_n hx hb nd_Main_uses_24 rfl (lv_at hl 3 rfl) ?_
      refine lv_lconst (v := 1) hx hb nd_Main_uses_25 (by decide) ?_
      refine W.lcmp hx hb nd_Main_uses_26 ?_
      refine lv_if_lt (tgt := 38) hx hb nd_Main_uses_27 (by decide) (fun c_9 => ?_) (fun c_9 => ?_)
      · have c_9t := cr_lt c_9
        rw [if_pos c_9] at hM
        refine lv_bipush (v := -2) hx hb nd_Main_uses_38 (by decide) ?_
        exact W.iret (v := (-2 : Int32)) hx hb hr (fun t ht hW => ⟨⟨(-2 : Int32), pl, rfl, ⟨by rw [hT, ← hM], by rw [hT, ← hM], hR_pl⟩, by rw [ht]; exact hP, va_K.moved hW.alike hK, hD⟩, hS.F ht⟩) hS.2.2 nd_Main_uses_40
      · have c_9t := cr_nlt c_9
        rw [if_neg c_9] at hM
        refine lv_lload_n hx hb nd_Main_uses_30 rfl (lv_at hl 3 rfl) ?_
        refine lv_ldc2 (v := 1000) hx hb hown (hts _ tw_189) nd_Main_uses_31 ?_
        refine W.lcmp hx hb nd_Main_uses_34 ?_
        refine lv_if_le (tgt := 41) hx hb nd_Main_uses_35 (by decide) (fun c_10 => ?_) (fun c_10 => ?_)
        · have c_10t := cr_le c_10
          rw [if_pos c_10] at hM
          refine lv_aload_n hx hb nd_Main_uses_41 rfl (lv_at hl 0 rfl) ?_
          refine va_get (D := (dC, dI)) (ci := 4) (v := .ref (apl 0)) (C := "CeilingRows") (T := nf_Main) (N := 6) hx hb hts nin_Main hown hK hP 0 rfl rfl 0 (by decide) (hts _ tw_138) (fun _ h9 => h9) rfl nd_Main_uses_42 ?_
          refine va_get (D := (dC, dI)) (ci := 0) (v := .ref (apl 2)) (C := "CeilingRows$Plan") (T := nf_Plan) (N := 7) hx hb hts nin_Plan hown hK hP 2 rfl rfl 3 (by decide) (hts _ tw_38) (fun _ h9 => h9) rfl nd_Main_uses_45 ?_
          refine lv_iload_n hx hb nd_Main_uses_48 rfl (lv_at hl 1 rfl) ?_
          have b_11 : vp_in x1 11 := vp_in_iff.mpr (by omega)
          refine va_iald hx hb hK hP 4 0 rfl rfl b_11 nd_Main_uses_49 ?_
          have f_12 := cr_rgo hR_pl.2.2 (x1.toNatClampNeg)
          refine lv_istore (lv' := [(5, .int (pl 2 x1.toNatClampNeg)), (0, .ref (amn 0)), (1, .int x1), (2, .int x2), (3, .long x3)]) hx hb nd_Main_uses_50 hl (by decide) rfl (fun ls hl => ?_)
          refine lv_aload_n hx hb nd_Main_uses_52 rfl (lv_at hl 1 rfl) ?_
          refine va_get (D := (dC, dI)) (ci := 4) (v := .ref (abd 0)) (C := "CeilingRows") (T := nf_Main) (N := 6) hx hb hts nin_Main hown hK hP 0 rfl rfl 1 (by decide) (hts _ tw_139) (fun _ h9 => h9) rfl nd_Main_uses_53 ?_
          refine lv_iload hx hb nd_Main_uses_56 (lv_at hl 0 rfl) ?_
          have hPc := hP.sub (ws' := cw_Plan cI cZ cO apl pl ++ cw_Board cI cZ cO abd apl bd) [2, 3, 4, 5, 6, 7, 8, 9, 10, 11, 12, 13, 14, 15, 16, 17, 18, 19, 20, 21, 22, 23, 24] rfl
          have hDc := hD.sub (ws' := cw_Plan cI cZ cO apl pl ++ cw_Board cI cZ cO abd apl bd) [2, 3, 4, 5, 6, 7, 8, 9, 10, 11, 12, 13, 14, 15, 16, 17, 18, 19, 20, 21, 22, 23, 24] (by decide) rfl
          have hFc := va_free (wc := cw_Plan cI cZ cO apl pl ++ cw_Board cI cZ cO abd apl bd) hD hS hA [2, 3, 4, 5, 6, 7, 8, 9, 10, 11, 12, 13, 14, 15, 16, 17, 18, 19, 20, 21, 22, 23, 24] rfl
          refine va_calli (va_runV (As := [.int (pl 2 x1.toNatClampNeg)]) (rest := []) ⟨hx, hb, hml, hown, hts⟩ (ct_Board_allSleepOn l dC dI cI cZ cO apl abd H.size pl bd (pl 2 x1.toNatClampNeg) hR_bd hR_pl) (cwV 1 hts (ng_V tw_190 tw_191 tw_192 tw_3 tw_193) rfl rfl rfl (by decide +kernel) ⟨Nat.le_of_ble_eq_true rfl, Nat.le_of_ble_eq_true rfl⟩) ⟨fun a U g mk q => by obtain ⟨q0, q1, qP, qK, qD⟩ := q; exact ⟨q0, q1, qP, va_K.moved (u := U) (U := U.calling g mk a) (Vm.Alike.refl U.vm) qK, qD⟩, va_recv hK hPc (ci := 1) (q0 := 17) rfl rfl, fun U hU hW => ⟨rfl, by rw [hU], by rw [hU]; exact hPc, va_K.moved hW.alike hK, hDc.weaken (fun _ _ _ _ => trivial)⟩⟩ rfl rfl hl.1 rfl (lv_room (Nat.le_of_ble_eq_true rfl)) nd_Main_uses_58 ⟨Nat.zero_le _, Nat.zero_le _⟩) hS (fun q _ h => hFc q h) hFc (fun r_13 u t H1 locs ht hvm hw hB hz1 hk1 hS => ?_)
          obtain ⟨hP1, hK1, hD1⟩ := hB
          rw [ht] at hP1
          have w_14 := hw
          try rw [← w_14] at hM
          obtain ⟨hP, hD⟩ := va_join (wr := cw_Main cI cZ cO amn apl abd alk atr mn lt ++ cw_Locks cI cZ cO alk lk ++ cw_Trial cI cZ cO atr apl atb tr ++ cw_Board cI cZ cO atb apl tb) (w1 := cw_Plan cI cZ cO apl pl ++ cw_Board cI cZ cO abd apl bd) hP hD [2, 3, 4, 5, 6, 7, 8, 9, 10, 11, 12, 13, 14, 15, 16, 17, 18, 19, 20, 21, 22, 23, 24] [0, 1, 25, 26, 27, 28, 29, 30, 31, 32, 33, 34, 35, 36, 37, 38, 39, 40, 41, 42, 43, 44, 45, 46, 47, 48] rfl rfl (by decide) (by decide) hk1 hFc hP1 hD1
          have hP := hP.sub (ws' := cw_Main cI cZ cO amn apl abd alk atr mn lt ++ cw_Plan cI cZ cO apl pl ++ cw_Board cI cZ cO abd apl bd ++ cw_Locks cI cZ cO alk lk ++ cw_Trial cI cZ cO atr apl atb tr ++ cw_Board cI cZ cO atb apl tb) [0, 1, 26, 27, 28, 29, 30, 31, 32, 33, 34, 35, 36, 37, 38, 39, 40, 41, 42, 43, 44, 45, 46, 47, 48, 2, 3, 4, 5, 6, 7, 8, 9, 10, 11, 12, 13, 14, 15, 16, 17, 18, 19, 20, 21, 22, 23, 24, 25] rfl
          have hD := hD.sub (ws' := cw_Main cI cZ cO amn apl abd alk atr mn lt ++ cw_Plan cI cZ cO apl pl ++ cw_Board cI cZ cO abd apl bd ++ cw_Locks cI cZ cO alk lk ++ cw_Trial cI cZ cO atr apl atb tr ++ cw_Board cI cZ cO atb apl tb) [0, 1, 26, 27, 28, 29, 30, 31, 32, 33, 34, 35, 36, 37, 38, 39, 40, 41, 42, 43, 44, 45, 46, 47, 48, 2, 3, 4, 5, 6, 7, 8, 9, 10, 11, 12, 13, 14, 15, 16, 17, 18, 19, 20, 21, 22, 23, 24, 25] (by decide) rfl
          generalize H1 = H at hP hS ⊢
          refine lv_if_eq (tgt := 77) hx hb nd_Main_uses_61 (by decide) (fun c_15 => ?_) (fun c_15 => ?_)
          · have c_15t := cr_eq c_15
            rw [if_pos c_15] at hM
            refine lv_bipush (v := -3) hx hb nd_Main_uses_77 (by decide) ?_
            exact W.iret (v := (-3 : Int32)) hx hb hr (fun t ht hW => ⟨⟨(-3 : Int32), pl, rfl, ⟨by rw [hT, ← hM], by rw [hT, ← hM], hR_pl⟩, by rw [ht]; exact hP, va_K.moved hW.alike hK, hD⟩, hS.F ht⟩) hS.2.2 nd_Main_uses_79
          · have c_15t := cr_ne c_15
            rw [if_neg c_15] at hM
            refine lv_aload_n hx hb nd_Main_uses_64 rfl (lv_at hl 1 rfl) ?_
            refine va_get (D := (dC, dI)) (ci := 4) (v := .ref (apl 0)) (C := "CeilingRows") (T := nf_Main) (N := 6) hx hb hts nin_Main hown hK hP 0 rfl rfl 0 (by decide) (hts _ tw_138) (fun _ h9 => h9) rfl nd_Main_uses_65 ?_
            refine lv_iload_n hx hb nd_Main_uses_68 rfl (lv_at hl 3 rfl) ?_
            refine lv_iload hx hb nd_Main_uses_69 (lv_at hl 0 rfl) ?_
            have hPc := hP.sub (ws' := cw_Plan cI cZ cO apl pl) [2, 3, 4, 5, 6, 7, 8, 9, 10, 11, 12, 13, 14, 15, 16, 17, 18] rfl
            have hDc := hD.sub (ws' := cw_Plan cI cZ cO apl pl) [2, 3, 4, 5, 6, 7, 8, 9, 10, 11, 12, 13, 14, 15, 16, 17, 18] (by decide) rfl
            have hFc := va_free (wc := cw_Plan cI cZ cO apl pl) hD hS hA [2, 3, 4, 5, 6, 7, 8, 9, 10, 11, 12, 13, 14, 15, 16, 17, 18] rfl
            refine va_calli (va_runV (As := [.int x2, .int (pl 2 x1.toNatClampNeg)]) (rest := []) ⟨hx, hb, hml, hown, hts⟩ (ct_Plan_isUsedByAnotherCore l dC dI cI cZ cO apl H.size pl x2 (pl 2 x1.toNatClampNeg) hR_pl (by omega)) (cwV 2 hts (ng_V tw_194 tw_195 tw_196 tw_2 tw_197) rfl rfl rfl (by decide +kernel) ⟨Nat.le_of_ble_eq_true rfl, Nat.le_of_ble_eq_true rfl⟩) ⟨fun a U g mk q => by obtain ⟨q0, q1, qP, qK, qD⟩ := q; exact ⟨q0, q1, qP, va_K.moved (u := U) (U := U.calling g mk a) (Vm.Alike.refl U.vm) qK, qD⟩, va_recv hK hPc (ci := 0) (q0 := 0) rfl rfl, fun U hU hW => ⟨rfl, by rw [hU], by rw [hU]; exact hPc, va_K.moved hW.alike hK, hDc.weaken (fun _ _ _ _ => trivial)⟩⟩ rfl rfl hl.1 rfl (lv_room (Nat.le_of_ble_eq_true rfl)) nd_Main_uses_71 ⟨Nat.zero_le _, Nat.zero_le _⟩) hS (fun q _ h => hFc q h) hFc (fun r_16 u t H1 locs ht hvm hw hB hz1 hk1 hS => ?_)
            obtain ⟨hP1, hK1, hD1⟩ := hB
            rw [ht] at hP1
            have w_17 := hw
            try rw [← w_17] at hM
            obtain ⟨hP, hD⟩ := va_join (wr := cw_Main cI cZ cO amn apl abd alk atr mn lt ++ cw_Board cI cZ cO abd apl bd ++ cw_Locks cI cZ cO alk lk ++ cw_Trial cI cZ cO atr apl atb tr ++ cw_Board cI cZ cO atb apl tb) (w1 := cw_Plan cI cZ cO apl pl) hP hD [2, 3, 4, 5, 6, 7, 8, 9, 10, 11, 12, 13, 14, 15, 16, 17, 18] [0, 1, 19, 20, 21, 22, 23, 24, 25, 26, 27, 28, 29, 30, 31, 32, 33, 34, 35, 36, 37, 38, 39, 40, 41, 42, 43, 44, 45, 46, 47, 48] rfl rfl (by decide) (by decide) hk1 hFc hP1 hD1
            have hP := hP.sub (ws' := cw_Main cI cZ cO amn apl abd alk atr mn lt ++ cw_Plan cI cZ cO apl pl ++ cw_Board cI cZ cO abd apl bd ++ cw_Locks cI cZ cO alk lk ++ cw_Trial cI cZ cO atr apl atb tr ++ cw_Board cI cZ cO atb apl tb) [0, 1, 32, 33, 34, 35, 36, 37, 38, 39, 40, 41, 42, 43, 44, 45, 46, 47, 48, 2, 3, 4, 5, 6, 7, 8, 9, 10, 11, 12, 13, 14, 15, 16, 17, 18, 19, 20, 21, 22, 23, 24, 25, 26, 27, 28, 29, 30, 31] rfl
            have hD := hD.sub (ws' := cw_Main cI cZ cO amn apl abd alk atr mn lt ++ cw_Plan cI cZ cO apl pl ++ cw_Board cI cZ cO abd apl bd ++ cw_Locks cI cZ cO alk lk ++ cw_Trial cI cZ cO atr apl atb tr ++ cw_Board cI cZ cO atb apl tb) [0, 1, 32, 33, 34, 35, 36, 37, 38, 39, 40, 41, 42, 43, 44, 45, 46, 47, 48, 2, 3, 4, 5, 6, 7, 8, 9, 10, 11, 12, 13, 14, 15, 16, 17, 18, 19, 20, 21, 22, 23, 24, 25, 26, 27, 28, 29, 30, 31] (by decide) rfl
            generalize H1 = H at hP hS ⊢
            refine lv_if_eq (tgt := 80) hx hb nd_Main_uses_74 (by decide) (fun c_18 => ?_) (fun c_18 => ?_)
            · have c_18t := cr_eq c_18
              rw [if_pos c_18] at hM
              refine lv_aload_n hx hb nd_Main_uses_80 rfl (lv_at hl 1 rfl) ?_
              refine va_get (D := (dC, dI)) (ci := 4) (v := .ref (apl 0)) (C := "CeilingRows") (T := nf_Main) (N := 6) hx hb hts nin_Main hown hK hP 0 rfl rfl 0 (by decide) (hts _ tw_138) (fun _ h9 => h9) rfl nd_Main_uses_81 ?_
              refine lv_iload_n hx hb nd_Main_uses_84 rfl (lv_at hl 2 rfl) ?_
              refine lv_iload_n hx hb nd_Main_uses_85 rfl (lv_at hl 3 rfl) ?_
              have hPc := hP.sub (ws' := cw_Plan cI cZ cO apl pl) [2, 3, 4, 5, 6, 7, 8, 9, 10, 11, 12, 13, 14, 15, 16, 17, 18] rfl
              have hDc := hD.sub (ws' := cw_Plan cI cZ cO apl pl) [2, 3, 4, 5, 6, 7, 8, 9, 10, 11, 12, 13, 14, 15, 16, 17, 18] (by decide) rfl
              have hFc := va_free (wc := cw_Plan cI cZ cO apl pl) hD hS hA [2, 3, 4, 5, 6, 7, 8, 9, 10, 11, 12, 13, 14, 15, 16, 17, 18] rfl
              refine va_calli (va_runV (As := [.int x1, .int x2]) (rest := []) ⟨hx, hb, hml, hown, hts⟩ (ct_Plan_isUsedBy l dC dI cI cZ cO apl H.size pl x1 x2 hR_pl (by omega) (by omega)) (cwV 2 hts (ng_V tw_198 tw_199 tw_200 tw_2 tw_201) rfl rfl rfl (by decide +kernel) ⟨Nat.le_of_ble_eq_true rfl, Nat.le_of_ble_eq_true rfl⟩) ⟨fun a U g mk q => by obtain ⟨q0, q1, qP, qK, qD⟩ := q; exact ⟨q0, q1, qP, va_K.moved (u := U) (U := U.calling g mk a) (Vm.Alike.refl U.vm) qK, qD⟩, va_recv hK hPc (ci := 0) (q0 := 0) rfl rfl, fun U hU hW => ⟨rfl, by rw [hU], by rw [hU]; exact hPc, va_K.moved hW.alike hK, hDc.weaken (fun _ _ _ _ => trivial)⟩⟩ rfl rfl hl.1 rfl (lv_room (Nat.le_of_ble_eq_true rfl)) nd_Main_uses_86 ⟨Nat.zero_le _, Nat.zero_le _⟩) hS (fun q _ h => hFc q h) hFc (fun r_19 u t H1 locs ht hvm hw hB hz1 hk1 hS => ?_)
              obtain ⟨hP1, hK1, hD1⟩ := hB
              rw [ht] at hP1
              have w_20 := hw
              try rw [← w_20] at hM
              obtain ⟨hP, hD⟩ := va_join (wr := cw_Main cI cZ cO amn apl abd alk atr mn lt ++ cw_Board cI cZ cO abd apl bd ++ cw_Locks cI cZ cO alk lk ++ cw_Trial cI cZ cO atr apl atb tr ++ cw_Board cI cZ cO atb apl tb) (w1 := cw_Plan cI cZ cO apl pl) hP hD [2, 3, 4, 5, 6, 7, 8, 9, 10, 11, 12, 13, 14, 15, 16, 17, 18] [0, 1, 19, 20, 21, 22, 23, 24, 25, 26, 27, 28, 29, 30, 31, 32, 33, 34, 35, 36, 37, 38, 39, 40, 41, 42, 43, 44, 45, 46, 47, 48] rfl rfl (by decide) (by decide) hk1 hFc hP1 hD1
              have hP := hP.sub (ws' := cw_Main cI cZ cO amn apl abd alk atr mn lt ++ cw_Plan cI cZ cO apl pl ++ cw_Board cI cZ cO abd apl bd ++ cw_Locks cI cZ cO alk lk ++ cw_Trial cI cZ cO atr apl atb tr ++ cw_Board cI cZ cO atb apl tb) [0, 1, 32, 33, 34, 35, 36, 37, 38, 39, 40, 41, 42, 43, 44, 45, 46, 47, 48, 2, 3, 4, 5, 6, 7, 8, 9, 10, 11, 12, 13, 14, 15, 16, 17, 18, 19, 20, 21, 22, 23, 24, 25, 26, 27, 28, 29, 30, 31] rfl
              have hD := hD.sub (ws' := cw_Main cI cZ cO amn apl abd alk atr mn lt ++ cw_Plan cI cZ cO apl pl ++ cw_Board cI cZ cO abd apl bd ++ cw_Locks cI cZ cO alk lk ++ cw_Trial cI cZ cO atr apl atb tr ++ cw_Board cI cZ cO atb apl tb) [0, 1, 32, 33, 34, 35, 36, 37, 38, 39, 40, 41, 42, 43, 44, 45, 46, 47, 48, 2, 3, 4, 5, 6, 7, 8, 9, 10, 11, 12, 13, 14, 15, 16, 17, 18, 19, 20, 21, 22, 23, 24, 25, 26, 27, 28, 29, 30, 31] (by decide) rfl
              generalize H1 = H at hP hS ⊢
              refine lv_if_eq (tgt := 96) hx hb nd_Main_uses_89 (by decide) (fun c_21 => ?_) (fun c_21 => ?_)
              · have c_21t := cr_eq c_21
                rw [if_pos c_21] at hM
                refine lv_iconst (v := 1) hx hb nd_Main_uses_96 (by decide) ?_
                refine lv_istore (lv' := [(6, .int (1 : Int32)), (5, .int (pl 2 x1.toNatClampNeg)), (0, .ref (amn 0)), (1, .int x1), (2, .int x2), (3, .long x3)]) hx hb nd_Main_uses_97 hl (by decide) rfl (fun ls hl => ?_)
                refine lv_aload_n hx hb nd_Main_uses_99 rfl (lv_at hl 2 rfl) ?_
                refine va_get (D := (dC, dI)) (ci := 4) (v := .ref (apl 0)) (C := "CeilingRows") (T := nf_Main) (N := 6) hx hb hts nin_Main hown hK hP 0 rfl rfl 0 (by decide) (hts _ tw_138) (fun _ h9 => h9) rfl nd_Main_uses_100 ?_
                refine lv_iload_n hx hb nd_Main_uses_103 rfl (lv_at hl 3 rfl) ?_
                refine lv_iload_n hx hb nd_Main_uses_104 rfl (lv_at hl 4 rfl) ?_
                refine lv_lload_n hx hb nd_Main_uses_105 rfl (lv_at hl 5 rfl) ?_
                refine lv_l2i (v := x3.toInt32) hx hb nd_Main_uses_106 rfl ?_
                have hPc := hP.sub (ws' := cw_Plan cI cZ cO apl pl) [2, 3, 4, 5, 6, 7, 8, 9, 10, 11, 12, 13, 14, 15, 16, 17, 18] rfl
                have hDc := hD.sub (ws' := cw_Plan cI cZ cO apl pl) [2, 3, 4, 5, 6, 7, 8, 9, 10, 11, 12, 13, 14, 15, 16, 17, 18] (by decide) rfl
                have hFc := va_free (wc := cw_Plan cI cZ cO apl pl) hD hS hA [2, 3, 4, 5, 6, 7, 8, 9, 10, 11, 12, 13, 14, 15, 16, 17, 18] rfl
                refine va_callv (va_runV (As := [.int x1, .int x2, .int x3.toInt32]) (rest := []) ⟨hx, hb, hml, hown, hts⟩ (ct_Plan_setUse l dC dI cI cZ cO apl H.size pl x1 x2 x3.toInt32 hR_pl (by omega) (by omega)) (cwV 3 hts (ng_V tw_202 tw_203 tw_204 tw_2 tw_205) rfl rfl rfl (by decide +kernel) ⟨Nat.le_of_ble_eq_true rfl, Nat.le_of_ble_eq_true rfl⟩) ⟨fun a U g mk q => by obtain ⟨q0, q1, qP, qK, qD⟩ := q; exact ⟨q0, q1, qP, va_K.moved (u := U) (U := U.calling g mk a) (Vm.Alike.refl U.vm) qK, qD⟩, va_recv hK hPc (ci := 0) (q0 := 0) rfl rfl, fun U hU hW => ⟨rfl, by rw [hU], by rw [hU]; exact hPc, va_K.moved hW.alike hK, hDc.weaken (fun _ _ _ _ => trivial)⟩⟩ rfl rfl hl.1 rfl (lv_room (Nat.le_of_ble_eq_true rfl)) nd_Main_uses_107 ⟨Nat.zero_le _, Nat.zero_le _⟩) hS (fun q _ h => hFc q h) hFc (fun u t H1 locs ht hvm hw hB hz1 hk1 hS => ?_)
                obtain ⟨hP1, hK1, hD1⟩ := hB
                rw [ht] at hP1
                obtain ⟨plq_23, rfl⟩ : ∃ z, z = u := ⟨_, rfl⟩
                obtain ⟨w_24, hR_25⟩ := hw
                try rw [← w_24] at hM
                obtain ⟨hP, hD⟩ := va_join (wr := cw_Main cI cZ cO amn apl abd alk atr mn lt ++ cw_Board cI cZ cO abd apl bd ++ cw_Locks cI cZ cO alk lk ++ cw_Trial cI cZ cO atr apl atb tr ++ cw_Board cI cZ cO atb apl tb) (w1 := cw_Plan cI cZ cO apl plq_23) hP hD [2, 3, 4, 5, 6, 7, 8, 9, 10, 11, 12, 13, 14, 15, 16, 17, 18] [0, 1, 19, 20, 21, 22, 23, 24, 25, 26, 27, 28, 29, 30, 31, 32, 33, 34, 35, 36, 37, 38, 39, 40, 41, 42, 43, 44, 45, 46, 47, 48] rfl rfl (by decide) (by decide) hk1 hFc hP1 hD1
                have hP := hP.sub (ws' := cw_Main cI cZ cO amn apl abd alk atr mn lt ++ cw_Plan cI cZ cO apl plq_23 ++ cw_Board cI cZ cO abd apl bd ++ cw_Locks cI cZ cO alk lk ++ cw_Trial cI cZ cO atr apl atb tr ++ cw_Board cI cZ cO atb apl tb) [0, 1, 32, 33, 34, 35, 36, 37, 38, 39, 40, 41, 42, 43, 44, 45, 46, 47, 48, 2, 3, 4, 5, 6, 7, 8, 9, 10, 11, 12, 13, 14, 15, 16, 17, 18, 19, 20, 21, 22, 23, 24, 25, 26, 27, 28, 29, 30, 31] rfl
                have hD := hD.sub (ws' := cw_Main cI cZ cO amn apl abd alk atr mn lt ++ cw_Plan cI cZ cO apl plq_23 ++ cw_Board cI cZ cO abd apl bd ++ cw_Locks cI cZ cO alk lk ++ cw_Trial cI cZ cO atr apl atb tr ++ cw_Board cI cZ cO atb apl tb) [0, 1, 32, 33, 34, 35, 36, 37, 38, 39, 40, 41, 42, 43, 44, 45, 46, 47, 48, 2, 3, 4, 5, 6, 7, 8, 9, 10, 11, 12, 13, 14, 15, 16, 17, 18, 19, 20, 21, 22, 23, 24, 25, 26, 27, 28, 29, 30, 31] (by decide) rfl
                generalize H1 = H at hP hS ⊢
                refine lv_iload hx hb nd_Main_uses_110 (lv_at hl 0 rfl) ?_
                exact W.iret (v := (1 : Int32)) hx hb hr (fun t ht hW => ⟨⟨(1 : Int32), plq_23, rfl, ⟨by rw [hT, ← hM], by rw [hT, ← hM], hR_25⟩, by rw [ht]; exact hP, va_K.moved hW.alike hK, hD⟩, hS.F ht⟩) hS.2.2 nd_Main_uses_112
              · have c_21t := cr_ne c_21
                rw [if_neg c_21] at hM
                refine lv_iconst (v := 0) hx hb nd_Main_uses_92 (by decide) ?_
                refine lv_goto (tgt := 97) hx hb nd_Main_uses_93 (by decide) ?_
                refine lv_istore (lv' := [(6, .int (0 : Int32)), (5, .int (pl 2 x1.toNatClampNeg)), (0, .ref (amn 0)), (1, .int x1), (2, .int x2), (3, .long x3)]) hx hb nd_Main_uses_97 hl (by decide) rfl (fun ls hl => ?_)
                refine lv_aload_n hx hb nd_Main_uses_99 rfl (lv_at hl 2 rfl) ?_
                refine va_get (D := (dC, dI)) (ci := 4) (v := .ref (apl 0)) (C := "CeilingRows") (T := nf_Main) (N := 6) hx hb hts nin_Main hown hK hP 0 rfl rfl 0 (by decide) (hts _ tw_138) (fun _ h9 => h9) rfl nd_Main_uses_100 ?_
                refine lv_iload_n hx hb nd_Main_uses_103 rfl (lv_at hl 3 rfl) ?_
                refine lv_iload_n hx hb nd_Main_uses_104 rfl (lv_at hl 4 rfl) ?_
                refine lv_lload_n hx hb nd_Main_uses_105 rfl (lv_at hl 5 rfl) ?_
                refine lv_l2i (v := x3.toInt32) hx hb nd_Main_uses_106 rfl ?_
                have hPc := hP.sub (ws' := cw_Plan cI cZ cO apl pl) [2, 3, 4, 5, 6, 7, 8, 9, 10, 11, 12, 13, 14, 15, 16, 17, 18] rfl
                have hDc := hD.sub (ws' := cw_Plan cI cZ cO apl pl) [2, 3, 4, 5, 6, 7, 8, 9, 10, 11, 12, 13, 14, 15, 16, 17, 18] (by decide) rfl
                have hFc := va_free (wc := cw_Plan cI cZ cO apl pl) hD hS hA [2, 3, 4, 5, 6, 7, 8, 9, 10, 11, 12, 13, 14, 15, 16, 17, 18] rfl
                refine va_callv (va_runV (As := [.int x1, .int x2, .int x3.toInt32]) (rest := []) ⟨hx, hb, hml, hown, hts⟩ (ct_Plan_setUse l dC dI cI cZ cO apl H.size pl x1 x2 x3.toInt32 hR_pl (by omega) (by omega)) (cwV 3 hts (ng_V tw_202 tw_203 tw_204 tw_2 tw_205) rfl rfl rfl (by decide +kernel) ⟨Nat.le_of_ble_eq_true rfl, Nat.le_of_ble_eq_true rfl⟩) ⟨fun a U g mk q => by obtain ⟨q0, q1, qP, qK, qD⟩ := q; exact ⟨q0, q1, qP, va_K.moved (u := U) (U := U.calling g mk a) (Vm.Alike.refl U.vm) qK, qD⟩, va_recv hK hPc (ci := 0) (q0 := 0) rfl rfl, fun U hU hW => ⟨rfl, by rw [hU], by rw [hU]; exact hPc, va_K.moved hW.alike hK, hDc.weaken (fun _ _ _ _ => trivial)⟩⟩ rfl rfl hl.1 rfl (lv_room (Nat.le_of_ble_eq_true rfl)) nd_Main_uses_107 ⟨Nat.zero_le _, Nat.zero_le _⟩) hS (fun q _ h => hFc q h) hFc (fun u t H1 locs ht hvm hw hB hz1 hk1 hS => ?_)
                obtain ⟨hP1, hK1, hD1⟩ := hB
                rw [ht] at hP1
                obtain ⟨plq_27, rfl⟩ : ∃ z, z = u := ⟨_, rfl⟩
                obtain ⟨w_28, hR_29⟩ := hw
                try rw [← w_28] at hM
                obtain ⟨hP, hD⟩ := va_join (wr := cw_Main cI cZ cO amn apl abd alk atr mn lt ++ cw_Board cI cZ cO abd apl bd ++ cw_Locks cI cZ cO alk lk ++ cw_Trial cI cZ cO atr apl atb tr ++ cw_Board cI cZ cO atb apl tb) (w1 := cw_Plan cI cZ cO apl plq_27) hP hD [2, 3, 4, 5, 6, 7, 8, 9, 10, 11, 12, 13, 14, 15, 16, 17, 18] [0, 1, 19, 20, 21, 22, 23, 24, 25, 26, 27, 28, 29, 30, 31, 32, 33, 34, 35, 36, 37, 38, 39, 40, 41, 42, 43, 44, 45, 46, 47, 48] rfl rfl (by decide) (by decide) hk1 hFc hP1 hD1
                have hP := hP.sub (ws' := cw_Main cI cZ cO amn apl abd alk atr mn lt ++ cw_Plan cI cZ cO apl plq_27 ++ cw_Board cI cZ cO abd apl bd ++ cw_Locks cI cZ cO alk lk ++ cw_Trial cI cZ cO atr apl atb tr ++ cw_Board cI cZ cO atb apl tb) [0, 1, 32, 33, 34, 35, 36, 37, 38, 39, 40, 41, 42, 43, 44, 45, 46, 47, 48, 2, 3, 4, 5, 6, 7, 8, 9, 10, 11, 12, 13, 14, 15, 16, 17, 18, 19, 20, 21, 22, 23, 24, 25, 26, 27, 28, 29, 30, 31] rfl
                have hD := hD.sub (ws' := cw_Main cI cZ cO amn apl abd alk atr mn lt ++ cw_Plan cI cZ cO apl plq_27 ++ cw_Board cI cZ cO abd apl bd ++ cw_Locks cI cZ cO alk lk ++ cw_Trial cI cZ cO atr apl atb tr ++ cw_Board cI cZ cO atb apl tb) [0, 1, 32, 33, 34, 35, 36, 37, 38, 39, 40, 41, 42, 43, 44, 45, 46, 47, 48, 2, 3, 4, 5, 6, 7, 8, 9, 10, 11, 12, 13, 14, 15, 16, 17, 18, 19, 20, 21, 22, 23, 24, 25, 26, 27, 28, 29, 30, 31] (by decide) rfl
                generalize H1 = H at hP hS ⊢
                refine lv_iload hx hb nd_Main_uses_110 (lv_at hl 0 rfl) ?_
                exact W.iret (v := (0 : Int32)) hx hb hr (fun t ht hW => ⟨⟨(0 : Int32), plq_27, rfl, ⟨by rw [hT, ← hM], by rw [hT, ← hM], hR_29⟩, by rw [ht]; exact hP, va_K.moved hW.alike hK, hD⟩, hS.F ht⟩) hS.2.2 nd_Main_uses_112
            · have c_18t := cr_ne c_18
              rw [if_neg c_18] at hM
              refine lv_bipush (v := -3) hx hb nd_Main_uses_77 (by decide) ?_
              exact W.iret (v := (-3 : Int32)) hx hb hr (fun t ht hW => ⟨⟨(-3 : Int32), pl, rfl, ⟨by rw [hT, ← hM], by rw [hT, ← hM], hR_pl⟩, by rw [ht]; exact hP, va_K.moved hW.alike hK, hD⟩, hS.F ht⟩) hS.2.2 nd_Main_uses_79
        · have c_10t := cr_nle c_10
          rw [if_neg c_10] at hM
          refine lv_bipush (v := -2) hx hb nd_Main_uses_38 (by decide) ?_
          exact W.iret (v := (-2 : Int32)) hx hb hr (fun t ht hW => ⟨⟨(-2 : Int32), pl, rfl, ⟨by rw [hT, ← hM], by rw [hT, ← hM], hR_pl⟩, by rw [ht]; exact hP, va_K.moved hW.alike hK, hD⟩, hS.F ht⟩) hS.2.2 nd_Main_uses_40
    · have c_8t := cr_eq c_8
      rw [if_pos c_8] at hM
      refine lv_iconst (v := -1) hx hb nd_Main_uses_22 (by decide) ?_
      exact W.iret (v := (-1 : Int32)) hx hb hr (fun t ht hW => ⟨⟨(-1 : Int32), pl, rfl, ⟨by rw [hT, ← hM], by rw [hT, ← hM], hR_pl⟩, by rw [ht]; exact hP, va_K.moved hW.alike hK, hD⟩, hS.F ht⟩) hS.2.2 nd_Main_uses_23

theorem nd_Main_ceiling_0 : decode prog_1_method_5_code 0 = .ok (.aload_n 0, 1) := by decide +kernel
theorem nd_Main_ceiling_1 : decode prog_1_method_5_code 1 = .ok (.getfield 12, 3) := by decide +kernel
theorem nd_Main_ceiling_4 : decode prog_1_method_5_code 4 = .ok (.iload_n 1, 1) := by decide +kernel
theorem nd_Main_ceiling_5 : decode prog_1_method_5_code 5 = .ok (.invokevirtual 69, 3) := by decide +kernel
theorem nd_Main_ceiling_8 : decode prog_1_method_5_code 8 = .ok (.ifCond .eq (15), 3) := by decide +kernel
theorem nd_Main_ceiling_11 : decode prog_1_method_5_code 11 = .ok (.aload_n 0, 1) := by decide +kernel
theorem nd_Main_ceiling_12 : decode prog_1_method_5_code 12 = .ok (.getfield 12, 3) := by decide +kernel
theorem nd_Main_ceiling_15 : decode prog_1_method_5_code 15 = .ok (.getfield 92, 3) := by decide +kernel
theorem nd_Main_ceiling_18 : decode prog_1_method_5_code 18 = .ok (.iload_n 1, 1) := by decide +kernel
theorem nd_Main_ceiling_19 : decode prog_1_method_5_code 19 = .ok (.iaload, 1) := by decide +kernel
theorem nd_Main_ceiling_20 : decode prog_1_method_5_code 20 = .ok (.goto (4), 3) := by decide +kernel
theorem nd_Main_ceiling_23 : decode prog_1_method_5_code 23 = .ok (.iconst (-1), 1) := by decide +kernel
theorem nd_Main_ceiling_24 : decode prog_1_method_5_code 24 = .ok (.ireturn, 1) := by decide +kernel
def md_Main_ceiling (mn : cr_S) (lt : Int64) (pl : cr_S) (bd : cr_S) (lk : cr_S) (tr : cr_S) (tb : cr_S) (x1 : Int32) : Int32 :=
  (if (md_Plan_hasResource pl x1) = 0 then (-1 : Int32) else (pl 3 x1.toNatClampNeg))
abbrev pq_Main_ceiling (dC : Nat → ClassId) (dI : Nat → Nat → Nat) (cI cZ cO : ClassId) (amn apl abd alk atr atb : Nat → Nat) (mn : cr_S) (lt : Int64) (pl : cr_S) (bd : cr_S) (lk : cr_S) (tr : cr_S) (tb : cr_S) (x1 : Int32) (A : Nat → Prop) : Array Value → State → Outcome → State → Prop :=
  va_Qi (fun (r : Int32) (_ : Unit) => r = md_Main_ceiling mn lt pl bd lk tr tb x1) (fun (_ : Unit) t => va_P (dC, dI) vwCl (cw_Main cI cZ cO amn apl abd alk atr mn lt ++ cw_Plan cI cZ cO apl pl ++ cw_Board cI cZ cO abd apl bd ++ cw_Locks cI cZ cO alk lk ++ cw_Trial cI cZ cO atr apl atb tr ++ cw_Board cI cZ cO atb apl tb) t.heap ∧ va_K (dC, dI) vwCl [(cI, .int), (cZ, .boolean), (cO, .array .int)] t ∧ va_D A (cw_Main cI cZ cO amn apl abd alk atr mn lt ++ cw_Plan cI cZ cO apl pl ++ cw_Board cI cZ cO abd apl bd ++ cw_Locks cI cZ cO alk lk ++ cw_Trial cI cZ cO atr apl atb tr ++ cw_Board cI cZ cO atb apl tb)) A
set_option maxHeartbeats 4000000 in
set_option maxRecDepth 100000 in
theorem ct_Main_ceiling (l : Launch) (dC : Nat → ClassId) (dI : Nat → Nat → Nat) (cI cZ cO : ClassId) (amn apl abd alk atr atb : Nat → Nat) (sz : Nat) (mn : cr_S) (lt : Int64) (pl : cr_S) (bd : cr_S) (lk : cr_S) (tr : cr_S) (tb : cr_S) (x1 : Int32) (hR_tb : cr_RBoard tb) (hR_lk : cr_RLocks lk) (hR_bd : cr_RBoard bd) (hR_pl : cr_RPlan pl) : Met l ny_Main_ceiling nw_Main_ceiling ({ frames := 1, cells := 0, slots := 0, locals := 21 } : Room) (va_Pc [.ref (amn 0), .int x1] (fun U => U.heap.size = sz ∧ va_P (dC, dI) vwCl (cw_Main cI cZ cO amn apl abd alk atr mn lt ++ cw_Plan cI cZ cO apl pl ++ cw_Board cI cZ cO abd apl bd ++ cw_Locks cI cZ cO alk lk ++ cw_Trial cI cZ cO atr apl atb tr ++ cw_Board cI cZ cO atb apl tb) U.heap ∧ va_K (dC, dI) vwCl [(cI, .int), (cZ, .boolean), (cO, .array .int)] U ∧ va_D (fun _ => True) (cw_Main cI cZ cO amn apl abd alk atr mn lt ++ cw_Plan cI cZ cO apl pl ++ cw_Board cI cZ cO abd apl bd ++ cw_Locks cI cZ cO alk lk ++ cw_Trial cI cZ cO atr apl atb tr ++ cw_Board cI cZ cO atb apl tb))) (pq_Main_ceiling dC dI cI cZ cO amn apl abd alk atr atb mn lt pl bd lk tr tb x1 (va_A (cw_Main cI cZ cO amn apl abd alk atr mn lt ++ cw_Plan cI cZ cO apl pl ++ cw_Board cI cZ cO abd apl bd ++ cw_Locks cI cZ cO alk lk ++ cw_Trial cI cZ cO atr apl atb tr ++ cw_Board cI cZ cO atb apl tb) sz)) 0 0 (va_A (cw_Main cI cZ cO amn apl abd alk atr mn lt ++ cw_Plan cI cZ cO apl pl ++ cw_Board cI cZ cO abd apl bd ++ cw_Locks cI cZ cO alk lk ++ cw_Trial cI cZ cO atr apl atb tr ++ cw_Board cI cZ cO atb apl tb) sz) := by
  refine Met.ofW (cc := prog_1_method_5_code) (maxL := 2) (ret := (some .int)) (by decide) rfl ?_
  intro p e s m args below meth c s₁ B hml hv
  obtain ⟨rfl, hsz, hP, hK, hD0⟩ := hv
  have hx := B.exec
  have hb := B.bytes
  have hr := B.returns
  have hts0 := atoms_spec (ws := nw_Main_ceiling) B.pre
  have hts : ∀ w ∈ ng_tbl, w.before ([.ref (amn 0), .int x1] : List Value).toArray s = true := fun w h => hts0 w (List.mem_cons_of_mem _ h)
  have hown : s.vm.findClass "CeilingRows" = some m.cls := findClass_of_methodNamed B.named
  have hlocks := B.notSynchronized
  subst hsz
  have hD := hD0.self (sz := s.heap.size)
  generalize hAe : va_A (cw_Main cI cZ cO amn apl abd alk atr mn lt ++ cw_Plan cI cZ cO apl pl ++ cw_Board cI cZ cO abd apl bd ++ cw_Locks cI cZ cO alk lk ++ cw_Trial cI cZ cO atr apl atb tr ++ cw_Board cI cZ cO atb apl tb) s.heap.size = A at hD ⊢
  have hA : ∀ q : Nat, s.heap.size ≤ q → A q := fun q h => by rw [← hAe]; exact Or.inr h
  have hS : va_S A s.heap s.heap [] := va_S.rf
  have hP : va_P (dC, dI) vwCl (cw_Main cI cZ cO amn apl abd alk atr mn lt ++ cw_Plan cI cZ cO apl pl ++ cw_Board cI cZ cO abd apl bd ++ cw_Locks cI cZ cO alk lk ++ cw_Trial cI cZ cO atr apl atb tr ++ cw_Board cI cZ cO atb apl tb) s.heap := hP
  have hl := lv_entry ([.ref (amn 0), .int x1]) (n := 2) (Nat.le_of_ble_eq_true rfl)
  rw [lg_entry_eq]
  generalize (lg_sl ([.ref (amn 0), .int x1]) ++ List.replicate (2 - (lg_sl ([.ref (amn 0), .int x1])).length) Slot.unset).toArray = ls at hl ⊢
  have hl : lv_has ls 2 [(0, .ref (amn 0)), (1, .int x1)] := hl
  have f0_pl_0 := cr_rfo hR_pl.1
  have f0_pl_1 := cr_rfo hR_pl.2.1
  have k_m1 : (-1 : Int32).toInt = -1 := by decide
  have k_0 : (0 : Int32).toInt = 0 := by decide
  obtain ⟨tgt, hT⟩ : ∃ z, md_Main_ceiling mn lt pl bd lk tr tb x1 = z := ⟨_, rfl⟩
  have hM := hT
  unfold md_Main_ceiling at hM
  refine lv_aload_n hx hb nd_Main_ceiling_0 rfl (lv_at hl 0 rfl) ?_
  refine va_get (D := (dC, dI)) (ci := 4) (v := .ref (apl 0)) (C := "CeilingRows") (T := nf_Main) (N := 6) hx hb hts nin_Main hown hK hP 0 rfl rfl 0 (by decide) (hts _ tw_138) (fun _ h9 => h9) rfl nd_Main_ceiling_1 ?_
  refine lv_iload_n hx hb nd_Main_ceiling_4 rfl (lv_at hl 1 rfl) ?_
  have hPc := hP.sub (ws' := cw_Plan cI cZ cO apl pl) [2, 3, 4, 5, 6, 7, 8, 9, 10, 11, 12, 13, 14, 15, 16, 17, 18] rfl
  have hDc := hD.sub (ws' := cw_Plan cI cZ cO apl pl) [2, 3, 4, 5, 6, 7, 8, 9, 10, 11, 12, 13, 14, 15, 16, 17, 18] (by decide) rfl
  have hFc := va_free (wc := cw_Plan cI cZ cO apl pl) hD hS hA [2, 3, 4, 5, 6, 7, 8, 9, 10, 11, 12, 13, 14, 15, 16, 17, 18] rfl
  refine va_calli (va_runV (As := [.int x1]) (rest := []) ⟨hx, hb, hml, hown, hts⟩ (ct_Plan_hasResource l dC dI cI cZ cO apl s.heap.size pl x1 hR_pl) (cwV 1 hts (ng_V tw_185 tw_186 tw_187 tw_2 tw_188) rfl rfl rfl (by decide +kernel) ⟨Nat.le_of_ble_eq_true rfl, Nat.le_of_ble_eq_true rfl⟩) ⟨fun a U g mk q => by obtain ⟨q0, q1, qP, qK, qD⟩ := q; exact ⟨q0, q1, qP, va_K.moved (u := U) (U := U.calling g mk a) (Vm.Alike.refl U.vm) qK, qD⟩, va_recv hK hPc (ci := 0) (q0 := 0) rfl rfl, fun U hU hW => ⟨rfl, by rw [hU], by rw [hU]; exact hPc, va_K.moved hW.alike hK, hDc.weaken (fun _ _ _ _ => trivial)⟩⟩ rfl rfl hl.1 rfl (lv_room (Nat.le_of_ble_eq_true rfl)) nd_Main_ceiling_5 ⟨Nat.zero_le _, Nat.zero_le _⟩) hS (fun q _ h => hFc q h) hFc (fun r_1 u t H1 locs ht hvm hw hB hz1 hk1 hS => ?_)
  obtain ⟨hP1, hK1, hD1⟩ := hB
  rw [ht] at hP1
  obtain ⟨w_2, f_3⟩ := hw
  try rw [← w_2] at hM
  obtain ⟨hP, hD⟩ := va_join (wr := cw_Main cI cZ cO amn apl abd alk atr mn lt ++ cw_Board cI cZ cO abd apl bd ++ cw_Locks cI cZ cO alk lk ++ cw_Trial cI cZ cO atr apl atb tr ++ cw_Board cI cZ cO atb apl tb) (w1 := cw_Plan cI cZ cO apl pl) hP hD [2, 3, 4, 5, 6, 7, 8, 9, 10, 11, 12, 13, 14, 15, 16, 17, 18] [0, 1, 19, 20, 21, 22, 23, 24, 25, 26, 27, 28, 29, 30, 31, 32, 33, 34, 35, 36, 37, 38, 39, 40, 41, 42, 43, 44, 45, 46, 47, 48] rfl rfl (by decide) (by decide) hk1 hFc hP1 hD1
  have hP := hP.sub (ws' := cw_Main cI cZ cO amn apl abd alk atr mn lt ++ cw_Plan cI cZ cO apl pl ++ cw_Board cI cZ cO abd apl bd ++ cw_Locks cI cZ cO alk lk ++ cw_Trial cI cZ cO atr apl atb tr ++ cw_Board cI cZ cO atb apl tb) [0, 1, 32, 33, 34, 35, 36, 37, 38, 39, 40, 41, 42, 43, 44, 45, 46, 47, 48, 2, 3, 4, 5, 6, 7, 8, 9, 10, 11, 12, 13, 14, 15, 16, 17, 18, 19, 20, 21, 22, 23, 24, 25, 26, 27, 28, 29, 30, 31] rfl
  have hD := hD.sub (ws' := cw_Main cI cZ cO amn apl abd alk atr mn lt ++ cw_Plan cI cZ cO apl pl ++ cw_Board cI cZ cO abd apl bd ++ cw_Locks cI cZ cO alk lk ++ cw_Trial cI cZ cO atr apl atb tr ++ cw_Board cI cZ cO atb apl tb) [0, 1, 32, 33, 34, 35, 36, 37, 38, 39, 40, 41, 42, 43, 44, 45, 46, 47, 48, 2, 3, 4, 5, 6, 7, 8, 9, 10, 11, 12, 13, 14, 15, 16, 17, 18, 19, 20, 21, 22, 23, 24, 25, 26, 27, 28, 29, 30, 31] (by decide) rfl
  generalize H1 = H at hP hS ⊢
  refine lv_if_eq (tgt := 23) hx hb nd_Main_ceiling_8 (by decide) (fun c_4 => ?_) (fun c_4 => ?_)
  · have c_4t := cr_eq c_4
    rw [if_pos c_4] at hM
    refine lv_iconst (v := -1) hx hb nd_Main_ceiling_23 (by decide) ?_
    exact W.iret (v := (-1 : Int32)) hx hb hr (fun t ht hW => ⟨⟨(-1 : Int32), (), rfl, by rw [hT, ← hM], by rw [ht]; exact hP, va_K.moved hW.alike hK, hD⟩, hS.F ht⟩) hS.2.2 nd_Main_ceiling_24
  · have c_4t := cr_ne c_4
    rw [if_neg c_4] at hM
    refine lv_aload_n hx hb nd_Main_ceiling_11 rfl (lv_at hl 0 rfl) ?_
    refine va_get (D := (dC, dI)) (ci := 4) (v := .ref (apl 0)) (C := "CeilingRows") (T := nf_Main) (N := 6) hx hb hts nin_Main hown hK hP 0 rfl rfl 0 (by decide) (hts _ tw_138) (fun _ h9 => h9) rfl nd_Main_ceiling_12 ?_
    refine va_get (D := (dC, dI)) (ci := 0) (v := .ref (apl 3)) (C := "CeilingRows$Plan") (T := nf_Plan) (N := 7) hx hb hts nin_Plan hown hK hP 2 rfl rfl 4 (by decide) (hts _ tw_40) (fun _ h9 => h9) rfl nd_Main_ceiling_15 ?_
    refine lv_iload_n hx hb nd_Main_ceiling_18 rfl (lv_at hl 1 rfl) ?_
    have b_5 : vp_in x1 9 := vp_in_iff.mpr (by omega)
    refine va_iald hx hb hK hP 5 0 rfl rfl b_5 nd_Main_ceiling_19 ?_
    refine lv_goto (tgt := 24) hx hb nd_Main_ceiling_20 (by decide) ?_
    exact W.iret (v := (pl 3 x1.toNatClampNeg)) hx hb hr (fun t ht hW => ⟨⟨(pl 3 x1.toNatClampNeg), (), rfl, by rw [hT, ← hM], by rw [ht]; exact hP, va_K.moved hW.alike hK, hD⟩, hS.F ht⟩) hS.2.2 nd_Main_ceiling_24
end
section
theorem nd_Main_perform_0 : decode prog_1_method_16_code 0 = .ok (.iload_n 2, 1) := by decide +kernel
theorem nd_Main_perform_1 : decode prog_1_method_16_code 1 = .ok (.ifCond .ne (9), 3) := by decide +kernel
theorem nd_Main_perform_4 : decode prog_1_method_16_code 4 = .ok (.aload_n 0, 1) := by decide +kernel
theorem nd_Main_perform_5 : decode prog_1_method_16_code 5 = .ok (.iload_n 1, 1) := by decide +kernel
theorem nd_Main_perform_6 : decode prog_1_method_16_code 6 = .ok (.invokevirtual 137, 3) := by decide +kernel
theorem nd_Main_perform_9 : decode prog_1_method_16_code 9 = .ok (.ireturn, 1) := by decide +kernel
theorem nd_Main_perform_10 : decode prog_1_method_16_code 10 = .ok (.iload_n 2, 1) := by decide +kernel
theorem nd_Main_perform_11 : decode prog_1_method_16_code 11 = .ok (.iconst 5, 1) := by decide +kernel
theorem nd_Main_perform_12 : decode prog_1_method_16_code 12 = .ok (.if_icmp .ne (9), 3) := by decide +kernel
theorem nd_Main_perform_15 : decode prog_1_method_16_code 15 = .ok (.aload_n 0, 1) := by decide +kernel
theorem nd_Main_perform_16 : decode prog_1_method_16_code 16 = .ok (.iload_n 1, 1) := by decide +kernel
theorem nd_Main_perform_17 : decode prog_1_method_16_code 17 = .ok (.invokevirtual 140, 3) := by decide +kernel
theorem nd_Main_perform_20 : decode prog_1_method_16_code 20 = .ok (.ireturn, 1) := by decide +kernel
theorem nd_Main_perform_21 : decode prog_1_method_16_code 21 = .ok (.aload_n 0, 1) := by decide +kernel
theorem nd_Main_perform_22 : decode prog_1_method_16_code 22 = .ok (.getfield 21, 3) := by decide +kernel
theorem nd_Main_perform_25 : decode prog_1_method_16_code 25 = .ok (.getfield 143, 3) := by decide +kernel
theorem nd_Main_perform_28 : decode prog_1_method_16_code 28 = .ok (.iload_n 1, 1) := by decide +kernel
theorem nd_Main_perform_29 : decode prog_1_method_16_code 29 = .ok (.iaload, 1) := by decide +kernel
theorem nd_Main_perform_30 : decode prog_1_method_16_code 30 = .ok (.iconst 1, 1) := by decide +kernel
theorem nd_Main_perform_31 : decode prog_1_method_16_code 31 = .ok (.if_icmp .eq (6), 3) := by decide +kernel
theorem nd_Main_perform_34 : decode prog_1_method_16_code 34 = .ok (.bipush (-3), 2) := by decide +kernel
theorem nd_Main_perform_36 : decode prog_1_method_16_code 36 = .ok (.ireturn, 1) := by decide +kernel
theorem nd_Main_perform_37 : decode prog_1_method_16_code 37 = .ok (.aload_n 0, 1) := by decide +kernel
theorem nd_Main_perform_38 : decode prog_1_method_16_code 38 = .ok (.iload_n 1, 1) := by decide +kernel
theorem nd_Main_perform_39 : decode prog_1_method_16_code 39 = .ok (.invokevirtual 146, 3) := by decide +kernel
theorem nd_Main_perform_42 : decode prog_1_method_16_code 42 = .ok (.ifCond .ne (5), 3) := by decide +kernel
theorem nd_Main_perform_45 : decode prog_1_method_16_code 45 = .ok (.iconst 0, 1) := by decide +kernel
theorem nd_Main_perform_46 : decode prog_1_method_16_code 46 = .ok (.ireturn, 1) := by decide +kernel
theorem nd_Main_perform_47 : decode prog_1_method_16_code 47 = .ok (.iload_n 2, 1) := by decide +kernel
theorem nd_Main_perform_48 : decode prog_1_method_16_code 48 = .ok (.tableswitch (48) 1 3 #[(28), (35), (42)], 28) := by decide +kernel
theorem nd_Main_perform_76 : decode prog_1_method_16_code 76 = .ok (.aload_n 0, 1) := by decide +kernel
theorem nd_Main_perform_77 : decode prog_1_method_16_code 77 = .ok (.iload_n 1, 1) := by decide +kernel
theorem nd_Main_perform_78 : decode prog_1_method_16_code 78 = .ok (.iload_n 3, 1) := by decide +kernel
theorem nd_Main_perform_79 : decode prog_1_method_16_code 79 = .ok (.invokevirtual 149, 3) := by decide +kernel
theorem nd_Main_perform_82 : decode prog_1_method_16_code 82 = .ok (.ireturn, 1) := by decide +kernel
theorem nd_Main_perform_83 : decode prog_1_method_16_code 83 = .ok (.aload_n 0, 1) := by decide +kernel
theorem nd_Main_perform_84 : decode prog_1_method_16_code 84 = .ok (.iload_n 1, 1) := by decide +kernel
theorem nd_Main_perform_85 : decode prog_1_method_16_code 85 = .ok (.iload_n 3, 1) := by decide +kernel
theorem nd_Main_perform_86 : decode prog_1_method_16_code 86 = .ok (.invokevirtual 152, 3) := by decide +kernel
theorem nd_Main_perform_89 : decode prog_1_method_16_code 89 = .ok (.ireturn, 1) := by decide +kernel
theorem nd_Main_perform_90 : decode prog_1_method_16_code 90 = .ok (.aload_n 0, 1) := by decide +kernel
theorem nd_Main_perform_91 : decode prog_1_method_16_code 91 = .ok (.iload_n 1, 1) := by decide +kernel
theorem nd_Main_perform_92 : decode prog_1_method_16_code 92 = .ok (.invokevirtual 155, 3) := by decide +kernel
theorem nd_Main_perform_95 : decode prog_1_method_16_code 95 = .ok (.ireturn, 1) := by decide +kernel
theorem nd_Main_perform_96 : decode prog_1_method_16_code 96 = .ok (.aload_n 0, 1) := by decide +kernel
theorem nd_Main_perform_97 : decode prog_1_method_16_code 97 = .ok (.iload_n 1, 1) := by decide +kernel
theorem nd_Main_perform_98 : decode prog_1_method_16_code 98 = .ok (.invokevirtual 158, 3) := by decide +kernel
theorem nd_Main_perform_101 : decode prog_1_method_16_code 101 = .ok (.ireturn, 1) := by decide +kernel
def md_Main_perform (mn : cr_S) (lt : Int64) (pl : cr_S) (bd : cr_S) (lk : cr_S) (tr : cr_S) (tb : cr_S) (x1 : Int32) (x2 : Int32) (x3 : Int32) : Int32 × cr_S × Int64 × cr_S :=
  (if x2 = 0 then (((md_Main_startTask mn lt pl bd lk tr tb x1).1), mn, lt, ((md_Main_startTask mn lt pl bd lk tr tb x1).2)) else (if x2 = (5 : Int32) then (((md_Main_sendEvent mn lt pl bd lk tr tb x1).1), ((md_Main_sendEvent mn lt pl bd lk tr tb x1).2.1), ((md_Main_sendEvent mn lt pl bd lk tr tb x1).2.2.1), ((md_Main_sendEvent mn lt pl bd lk tr tb x1).2.2.2)) else (if (bd 1 x1.toNatClampNeg) = (1 : Int32) then (if (md_Main_runs mn lt pl bd lk tr tb x1) = 0 then ((0 : Int32), mn, lt, bd) else (if x2 = 1 then (((md_Main_takeResource mn lt pl bd lk tr tb x1 x3).1), mn, lt, ((md_Main_takeResource mn lt pl bd lk tr tb x1 x3).2)) else (if x2 = 2 then (((md_Main_giveBackResource mn lt pl bd lk tr tb x1 x3).1), mn, lt, ((md_Main_giveBackResource mn lt pl bd lk tr tb x1 x3).2)) else (if x2 = 3 then (((md_Main_endTask mn lt pl bd lk tr tb x1).1), ((md_Main_endTask mn lt pl bd lk tr tb x1).2.1), ((md_Main_endTask mn lt pl bd lk tr tb x1).2.2.1), ((md_Main_endTask mn lt pl bd lk tr tb x1).2.2.2)) else (((md_Main_waitForEvent mn lt pl bd lk tr tb x1).1), ((md_Main_waitForEvent mn lt pl bd lk tr tb x1).2.1), ((md_Main_waitForEvent mn lt pl bd lk tr tb x1).2.2.1), ((md_Main_waitForEvent mn lt pl bd lk tr tb x1).2.2.2)))))) else ((-3 : Int32), mn, lt, bd))))
abbrev pq_Main_perform (dC : Nat → ClassId) (dI : Nat → Nat → Nat) (cI cZ cO : ClassId) (amn apl abd alk atr atb : Nat → Nat) (mn : cr_S) (lt : Int64) (pl : cr_S) (bd : cr_S) (lk : cr_S) (tr : cr_S) (tb : cr_S) (x1 : Int32) (x2 : Int32) (x3 : Int32) (A : Nat → Prop) : Array Value → State → Outcome → State → Prop :=
  va_Qi (fun (r : Int32) (u : cr_S × Int64 × cr_S) => r = (md_Main_perform mn lt pl bd lk tr tb x1 x2 x3).1 ∧ u.1 = (md_Main_perform mn lt pl bd lk tr tb x1 x2 x3).2.1 ∧ u.2.1 = (md_Main_perform mn lt pl bd lk tr tb x1 x2 x3).2.2.1 ∧ u.2.2 = (md_Main_perform mn lt pl bd lk tr tb x1 x2 x3).2.2.2 ∧ cr_RBoard u.2.2) (fun (u : cr_S × Int64 × cr_S) t => va_P (dC, dI) vwCl (cw_Main cI cZ cO amn apl abd alk atr u.1 u.2.1 ++ cw_Plan cI cZ cO apl pl ++ cw_Board cI cZ cO abd apl u.2.2 ++ cw_Locks cI cZ cO alk lk ++ cw_Trial cI cZ cO atr apl atb tr ++ cw_Board cI cZ cO atb apl tb) t.heap ∧ va_K (dC, dI) vwCl [(cI, .int), (cZ, .boolean), (cO, .array .int)] t ∧ va_D A (cw_Main cI cZ cO amn apl abd alk atr u.1 u.2.1 ++ cw_Plan cI cZ cO apl pl ++ cw_Board cI cZ cO abd apl u.2.2 ++ cw_Locks cI cZ cO alk lk ++ cw_Trial cI cZ cO atr apl atb tr ++ cw_Board cI cZ cO atb apl tb)) A
set_option maxHeartbeats 4000000 in
set_option maxRecDepth 100000 in
theorem ct_Main_perform (l : Launch) (dC : Nat → ClassId) (dI : Nat → Nat → Nat) (cI cZ cO : ClassId) (amn apl abd alk atr atb : Nat → Nat) (sz : Nat) (mn : cr_S) (lt : Int64) (pl : cr_S) (bd : cr_S) (lk : cr_S) (tr : cr_S) (tb : cr_S) (x1 : Int32) (x2 : Int32) (x3 : Int32) (hR_tb : cr_RBoard tb) (hR_lk : cr_RLocks lk) (hR_bd : cr_RBoard bd) (hR_pl : cr_RPlan pl) (hx1 : 0 ≤ x1.toInt ∧ x1.toInt ≤ 10) (hx2 : 0 ≤ x2.toInt ∧ x2.toInt ≤ 5) (hq : (x2.toInt ≠ 1 ∧ x2.toInt ≠ 2) ∨ (0 ≤ x3.toInt ∧ x3.toInt ≤ 8)) : Met l ny_Main_perform nw_Main_perform ({ frames := 5, cells := 0, slots := 0, locals := 113 } : Room) (va_Pc [.ref (amn 0), .int x1, .int x2, .int x3] (fun U => U.heap.size = sz ∧ va_P (dC, dI) vwCl (cw_Main cI cZ cO amn apl abd alk atr mn lt ++ cw_Plan cI cZ cO apl pl ++ cw_Board cI cZ cO abd apl bd ++ cw_Locks cI cZ cO alk lk ++ cw_Trial cI cZ cO atr apl atb tr ++ cw_Board cI cZ cO atb apl tb) U.heap ∧ va_K (dC, dI) vwCl [(cI, .int), (cZ, .boolean), (cO, .array .int)] U ∧ va_D (fun _ => True) (cw_Main cI cZ cO amn apl abd alk atr mn lt ++ cw_Plan cI cZ cO apl pl ++ cw_Board cI cZ cO abd apl bd ++ cw_Locks cI cZ cO alk lk ++ cw_Trial cI cZ cO atr apl atb tr ++ cw_Board cI cZ cO atb apl tb))) (pq_Main_perform dC dI cI cZ cO amn apl abd alk atr atb mn lt pl bd lk tr tb x1 x2 x3 (va_A (cw_Main cI cZ cO amn apl abd alk atr mn lt ++ cw_Plan cI cZ cO apl pl ++ cw_Board cI cZ cO abd apl bd ++ cw_Locks cI cZ cO alk lk ++ cw_Trial cI cZ cO atr apl atb tr ++ cw_Board cI cZ cO atb apl tb) sz)) 0 0 (va_A (cw_Main cI cZ cO amn apl abd alk atr mn lt ++ cw_Plan cI cZ cO apl pl ++ cw_Board cI cZ cO abd apl bd ++ cw_Locks cI cZ cO alk lk ++ cw_Trial cI cZ cO atr apl atb tr ++ cw_Board cI cZ cO atb apl tb) sz) := by
  refine Met.ofW (cc := prog_1_method_16_code) (maxL := 4) (ret := (some .int)) (by decide) rfl ?_
  intro p e s m args below meth c s₁ B hml hv
  obtain ⟨rfl, hsz, hP, hK, hD0⟩ := hv
  have hx := B.exec
  have hb := B.bytes
  have hr := B.returns
  have hts0 := atoms_spec (ws := nw_Main_perform) B.pre
  have hts : ∀ w ∈ ng_tbl, w.before ([.ref (amn 0), .int x1, .int x2, .int x3] : List Value).toArray s = true := fun w h => hts0 w (List.mem_cons_of_mem _ h)
  have hown : s.vm.findClass "CeilingRows" = some m.cls := findClass_of_methodNamed B.named
  have hlocks := B.notSynchronized
  subst hsz
  have hD := hD0.self (sz := s.heap.size)
  generalize hAe : va_A (cw_Main cI cZ cO amn apl abd alk atr mn lt ++ cw_Plan cI cZ cO apl pl ++ cw_Board cI cZ cO abd apl bd ++ cw_Locks cI cZ cO alk lk ++ cw_Trial cI cZ cO atr apl atb tr ++ cw_Board cI cZ cO atb apl tb) s.heap.size = A at hD ⊢
  have hA : ∀ q : Nat, s.heap.size ≤ q → A q := fun q h => by rw [← hAe]; exact Or.inr h
  have hS : va_S A s.heap s.heap [] := va_S.rf
  have hP : va_P (dC, dI) vwCl (cw_Main cI cZ cO amn apl abd alk atr mn lt ++ cw_Plan cI cZ cO apl pl ++ cw_Board cI cZ cO abd apl bd ++ cw_Locks cI cZ cO alk lk ++ cw_Trial cI cZ cO atr apl atb tr ++ cw_Board cI cZ cO atb apl tb) s.heap := hP
  have hl := lv_entry ([.ref (amn 0), .int x1, .int x2, .int x3]) (n := 4) (Nat.le_of_ble_eq_true rfl)
  rw [lg_entry_eq]
  generalize (lg_sl ([.ref (amn 0), .int x1, .int x2, .int x3]) ++ List.replicate (4 - (lg_sl ([.ref (amn 0), .int x1, .int x2, .int x3])).length) Slot.unset).toArray = ls at hl ⊢
  have hl : lv_has ls 4 [(0, .ref (amn 0)), (1, .int x1), (2, .int x2), (3, .int x3)] := hl
  have f0_pl_0 := cr_rfo hR_pl.1
  have f0_pl_1 := cr_rfo hR_pl.2.1
  have k_m3 : (-3 : Int32).toInt = -3 := by decide
  have k_0 : (0 : Int32).toInt = 0 := by decide
  have k_1 : (1 : Int32).toInt = 1 := by decide
  have k_2 : (2 : Int32).toInt = 2 := by decide
  have k_3 : (3 : Int32).toInt = 3 := by decide
  have k_5 : (5 : Int32).toInt = 5 := by decide
  obtain ⟨tgt, hT⟩ : ∃ z, md_Main_perform mn lt pl bd lk tr tb x1 x2 x3 = z := ⟨_, rfl⟩
  have hM := hT
  unfold md_Main_perform at hM
  refine lv_iload_n hx hb nd_Main_perform_0 rfl (lv_at hl 2 rfl) ?_
  refine lv_if_ne (tgt := 10) hx hb nd_Main_perform_1 (by decide) (fun c_1 => ?_) (fun c_1 => ?_)
  · have c_1t := cr_ne c_1
    rw [if_neg c_1] at hM
    refine lv_iload_n hx hb nd_Main_perform_10 rfl (lv_at hl 2 rfl) ?_
    refine lv_iconst (v := 5) hx hb nd_Main_perform_11 (by decide) ?_
    refine lv_icmp_ne (tgt := 21) hx hb nd_Main_perform_12 (by decide) (fun c_2 => ?_) (fun c_2 => ?_)
    · have c_2t := cr_ne c_2
      rw [if_neg c_2] at hM
      refine lv_aload_n hx hb nd_Main_perform_21 rfl (lv_at hl 0 rfl) ?_
      refine va_get (D := (dC, dI)) (ci := 4) (v := .ref (abd 0)) (C := "CeilingRows") (T := nf_Main) (N := 6) hx hb hts nin_Main hown hK hP 0 rfl rfl 1 (by decide) (hts _ tw_139) (fun _ h9 => h9) rfl nd_Main_perform_22 ?_
      refine va_get (D := (dC, dI)) (ci := 1) (v := .ref (abd 1)) (C := "CeilingRows$Board") (T := nf_Board) (N := 7) hx hb hts nin_Board hown hK hP 19 rfl rfl 1 (by decide) (hts _ tw_70) (fun _ h9 => h9) rfl nd_Main_perform_25 ?_
      refine lv_iload_n hx hb nd_Main_perform_28 rfl (lv_at hl 1 rfl) ?_
      have b_3 : vp_in x1 11 := vp_in_iff.mpr (by omega)
      refine va_iald hx hb hK hP 20 0 rfl rfl b_3 nd_Main_perform_29 ?_
      refine lv_iconst (v := 1) hx hb nd_Main_perform_30 (by decide) ?_
      refine lv_icmp_eq (tgt := 37) hx hb nd_Main_perform_31 (by decide) (fun c_4 => ?_) (fun c_4 => ?_)
      · have c_4t := cr_eq c_4
        rw [if_pos c_4] at hM
        refine lv_aload_n hx hb nd_Main_perform_37 rfl (lv_at hl 0 rfl) ?_
        refine lv_iload_n hx hb nd_Main_perform_38 rfl (lv_at hl 1 rfl) ?_
        have hPc := hP
        have hDc := hD
        have hFc := va_free (wc := cw_Main cI cZ cO amn apl abd alk atr mn lt ++ cw_Plan cI cZ cO apl pl ++ cw_Board cI cZ cO abd apl bd ++ cw_Locks cI cZ cO alk lk ++ cw_Trial cI cZ cO atr apl atb tr ++ cw_Board cI cZ cO atb apl tb) hD hS hA [0, 1, 2, 3, 4, 5, 6, 7, 8, 9, 10, 11, 12, 13, 14, 15, 16, 17, 18, 19, 20, 21, 22, 23, 24, 25, 26, 27, 28, 29, 30, 31, 32, 33, 34, 35, 36, 37, 38, 39, 40, 41, 42, 43, 44, 45, 46, 47, 48] rfl
        refine va_calli (va_runV (As := [.int x1]) (rest := []) ⟨hx, hb, hml, hown, hts⟩ (ct_Main_runs l dC dI cI cZ cO amn apl abd alk atr atb s.heap.size mn lt pl bd lk tr tb x1 hR_tb hR_lk hR_bd hR_pl (by omega)) (cwV 1 hts (ng_V tw_230 tw_232 tp_2 tw_1 tw_233) rfl rfl rfl (by decide +kernel) ⟨Nat.le_of_ble_eq_true rfl, Nat.le_of_ble_eq_true rfl⟩) ⟨fun a U g mk q => by obtain ⟨q0, q1, qP, qK, qD⟩ := q; exact ⟨q0, q1, qP, va_K.moved (u := U) (U := U.calling g mk a) (Vm.Alike.refl U.vm) qK, qD⟩, va_recv hK hPc (ci := 4) (q0 := 0) rfl rfl, fun U hU hW => ⟨rfl, by rw [hU], by rw [hU]; exact hPc, va_K.moved hW.alike hK, hDc.weaken (fun _ _ _ _ => trivial)⟩⟩ rfl rfl hl.1 rfl (lv_room (Nat.le_of_ble_eq_true rfl)) nd_Main_perform_39 ⟨Nat.zero_le _, Nat.zero_le _⟩) hS (fun q _ h => hFc q h) hFc (fun r_5 u t H1 locs ht hvm hw hB hz1 hk1 hS => ?_)
        obtain ⟨hP1, hK1, hD1⟩ := hB
        rw [ht] at hP1
        have w_6 := hw
        try rw [← w_6] at hM
        have hP := hP1
        have hD := cr_Dw hD1 hFc
        generalize H1 = H at hP hS ⊢
        refine lv_if_ne (tgt := 47) hx hb nd_Main_perform_42 (by decide) (fun c_7 => ?_) (fun c_7 => ?_)
        · have c_7t := cr_ne c_7
          rw [if_neg c_7] at hM
          refine lv_iload_n hx hb nd_Main_perform_47 rfl (lv_at hl 2 rfl) ?_
          by_cases c_8 : x2 = 1
          · rw [if_pos c_8] at hM
            have c_8t := cr_eq c_8
            refine lv_tableIn (tgt := 76) hx hb nd_Main_perform_48 (by omega) (by omega) (by rw [show (x2.toInt - 1).toNat = 0 by omega]; rfl) (by decide) ?_
            refine lv_aload_n hx hb nd_Main_perform_76 rfl (lv_at hl 0 rfl) ?_
            refine lv_iload_n hx hb nd_Main_perform_77 rfl (lv_at hl 1 rfl) ?_
            refine lv_iload_n hx hb nd_Main_perform_78 rfl (lv_at hl 3 rfl) ?_
            have hPc := hP
            have hDc := hD
            have hFc := va_free (wc := cw_Main cI cZ cO amn apl abd alk atr mn lt ++ cw_Plan cI cZ cO apl pl ++ cw_Board cI cZ cO abd apl bd ++ cw_Locks cI cZ cO alk lk ++ cw_Trial cI cZ cO atr apl atb tr ++ cw_Board cI cZ cO atb apl tb) hD hS hA [0, 1, 2, 3, 4, 5, 6, 7, 8, 9, 10, 11, 12, 13, 14, 15, 16, 17, 18, 19, 20, 21, 22, 23, 24, 25, 26, 27, 28, 29, 30, 31, 32, 33, 34, 35, 36, 37, 38, 39, 40, 41, 42, 43, 44, 45, 46, 47, 48] rfl
            refine va_calli (va_runV (As := [.int x1, .int x3]) (rest := []) ⟨hx, hb, hml, hown, hts⟩ (ct_Main_takeResource l dC dI cI cZ cO amn apl abd alk atr atb H.size mn lt pl bd lk tr tb x1 x3 hR_tb hR_lk hR_bd hR_pl (by omega) (by omega)) (cwV 2 hts (ng_V tw_251 tw_253 tp_4 tw_1 tw_254) rfl rfl rfl (by decide +kernel) ⟨Nat.le_of_ble_eq_true rfl, Nat.le_of_ble_eq_true rfl⟩) ⟨fun a U g mk q => by obtain ⟨q0, q1, qP, qK, qD⟩ := q; exact ⟨q0, q1, qP, va_K.moved (u := U) (U := U.calling g mk a) (Vm.Alike.refl U.vm) qK, qD⟩, va_recv hK hPc (ci := 4) (q0 := 0) rfl rfl, fun U hU hW => ⟨rfl, by rw [hU], by rw [hU]; exact hPc, va_K.moved hW.alike hK, hDc.weaken (fun _ _ _ _ => trivial)⟩⟩ rfl rfl hl.1 rfl (lv_room (Nat.le_of_ble_eq_true rfl)) nd_Main_perform_79 ⟨Nat.zero_le _, Nat.zero_le _⟩) hS (fun q _ h => hFc q h) hFc (fun r_9 u t H1 locs ht hvm hw hB hz1 hk1 hS => ?_)
            obtain ⟨hP1, hK1, hD1⟩ := hB
            rw [ht] at hP1
            obtain ⟨bdq_11, rfl⟩ : ∃ z, z = u := ⟨_, rfl⟩
            obtain ⟨w_10, w_12, hR_13⟩ := hw
            try rw [← w_10] at hM
            try rw [← w_12] at hM
            have hP := hP1
            have hD := cr_Dw hD1 hFc
            generalize H1 = H at hP hS ⊢
            exact W.iret (v := r_9) hx hb hr (fun t ht hW => ⟨⟨r_9, (mn, lt, bdq_11), rfl, ⟨by rw [hT, ← hM], by rw [hT, ← hM], by rw [hT, ← hM], by rw [hT, ← hM], hR_13⟩, by rw [ht]; exact hP, va_K.moved hW.alike hK, hD⟩, hS.F ht⟩) hS.2.2 nd_Main_perform_82
          rw [if_neg c_8] at hM
          have c_8t := cr_ne c_8
          by_cases c_14 : x2 = 2
          · rw [if_pos c_14] at hM
            have c_14t := cr_eq c_14
            refine lv_tableIn (tgt := 83) hx hb nd_Main_perform_48 (by omega) (by omega) (by rw [show (x2.toInt - 1).toNat = 1 by omega]; rfl) (by decide) ?_
            refine lv_aload_n hx hb nd_Main_perform_83 rfl (lv_at hl 0 rfl) ?_
            refine lv_iload_n hx hb nd_Main_perform_84 rfl (lv_at hl 1 rfl) ?_
            refine lv_iload_n hx hb nd_Main_perform_85 rfl (lv_at hl 3 rfl) ?_
            have hPc := hP
            have hDc := hD
            have hFc := va_free (wc := cw_Main cI cZ cO amn apl abd alk atr mn lt ++ cw_Plan cI cZ cO apl pl ++ cw_Board cI cZ cO abd apl bd ++ cw_Locks cI cZ cO alk lk ++ cw_Trial cI cZ cO atr apl atb tr ++ cw_Board cI cZ cO atb apl tb) hD hS hA [0, 1, 2, 3, 4, 5, 6, 7, 8, 9, 10, 11, 12, 13, 14, 15, 16, 17, 18, 19, 20, 21, 22, 23, 24, 25, 26, 27, 28, 29, 30, 31, 32, 33, 34, 35, 36, 37, 38, 39, 40, 41, 42, 43, 44, 45, 46, 47, 48] rfl
            refine va_calli (va_runV (As := [.int x1, .int x3]) (rest := []) ⟨hx, hb, hml, hown, hts⟩ (ct_Main_giveBackResource l dC dI cI cZ cO amn apl abd alk atr atb H.size mn lt pl bd lk tr tb x1 x3 hR_tb hR_lk hR_bd hR_pl (by omega)) (cwV 2 hts (ng_V tw_259 tw_261 tp_5 tw_1 tw_262) rfl rfl rfl (by decide +kernel) ⟨Nat.le_of_ble_eq_true rfl, Nat.le_of_ble_eq_true rfl⟩) ⟨fun a U g mk q => by obtain ⟨q0, q1, qP, qK, qD⟩ := q; exact ⟨q0, q1, qP, va_K.moved (u := U) (U := U.calling g mk a) (Vm.Alike.refl U.vm) qK, qD⟩, va_recv hK hPc (ci := 4) (q0 := 0) rfl rfl, fun U hU hW => ⟨rfl, by rw [hU], by rw [hU]; exact hPc, va_K.moved hW.alike hK, hDc.weaken (fun _ _ _ _ => trivial)⟩⟩ rfl rfl hl.1 rfl (lv_room (Nat.le_of_ble_eq_true rfl)) nd_Main_perform_86 ⟨Nat.zero_le _, Nat.zero_le _⟩) hS (fun q _ h => hFc q h) hFc (fun r_15 u t H1 locs ht hvm hw hB hz1 hk1 hS => ?_)
            obtain ⟨hP1, hK1, hD1⟩ := hB
            rw [ht] at hP1
            obtain ⟨bdq_17, rfl⟩ : ∃ z, z = u := ⟨_, rfl⟩
            obtain ⟨w_16, w_18, hR_19⟩ := hw
            try rw [← w_16] at hM
            try rw [← w_18] at hM
            have hP := hP1
            have hD := cr_Dw hD1 hFc
            generalize H1 = H at hP hS ⊢
            exact W.iret (v := r_15) hx hb hr (fun t ht hW => ⟨⟨r_15, (mn, lt, bdq_17), rfl, ⟨by rw [hT, ← hM], by rw [hT, ← hM], by rw [hT, ← hM], by rw [hT, ← hM], hR_19⟩, by rw [ht]; exact hP, va_K.moved hW.alike hK, hD⟩, hS.F ht⟩) hS.2.2 nd_Main_perform_89
          rw [if_neg c_14] at hM
          have c_14t := cr_ne c_14
          by_cases c_20 : x2 = 3
          · rw [if_pos c_20] at hM
            have c_20t := cr_eq c_20
            refine lv_tableIn (tgt := 90) hx hb nd_Main_perform_48 (by omega) (by omega) (by rw [show (x2.toInt - 1).toNat = 2 by omega]; rfl) (by decide) ?_
            refine lv_aload_n hx hb nd_Main_perform_90 rfl (lv_at hl 0 rfl) ?_
            refine lv_iload_n hx hb nd_Main_perform_91 rfl (lv_at hl 1 rfl) ?_
            have hPc := hP
            have hDc := hD
            have hFc := va_free (wc := cw_Main cI cZ cO amn apl abd alk atr mn lt ++ cw_Plan cI cZ cO apl pl ++ cw_Board cI cZ cO abd apl bd ++ cw_Locks cI cZ cO alk lk ++ cw_Trial cI cZ cO atr apl atb tr ++ cw_Board cI cZ cO atb apl tb) hD hS hA [0, 1, 2, 3, 4, 5, 6, 7, 8, 9, 10, 11, 12, 13, 14, 15, 16, 17, 18, 19, 20, 21, 22, 23, 24, 25, 26, 27, 28, 29, 30, 31, 32, 33, 34, 35, 36, 37, 38, 39, 40, 41, 42, 43, 44, 45, 46, 47, 48] rfl
            refine va_calli (va_runV (As := [.int x1]) (rest := []) ⟨hx, hb, hml, hown, hts⟩ (ct_Main_endTask l dC dI cI cZ cO amn apl abd alk atr atb H.size mn lt pl bd lk tr tb x1 hR_tb hR_lk hR_bd hR_pl (by omega)) (cwV 1 hts (ng_V tw_267 tw_269 tp_6 tw_1 tw_270) rfl rfl rfl (by decide +kernel) ⟨Nat.le_of_ble_eq_true rfl, Nat.le_of_ble_eq_true rfl⟩) ⟨fun a U g mk q => by obtain ⟨q0, q1, qP, qK, qD⟩ := q; exact ⟨q0, q1, qP, va_K.moved (u := U) (U := U.calling g mk a) (Vm.Alike.refl U.vm) qK, qD⟩, va_recv hK hPc (ci := 4) (q0 := 0) rfl rfl, fun U hU hW => ⟨rfl, by rw [hU], by rw [hU]; exact hPc, va_K.moved hW.alike hK, hDc.weaken (fun _ _ _ _ => trivial)⟩⟩ rfl rfl hl.1 rfl (lv_room (Nat.le_of_ble_eq_true rfl)) nd_Main_perform_92 ⟨Nat.zero_le _, Nat.zero_le _⟩) hS (fun q _ h => hFc q h) hFc (fun r_21 u t H1 locs ht hvm hw hB hz1 hk1 hS => ?_)
            obtain ⟨hP1, hK1, hD1⟩ := hB
            rw [ht] at hP1
            obtain ⟨mnq_23, ltq_25, bdq_27⟩ := u
            dsimp only at hw hP1 hD1
            obtain ⟨w_22, w_24, w_26, w_28, hR_29⟩ := hw
            try rw [← w_22] at hM
            try rw [← w_24] at hM
            try rw [← w_26] at hM
            try rw [← w_28] at hM
            have hP := hP1
            have hD := cr_Dw hD1 hFc
            generalize H1 = H at hP hS ⊢
            exact W.iret (v := r_21) hx hb hr (fun t ht hW => ⟨⟨r_21, (mnq_23, ltq_25, bdq_27), rfl, ⟨by rw [hT, ← hM], by rw [hT, ← hM], by rw [hT, ← hM], by rw [hT, ← hM], hR_29⟩, by rw [ht]; exact hP, va_K.moved hW.alike hK, hD⟩, hS.F ht⟩) hS.2.2 nd_Main_perform_95
          rw [if_neg c_20] at hM
          have c_20t := cr_ne c_20
          refine lv_tableOut (tgt := 96) hx hb nd_Main_perform_48 (by omega) (by decide) ?_
          refine lv_aload_n hx hb nd_Main_perform_96 rfl (lv_at hl 0 rfl) ?_
          refine lv_iload_n hx hb nd_Main_perform_97 rfl (lv_at hl 1 rfl) ?_
          have hPc := hP
          have hDc := hD
          have hFc := va_free (wc := cw_Main cI cZ cO amn apl abd alk atr mn lt ++ cw_Plan cI cZ cO apl pl ++ cw_Board cI cZ cO abd apl bd ++ cw_Locks cI cZ cO alk lk ++ cw_Trial cI cZ cO atr apl atb tr ++ cw_Board cI cZ cO atb apl tb) hD hS hA [0, 1, 2, 3, 4, 5, 6, 7, 8, 9, 10, 11, 12, 13, 14, 15, 16, 17, 18, 19, 20, 21, 22, 23, 24, 25, 26, 27, 28, 29, 30, 31, 32, 33, 34, 35, 36, 37, 38, 39, 40, 41, 42, 43, 44, 45, 46, 47, 48] rfl
          refine va_calli (va_runV (As := [.int x1]) (rest := []) ⟨hx, hb, hml, hown, hts⟩ (ct_Main_waitForEvent l dC dI cI cZ cO amn apl abd alk atr atb H.size mn lt pl bd lk tr tb x1 hR_tb hR_lk hR_bd hR_pl (by omega)) (cwV 1 hts (ng_V tw_281 tw_283 tp_7 tw_1 tw_284) rfl rfl rfl (by decide +kernel) ⟨Nat.le_of_ble_eq_true rfl, Nat.le_of_ble_eq_true rfl⟩) ⟨fun a U g mk q => by obtain ⟨q0, q1, qP, qK, qD⟩ := q; exact ⟨q0, q1, qP, va_K.moved (u := U) (U := U.calling g mk a) (Vm.Alike.refl U.vm) qK, qD⟩, va_recv hK hPc (ci := 4) (q0 := 0) rfl rfl, fun U hU hW => ⟨rfl, by rw [hU], by rw [hU]; exact hPc, va_K.moved hW.alike hK, hDc.weaken (fun _ _ _ _ => trivial)⟩⟩ rfl rfl hl.1 rfl (lv_room (Nat.le_of_ble_eq_true rfl)) nd_Main_perform_98 ⟨Nat.zero_le _, Nat.zero_le _⟩) hS (fun q _ h => hFc q h) hFc (fun r_30 u t H1 locs ht hvm hw hB hz1 hk1 hS => ?_)
          obtain ⟨hP1, hK1, hD1⟩ := hB
          rw [ht] at hP1
          obtain ⟨mnq_32, ltq_34, bdq_36⟩ := u
          dsimp only at hw hP1 hD1
          obtain ⟨w_31, w_33, w_35, w_37, hR_38⟩ := hw
          try rw [← w_31] at hM
          try rw [← w_33] at hM
          try rw [← w_35] at hM
          try rw [← w_37] at hM
          have hP := hP1
          have hD := cr_Dw hD1 hFc
          generalize H1 = H at hP hS ⊢
          exact W.iret (v := r_30) hx hb hr (fun t ht hW => ⟨⟨r_30, (mnq_32, ltq_34, bdq_36), rfl, ⟨by rw [hT, ← hM], by rw [hT, ← hM], by rw [hT, ← hM], by rw [hT, ← hM], hR_38⟩, by rw [ht]; exact hP, va_K.moved hW.alike hK, hD⟩, hS.F ht⟩) hS.2.2 nd_Main_perform_101
        · have c_7t := cr_eq c_7
          rw [if_pos c_7] at hM
          refine lv_iconst (v := 0) hx hb nd_Main_perform_45 (by decide) ?_
          exact W.iret (v := (0 : Int32)) hx hb hr (fun t ht hW => ⟨⟨(0 : Int32), (mn, lt, bd), rfl, ⟨by rw [hT, ← hM], by rw [hT, ← hM], by rw [hT, ← hM], by rw [hT, ← hM], hR_bd⟩, by rw [ht]; exact hP, va_K.moved hW.alike hK, hD⟩, hS.F ht⟩) hS.2.2 nd_Main_perform_46
      · have c_4t := cr_ne c_4
        rw [if_neg c_4] at hM
        refine lv_bipush (v := -3) hx hb nd_Main_perform_34 (by decide) ?_
        exact W.iret (v := (-3 : Int32)) hx hb hr (fun t ht hW => ⟨⟨(-3 : Int32), (mn, lt, bd), rfl, ⟨by rw [hT, ← hM], by rw [hT, ← hM], by rw [hT, ← hM], by rw [hT, ← hM], hR_bd⟩, by rw [ht]; exact hP, va_K.moved hW.alike hK, hD⟩, hS.F ht⟩) hS.2.2 nd_Main_perform_36
    · have c_2t := cr_eq c_2
      rw [if_pos c_2] at hM
      refine lv_aload_n hx hb nd_Main_perform_15 rfl (lv_at hl 0 rfl) ?_
      refine lv_iload_n hx hb nd_Main_perform_16 rfl (lv_at hl 1 rfl) ?_
      have hPc := hP
      have hDc := hD
      have hFc := va_free (wc := cw_Main cI cZ cO amn apl abd alk atr mn lt ++ cw_Plan cI cZ cO apl pl ++ cw_Board cI cZ cO abd apl bd ++ cw_Locks cI cZ cO alk lk ++ cw_Trial cI cZ cO atr apl atb tr ++ cw_Board cI cZ cO atb apl tb) hD hS hA [0, 1, 2, 3, 4, 5, 6, 7, 8, 9, 10, 11, 12, 13, 14, 15, 16, 17, 18, 19, 20, 21, 22, 23, 24, 25, 26, 27, 28, 29, 30, 31, 32, 33, 34, 35, 36, 37, 38, 39, 40, 41, 42, 43, 44, 45, 46, 47, 48] rfl
      refine va_calli (va_runV (As := [.int x1]) (rest := []) ⟨hx, hb, hml, hown, hts⟩ (ct_Main_sendEvent l dC dI cI cZ cO amn apl abd alk atr atb s.heap.size mn lt pl bd lk tr tb x1 hR_tb hR_lk hR_bd hR_pl (by omega)) (cwV 1 hts (ng_V tw_247 tw_249 tp_3 tw_1 tw_250) rfl rfl rfl (by decide +kernel) ⟨Nat.le_of_ble_eq_true rfl, Nat.le_of_ble_eq_true rfl⟩) ⟨fun a U g mk q => by obtain ⟨q0, q1, qP, qK, qD⟩ := q; exact ⟨q0, q1, qP, va_K.moved (u := U) (U := U.calling g mk a) (Vm.Alike.refl U.vm) qK, qD⟩, va_recv hK hPc (ci := 4) (q0 := 0) rfl rfl, fun U hU hW => ⟨rfl, by rw [hU], by rw [hU]; exact hPc, va_K.moved hW.alike hK, hDc.weaken (fun _ _ _ _ => trivial)⟩⟩ rfl rfl hl.1 rfl (lv_room (Nat.le_of_ble_eq_true rfl)) nd_Main_perform_17 ⟨Nat.zero_le _, Nat.zero_le _⟩) hS (fun q _ h => hFc q h) hFc (fun r_39 u t H1 locs ht hvm hw hB hz1 hk1 hS => ?_)
      obtain ⟨hP1, hK1, hD1⟩ := hB
      rw [ht] at hP1
      obtain ⟨mnq_41, ltq_43, bdq_45⟩ := u
      dsimp only at hw hP1 hD1
      obtain ⟨w_40, w_42, w_44, w_46, hR_47⟩ := hw
      try rw [← w_40] at hM
      try rw [← w_42] at hM
      try rw [← w_44] at hM
      try rw [← w_46] at hM
      have hP := hP1
      have hD := cr_Dw hD1 hFc
      generalize H1 = H at hP hS ⊢
      exact W.iret (v := r_39) hx hb hr (fun t ht hW => ⟨⟨r_39, (mnq_41, ltq_43, bdq_45), rfl, ⟨by rw [hT, ← hM], by rw [hT, ← hM], by rw [hT, ← hM], by rw [hT, ← hM], hR_47⟩, by rw [ht]; exact hP, va_K.moved hW.alike hK, hD⟩, hS.F ht⟩) hS.2.2 nd_Main_perform_20
  · have c_1t := cr_eq c_1
    rw [if_pos c_1] at hM
    refine lv_aload_n hx hb nd_Main_perform_4 rfl (lv_at hl 0 rfl) ?_
    refine lv_iload_n hx hb nd_Main_perform_5 rfl (lv_at hl 1 rfl) ?_
    have hPc := hP
    have hDc := hD
    have hFc := va_free (wc := cw_Main cI cZ cO amn apl abd alk atr mn lt ++ cw_Plan cI cZ cO apl pl ++ cw_Board cI cZ cO abd apl bd ++ cw_Locks cI cZ cO alk lk ++ cw_Trial cI cZ cO atr apl atb tr ++ cw_Board cI cZ cO atb apl tb) hD hS hA [0, 1, 2, 3, 4, 5, 6, 7, 8, 9, 10, 11, 12, 13, 14, 15, 16, 17, 18, 19, 20, 21, 22, 23, 24, 25, 26, 27, 28, 29, 30, 31, 32, 33, 34, 35, 36, 37, 38, 39, 40, 41, 42, 43, 44, 45, 46, 47, 48] rfl
    refine va_calli (va_runV (As := [.int x1]) (rest := []) ⟨hx, hb, hml, hown, hts⟩ (ct_Main_startTask l dC dI cI cZ cO amn apl abd alk atr atb s.heap.size mn lt pl bd lk tr tb x1 hR_tb hR_lk hR_bd hR_pl (by omega)) (cwV 1 hts (ng_V tw_222 tw_224 tp_1 tw_1 tw_225) rfl rfl rfl (by decide +kernel) ⟨Nat.le_of_ble_eq_true rfl, Nat.le_of_ble_eq_true rfl⟩) ⟨fun a U g mk q => by obtain ⟨q0, q1, qP, qK, qD⟩ := q; exact ⟨q0, q1, qP, va_K.moved (u := U) (U := U.calling g mk a) (Vm.Alike.refl U.vm) qK, qD⟩, va_recv hK hPc (ci := 4) (q0 := 0) rfl rfl, fun U hU hW => ⟨rfl, by rw [hU], by rw [hU]; exact hPc, va_K.moved hW.alike hK, hDc.weaken (fun _ _ _ _ => trivial)⟩⟩ rfl rfl hl.1 rfl (lv_room (Nat.le_of_ble_eq_true rfl)) nd_Main_perform_6 ⟨Nat.zero_le _, Nat.zero_le _⟩) hS (fun q _ h => hFc q h) hFc (fun r_48 u t H1 locs ht hvm hw hB hz1 hk1 hS => ?_)
    obtain ⟨hP1, hK1, hD1⟩ := hB
    rw [ht] at hP1
    obtain ⟨bdq_50, rfl⟩ : ∃ z, z = u := ⟨_, rfl⟩
    obtain ⟨w_49, w_51, hR_52⟩ := hw
    try rw [← w_49] at hM
    try rw [← w_51] at hM
    have hP := hP1
    have hD := cr_Dw hD1 hFc
    generalize H1 = H at hP hS ⊢
    exact W.iret (v := r_48) hx hb hr (fun t ht hW => ⟨⟨r_48, (mn, lt, bdq_50), rfl, ⟨by rw [hT, ← hM], by rw [hT, ← hM], by rw [hT, ← hM], by rw [hT, ← hM], hR_52⟩, by rw [ht]; exact hP, va_K.moved hW.alike hK, hD⟩, hS.F ht⟩) hS.2.2 nd_Main_perform_9

theorem nd_Main_step_0 : decode prog_1_method_6_code 0 = .ok (.iload_n 2, 1) := by decide +kernel
theorem nd_Main_step_1 : decode prog_1_method_6_code 1 = .ok (.iconst 1, 1) := by decide +kernel
theorem nd_Main_step_2 : decode prog_1_method_6_code 2 = .ok (.if_icmp .eq (8), 3) := by decide +kernel
theorem nd_Main_step_5 : decode prog_1_method_6_code 5 = .ok (.iload_n 2, 1) := by decide +kernel
theorem nd_Main_step_6 : decode prog_1_method_6_code 6 = .ok (.iconst 2, 1) := by decide +kernel
theorem nd_Main_step_7 : decode prog_1_method_6_code 7 = .ok (.if_icmp .ne (7), 3) := by decide +kernel
theorem nd_Main_step_10 : decode prog_1_method_6_code 10 = .ok (.iconst 1, 1) := by decide +kernel
theorem nd_Main_step_11 : decode prog_1_method_6_code 11 = .ok (.goto (4), 3) := by decide +kernel
theorem nd_Main_step_14 : decode prog_1_method_6_code 14 = .ok (.iconst 0, 1) := by decide +kernel
theorem nd_Main_step_15 : decode prog_1_method_6_code 15 = .ok (.istore 6, 2) := by decide +kernel
theorem nd_Main_step_17 : decode prog_1_method_6_code 17 = .ok (.aload_n 0, 1) := by decide +kernel
theorem nd_Main_step_18 : decode prog_1_method_6_code 18 = .ok (.getfield 12, 3) := by decide +kernel
theorem nd_Main_step_21 : decode prog_1_method_6_code 21 = .ok (.iload_n 1, 1) := by decide +kernel
theorem nd_Main_step_22 : decode prog_1_method_6_code 22 = .ok (.invokevirtual 66, 3) := by decide +kernel
theorem nd_Main_step_25 : decode prog_1_method_6_code 25 = .ok (.ifCond .eq (19), 3) := by decide +kernel
theorem nd_Main_step_28 : decode prog_1_method_6_code 28 = .ok (.iload 6, 2) := by decide +kernel
theorem nd_Main_step_30 : decode prog_1_method_6_code 30 = .ok (.ifCond .eq (16), 3) := by decide +kernel
theorem nd_Main_step_33 : decode prog_1_method_6_code 33 = .ok (.aload_n 0, 1) := by decide +kernel
theorem nd_Main_step_34 : decode prog_1_method_6_code 34 = .ok (.getfield 12, 3) := by decide +kernel
theorem nd_Main_step_37 : decode prog_1_method_6_code 37 = .ok (.iload_n 3, 1) := by decide +kernel
theorem nd_Main_step_38 : decode prog_1_method_6_code 38 = .ok (.invokevirtual 69, 3) := by decide +kernel
theorem nd_Main_step_41 : decode prog_1_method_6_code 41 = .ok (.ifCond .ne (5), 3) := by decide +kernel
theorem nd_Main_step_44 : decode prog_1_method_6_code 44 = .ok (.iconst (-1), 1) := by decide +kernel
theorem nd_Main_step_45 : decode prog_1_method_6_code 45 = .ok (.ireturn, 1) := by decide +kernel
theorem nd_Main_step_46 : decode prog_1_method_6_code 46 = .ok (.iload_n 2, 1) := by decide +kernel
theorem nd_Main_step_47 : decode prog_1_method_6_code 47 = .ok (.ifCond .lt (27), 3) := by decide +kernel
theorem nd_Main_step_50 : decode prog_1_method_6_code 50 = .ok (.iload_n 2, 1) := by decide +kernel
theorem nd_Main_step_51 : decode prog_1_method_6_code 51 = .ok (.iconst 5, 1) := by decide +kernel
theorem nd_Main_step_52 : decode prog_1_method_6_code 52 = .ok (.if_icmp .gt (22), 3) := by decide +kernel
theorem nd_Main_step_55 : decode prog_1_method_6_code 55 = .ok (.lload 4, 2) := by decide +kernel
theorem nd_Main_step_57 : decode prog_1_method_6_code 57 = .ok (.aload_n 0, 1) := by decide +kernel
theorem nd_Main_step_58 : decode prog_1_method_6_code 58 = .ok (.getfield 43, 3) := by decide +kernel
theorem nd_Main_step_61 : decode prog_1_method_6_code 61 = .ok (.lcmp, 1) := by decide +kernel
theorem nd_Main_step_62 : decode prog_1_method_6_code 62 = .ok (.ifCond .lt (12), 3) := by decide +kernel
theorem nd_Main_step_65 : decode prog_1_method_6_code 65 = .ok (.lload 4, 2) := by decide +kernel
theorem nd_Main_step_67 : decode prog_1_method_6_code 67 = .ok (.ldc2_w 95, 3) := by decide +kernel
theorem nd_Main_step_70 : decode prog_1_method_6_code 70 = .ok (.lcmp, 1) := by decide +kernel
theorem nd_Main_step_71 : decode prog_1_method_6_code 71 = .ok (.ifCond .le (6), 3) := by decide +kernel
theorem nd_Main_step_74 : decode prog_1_method_6_code 74 = .ok (.bipush (-2), 2) := by decide +kernel
theorem nd_Main_step_76 : decode prog_1_method_6_code 76 = .ok (.ireturn, 1) := by decide +kernel
theorem nd_Main_step_77 : decode prog_1_method_6_code 77 = .ok (.aload_n 0, 1) := by decide +kernel
theorem nd_Main_step_78 : decode prog_1_method_6_code 78 = .ok (.iload_n 1, 1) := by decide +kernel
theorem nd_Main_step_79 : decode prog_1_method_6_code 79 = .ok (.iload_n 2, 1) := by decide +kernel
theorem nd_Main_step_80 : decode prog_1_method_6_code 80 = .ok (.iload_n 3, 1) := by decide +kernel
theorem nd_Main_step_81 : decode prog_1_method_6_code 81 = .ok (.invokevirtual 97, 3) := by decide +kernel
theorem nd_Main_step_84 : decode prog_1_method_6_code 84 = .ok (.istore 7, 2) := by decide +kernel
theorem nd_Main_step_86 : decode prog_1_method_6_code 86 = .ok (.iload 7, 2) := by decide +kernel
theorem nd_Main_step_88 : decode prog_1_method_6_code 88 = .ok (.ifCond .ge (10), 3) := by decide +kernel
theorem nd_Main_step_91 : decode prog_1_method_6_code 91 = .ok (.iload 7, 2) := by decide +kernel
theorem nd_Main_step_93 : decode prog_1_method_6_code 93 = .ok (.bipush (-14), 2) := by decide +kernel
theorem nd_Main_step_95 : decode prog_1_method_6_code 95 = .ok (.if_icmp .ne (9), 3) := by decide +kernel
theorem nd_Main_step_98 : decode prog_1_method_6_code 98 = .ok (.aload_n 0, 1) := by decide +kernel
theorem nd_Main_step_99 : decode prog_1_method_6_code 99 = .ok (.lload 4, 2) := by decide +kernel
theorem nd_Main_step_101 : decode prog_1_method_6_code 101 = .ok (.putfield 43, 3) := by decide +kernel
theorem nd_Main_step_104 : decode prog_1_method_6_code 104 = .ok (.iload 7, 2) := by decide +kernel
theorem nd_Main_step_106 : decode prog_1_method_6_code 106 = .ok (.ireturn, 1) := by decide +kernel
def md_Main_step (mn : cr_S) (lt : Int64) (pl : cr_S) (bd : cr_S) (lk : cr_S) (tr : cr_S) (tb : cr_S) (x1 : Int32) (x2 : Int32) (x3 : Int32) (x4 : Int64) : Int32 × cr_S × Int64 × cr_S :=
  (if x2 = (1 : Int32) then (if (md_Plan_hasTask pl x1) = 0 then ((-1 : Int32), mn, lt, bd) else (if (md_Plan_hasResource pl x3) = 0 then ((-1 : Int32), mn, lt, bd) else (if x2 < 0 then ((-2 : Int32), mn, lt, bd) else (if (5 : Int32) < x2 then ((-2 : Int32), mn, lt, bd) else (if (lg_cmp x4 lt) < 0 then ((-2 : Int32), mn, lt, bd) else (if (lg_cmp x4 (1000000000 : Int64)) ≤ 0 then (if 0 ≤ ((md_Main_perform mn lt pl bd lk tr tb x1 x2 x3).1) then (((md_Main_perform mn lt pl bd lk tr tb x1 x2 x3).1), ((md_Main_perform mn lt pl bd lk tr tb x1 x2 x3).2.1), x4, ((md_Main_perform mn lt pl bd lk tr tb x1 x2 x3).2.2.2)) else (if ((md_Main_perform mn lt pl bd lk tr tb x1 x2 x3).1) = (-14 : Int32) then (((md_Main_perform mn lt pl bd lk tr tb x1 x2 x3).1), ((md_Main_perform mn lt pl bd lk tr tb x1 x2 x3).2.1), x4, ((md_Main_perform mn lt pl bd lk tr tb x1 x2 x3).2.2.2)) else (((md_Main_perform mn lt pl bd lk tr tb x1 x2 x3).1), ((md_Main_perform mn lt pl bd lk tr tb x1 x2 x3).2.1), ((md_Main_perform mn lt pl bd lk tr tb x1 x2 x3).2.2.1), ((md_Main_perform mn lt pl bd lk tr tb x1 x2 x3).2.2.2)))) else ((-2 : Int32), mn, lt, bd))))))) else (if x2 = (2 : Int32) then (if (md_Plan_hasTask pl x1) = 0 then ((-1 : Int32), mn, lt, bd) else (if (md_Plan_hasResource pl x3) = 0 then ((-1 : Int32), mn, lt, bd) else (if x2 < 0 then ((-2 : Int32), mn, lt, bd) else (if (5 : Int32) < x2 then ((-2 : Int32), mn, lt, bd) else (if (lg_cmp x4 lt) < 0 then ((-2 : Int32), mn, lt, bd) else (if (lg_cmp x4 (1000000000 : Int64)) ≤ 0 then (if 0 ≤ ((md_Main_perform mn lt pl bd lk tr tb x1 x2 x3).1) then (((md_Main_perform mn lt pl bd lk tr tb x1 x2 x3).1), ((md_Main_perform mn lt pl bd lk tr tb x1 x2 x3).2.1), x4, ((md_Main_perform mn lt pl bd lk tr tb x1 x2 x3).2.2.2)) else (if ((md_Main_perform mn lt pl bd lk tr tb x1 x2 x3).1) = (-14 : Int32) then (((md_Main_perform mn lt pl bd lk tr tb x1 x2 x3).1), ((md_Main_perform mn lt pl bd lk tr tb x1 x2 x3).2.1), x4, ((md_Main_perform mn lt pl bd lk tr tb x1 x2 x3).2.2.2)) else (((md_Main_perform mn lt pl bd lk tr tb x1 x2 x3).1), ((md_Main_perform mn lt pl bd lk tr tb x1 x2 x3).2.1), ((md_Main_perform mn lt pl bd lk tr tb x1 x2 x3).2.2.1), ((md_Main_perform mn lt pl bd lk tr tb x1 x2 x3).2.2.2)))) else ((-2 : Int32), mn, lt, bd))))))) else (if (md_Plan_hasTask pl x1) = 0 then ((-1 : Int32), mn, lt, bd) else (if x2 < 0 then ((-2 : Int32), mn, lt, bd) else (if (5 : Int32) < x2 then ((-2 : Int32), mn, lt, bd) else (if (lg_cmp x4 lt) < 0 then ((-2 : Int32), mn, lt, bd) else (if (lg_cmp x4 (1000000000 : Int64)) ≤ 0 then (if 0 ≤ ((md_Main_perform mn lt pl bd lk tr tb x1 x2 x3).1) then (((md_Main_perform mn lt pl bd lk tr tb x1 x2 x3).1), ((md_Main_perform mn lt pl bd lk tr tb x1 x2 x3).2.1), x4, ((md_Main_perform mn lt pl bd lk tr tb x1 x2 x3).2.2.2)) else (if ((md_Main_perform mn lt pl bd lk tr tb x1 x2 x3).1) = (-14 : Int32) then (((md_Main_perform mn lt pl bd lk tr tb x1 x2 x3).1), ((md_Main_perform mn lt pl bd lk tr tb x1 x2 x3).2.1), x4, ((md_Main_perform mn lt pl bd lk tr tb x1 x2 x3).2.2.2)) else (((md_Main_perform mn lt pl bd lk tr tb x1 x2 x3).1), ((md_Main_perform mn lt pl bd lk tr tb x1 x2 x3).2.1), ((md_Main_perform mn lt pl bd lk tr tb x1 x2 x3).2.2.1), ((md_Main_perform mn lt pl bd lk tr tb x1 x2 x3).2.2.2)))) else ((-2 : Int32), mn, lt, bd))))))))
abbrev pq_Main_step (dC : Nat → ClassId) (dI : Nat → Nat → Nat) (cI cZ cO : ClassId) (amn apl abd alk atr atb : Nat → Nat) (mn : cr_S) (lt : Int64) (pl : cr_S) (bd : cr_S) (lk : cr_S) (tr : cr_S) (tb : cr_S) (x1 : Int32) (x2 : Int32) (x3 : Int32) (x4 : Int64) (A : Nat → Prop) : Array Value → State → Outcome → State → Prop :=
  va_Qi (fun (r : Int32) (u : cr_S × Int64 × cr_S) => r = (md_Main_step mn lt pl bd lk tr tb x1 x2 x3 x4).1 ∧ u.1 = (md_Main_step mn lt pl bd lk tr tb x1 x2 x3 x4).2.1 ∧ u.2.1 = (md_Main_step mn lt pl bd lk tr tb x1 x2 x3 x4).2.2.1 ∧ u.2.2 = (md_Main_step mn lt pl bd lk tr tb x1 x2 x3 x4).2.2.2 ∧ cr_RBoard u.2.2) (fun (u : cr_S × Int64 × cr_S) t => va_P (dC, dI) vwCl (cw_Main cI cZ cO amn apl abd alk atr u.1 u.2.1 ++ cw_Plan cI cZ cO apl pl ++ cw_Board cI cZ cO abd apl u.2.2 ++ cw_Locks cI cZ cO alk lk ++ cw_Trial cI cZ cO atr apl atb tr ++ cw_Board cI cZ cO atb apl tb) t.heap ∧ va_K (dC, dI) vwCl [(cI, .int), (cZ, .boolean), (cO, .array .int)] t ∧ va_D A (cw_Main cI cZ cO amn apl abd alk atr u.1 u.2.1 ++ cw_Plan cI cZ cO apl pl ++ cw_Board cI cZ cO abd apl u.2.2 ++ cw_Locks cI cZ cO alk lk ++ cw_Trial cI cZ cO atr apl atb tr ++ cw_Board cI cZ cO atb apl tb)) A
set_option maxHeartbeats 4000000 in
set_option maxRecDepth 100000 in
theorem ct_Main_step (l : Launch) (dC : Nat → ClassId) (dI : Nat → Nat → Nat) (cI cZ cO : ClassId) (amn apl abd alk atr atb : Nat → Nat) (sz : Nat) (mn : cr_S) (lt : Int64) (pl : cr_S) (bd : cr_S) (lk : cr_S) (tr : cr_S) (tb : cr_S) (x1 : Int32) (x2 : Int32) (x3 : Int32) (x4 : Int64) (hR_tb : cr_RBoard tb) (hR_lk : cr_RLocks lk) (hR_bd : cr_RBoard bd) (hR_pl : cr_RPlan pl) : Met l ny_Main_step nw_Main_step ({ frames := 6, cells := 0, slots := 0, locals := 136 } : Room) (va_Pc [.ref (amn 0), .int x1, .int x2, .int x3, .long x4] (fun U => U.heap.size = sz ∧ va_P (dC, dI) vwCl (cw_Main cI cZ cO amn apl abd alk atr mn lt ++ cw_Plan cI cZ cO apl pl ++ cw_Board cI cZ cO abd apl bd ++ cw_Locks cI cZ cO alk lk ++ cw_Trial cI cZ cO atr apl atb tr ++ cw_Board cI cZ cO atb apl tb) U.heap ∧ va_K (dC, dI) vwCl [(cI, .int), (cZ, .boolean), (cO, .array .int)] U ∧ va_D (fun _ => True) (cw_Main cI cZ cO amn apl abd alk atr mn lt ++ cw_Plan cI cZ cO apl pl ++ cw_Board cI cZ cO abd apl bd ++ cw_Locks cI cZ cO alk lk ++ cw_Trial cI cZ cO atr apl atb tr ++ cw_Board cI cZ cO atb apl tb))) (pq_Main_step dC dI cI cZ cO amn apl abd alk atr atb mn lt pl bd lk tr tb x1 x2 x3 x4 (va_A (cw_Main cI cZ cO amn apl abd alk atr mn lt ++ cw_Plan cI cZ cO apl pl ++ cw_Board cI cZ cO abd apl bd ++ cw_Locks cI cZ cO alk lk ++ cw_Trial cI cZ cO atr apl atb tr ++ cw_Board cI cZ cO atb apl tb) sz)) 0 0 (va_A (cw_Main cI cZ cO amn apl abd alk atr mn lt ++ cw_Plan cI cZ cO apl pl ++ cw_Board cI cZ cO abd apl bd ++ cw_Locks cI cZ cO alk lk ++ cw_Trial cI cZ cO atr apl atb tr ++ cw_Board cI cZ cO atb apl tb) sz) := by
  refine Met.ofW (cc := prog_1_method_6_code) (maxL := 8) (ret := (some .int)) (by decide) rfl ?_
  intro p e s m args below meth c s₁ B hml hv
  obtain ⟨rfl, hsz, hP, hK, hD0⟩ := hv
  have hx := B.exec
  have hb := B.bytes
  have hr := B.returns
  have hts0 := atoms_spec (ws := nw_Main_step) B.pre
  have hts : ∀ w ∈ ng_tbl, w.before ([.ref (amn 0), .int x1, .int x2, .int x3, .long x4] : List Value).toArray s = true := fun w h => hts0 w (List.mem_cons_of_mem _ h)
  have hown : s.vm.findClass "CeilingRows" = some m.cls := findClass_of_methodNamed B.named
  have hlocks := B.notSynchronized
  subst hsz
  have hD := hD0.self (sz := s.heap.size)
  generalize hAe : va_A (cw_Main cI cZ cO amn apl abd alk atr mn lt ++ cw_Plan cI cZ cO apl pl ++ cw_Board cI cZ cO abd apl bd ++ cw_Locks cI cZ cO alk lk ++ cw_Trial cI cZ cO atr apl atb tr ++ cw_Board cI cZ cO atb apl tb) s.heap.size = A at hD ⊢
  have hA : ∀ q : Nat, s.heap.size ≤ q → A q := fun q h => by rw [← hAe]; exact Or.inr h
  have hS : va_S A s.heap s.heap [] := va_S.rf
  have hP : va_P (dC, dI) vwCl (cw_Main cI cZ cO amn apl abd alk atr mn lt ++ cw_Plan cI cZ cO apl pl ++ cw_Board cI cZ cO abd apl bd ++ cw_Locks cI cZ cO alk lk ++ cw_Trial cI cZ cO atr apl atb tr ++ cw_Board cI cZ cO atb apl tb) s.heap := hP
  have hl := lv_entry ([.ref (amn 0), .int x1, .int x2, .int x3, .long x4]) (n := 8) (Nat.le_of_ble_eq_true rfl)
  rw [lg_entry_eq]
  generalize (lg_sl ([.ref (amn 0), .int x1, .int x2, .int x3, .long x4]) ++ List.replicate (8 - (lg_sl ([.ref (amn 0), .int x1, .int x2, .int x3, .long x4])).length) Slot.unset).toArray = ls at hl ⊢
  have hl : lv_has ls 8 [(0, .ref (amn 0)), (1, .int x1), (2, .int x2), (3, .int x3), (4, .long x4)] := hl
  have f0_pl_0 := cr_rfo hR_pl.1
  have f0_pl_1 := cr_rfo hR_pl.2.1
  have k_m14 : (-14 : Int32).toInt = -14 := by decide
  have k_m2 : (-2 : Int32).toInt = -2 := by decide
  have k_m1 : (-1 : Int32).toInt = -1 := by decide
  have k_0 : (0 : Int32).toInt = 0 := by decide
  have k_1 : (1 : Int32).toInt = 1 := by decide
  have k_2 : (2 : Int32).toInt = 2 := by decide
  have k_5 : (5 : Int32).toInt = 5 := by decide
  obtain ⟨tgt, hT⟩ : ∃ z, md_Main_step mn lt pl bd lk tr tb x1 x2 x3 x4 = z := ⟨_, rfl⟩
  have hM := hT
  unfold md_Main_step at hM
  refine lv_iload_n hx hb nd_Main_step_0 rfl (lv_at hl 2 rfl) ?_
  refine lv_iconst (v := 1) hx hb nd_Main_step_1 (by decide) ?_
  refine lv_icmp_eq (tgt := 10) hx hb nd_Main_step_2 (by decide) (fun c_1 => ?_) (fun c_1 => ?_)
  · have c_1t := cr_eq c_1
    rw [if_pos c_1] at hM
    refine lv_iconst (v := 1) hx hb nd_Main_step_10 (by decide) ?_
    refine lv_goto (tgt := 15) hx hb nd_Main_step_11 (by decide) ?_
    refine lv_istore (lv' := [(6, .int (1 : Int32)), (0, .ref (amn 0)), (1, .int x1), (2, .int x2), (3, .int x3), (4, .long x4)]) hx hb nd_Main_step_15 hl (by decide) rfl (fun ls hl => ?_)
    refine lv_aload_n hx hb nd_Main_step_17 rfl (lv_at hl 1 rfl) ?_
    refine va_get (D := (dC, dI)) (ci := 4) (v := .ref (apl 0)) (C := "CeilingRows") (T := nf_Main) (N := 6) hx hb hts nin_Main hown hK hP 0 rfl rfl 0 (by decide) (hts _ tw_138) (fun _ h9 => h9) rfl nd_Main_step_18 ?_
    refine lv_iload_n hx hb nd_Main_step_21 rfl (lv_at hl 2 rfl) ?_
    have hPc := hP.sub (ws' := cw_Plan cI cZ cO apl pl) [2, 3, 4, 5, 6, 7, 8, 9, 10, 11, 12, 13, 14, 15, 16, 17, 18] rfl
    have hDc := hD.sub (ws' := cw_Plan cI cZ cO apl pl) [2, 3, 4, 5, 6, 7, 8, 9, 10, 11, 12, 13, 14, 15, 16, 17, 18] (by decide) rfl
    have hFc := va_free (wc := cw_Plan cI cZ cO apl pl) hD hS hA [2, 3, 4, 5, 6, 7, 8, 9, 10, 11, 12, 13, 14, 15, 16, 17, 18] rfl
    refine va_calli (va_runV (As := [.int x1]) (rest := []) ⟨hx, hb, hml, hown, hts⟩ (ct_Plan_hasTask l dC dI cI cZ cO apl s.heap.size pl x1 hR_pl) (cwV 1 hts (ng_V tw_181 tw_182 tw_183 tw_2 tw_184) rfl rfl rfl (by decide +kernel) ⟨Nat.le_of_ble_eq_true rfl, Nat.le_of_ble_eq_true rfl⟩) ⟨fun a U g mk q => by obtain ⟨q0, q1, qP, qK, qD⟩ := q; exact ⟨q0, q1, qP, va_K.moved (u := U) (U := U.calling g mk a) (Vm.Alike.refl U.vm) qK, qD⟩, va_recv hK hPc (ci := 0) (q0 := 0) rfl rfl, fun U hU hW => ⟨rfl, by rw [hU], by rw [hU]; exact hPc, va_K.moved hW.alike hK, hDc.weaken (fun _ _ _ _ => trivial)⟩⟩ rfl rfl hl.1 rfl (lv_room (Nat.le_of_ble_eq_true rfl)) nd_Main_step_22 ⟨Nat.zero_le _, Nat.zero_le _⟩) hS (fun q _ h => hFc q h) hFc (fun r_2 u t H1 locs ht hvm hw hB hz1 hk1 hS => ?_)
    obtain ⟨hP1, hK1, hD1⟩ := hB
    rw [ht] at hP1
    obtain ⟨w_3, f_4⟩ := hw
    try rw [← w_3] at hM
    obtain ⟨hP, hD⟩ := va_join (wr := cw_Main cI cZ cO amn apl abd alk atr mn lt ++ cw_Board cI cZ cO abd apl bd ++ cw_Locks cI cZ cO alk lk ++ cw_Trial cI cZ cO atr apl atb tr ++ cw_Board cI cZ cO atb apl tb) (w1 := cw_Plan cI cZ cO apl pl) hP hD [2, 3, 4, 5, 6, 7, 8, 9, 10, 11, 12, 13, 14, 15, 16, 17, 18] [0, 1, 19, 20, 21, 22, 23, 24, 25, 26, 27, 28, 29, 30, 31, 32, 33, 34, 35, 36, 37, 38, 39, 40, 41, 42, 43, 44, 45, 46, 47, 48] rfl rfl (by decide) (by decide) hk1 hFc hP1 hD1
    have hP := hP.sub (ws' := cw_Main cI cZ cO amn apl abd alk atr mn lt ++ cw_Plan cI cZ cO apl pl ++ cw_Board cI cZ cO abd apl bd ++ cw_Locks cI cZ cO alk lk ++ cw_Trial cI cZ cO atr apl atb tr ++ cw_Board cI cZ cO atb apl tb) [0, 1, 32, 33, 34, 35, 36, 37, 38, 39, 40, 41, 42, 43, 44, 45, 46, 47, 48, 2, 3, 4, 5, 6, 7, 8, 9, 10, 11, 12, 13, 14, 15, 16, 17, 18, 19, 20, 21, 22, 23, 24, 25, 26, 27, 28, 29, 30, 31] rfl
    have hD := hD.sub (ws' := cw_Main cI cZ cO amn apl abd alk atr mn lt ++ cw_Plan cI cZ cO apl pl ++ cw_Board cI cZ cO abd apl bd ++ cw_Locks cI cZ cO alk lk ++ cw_Trial cI cZ cO atr apl atb tr ++ cw_Board cI cZ cO atb apl tb) [0, 1, 32, 33, 34, 35, 36, 37, 38, 39, 40, 41, 42, 43, 44, 45, 46, 47, 48, 2, 3, 4, 5, 6, 7, 8, 9, 10, 11, 12, 13, 14, 15, 16, 17, 18, 19, 20, 21, 22, 23, 24, 25, 26, 27, 28, 29, 30, 31] (by decide) rfl
    generalize H1 = H at hP hS ⊢
    refine lv_if_eq (tgt := 44) hx hb nd_Main_step_25 (by decide) (fun c_5 => ?_) (fun c_5 => ?_)
    · have c_5t := cr_eq c_5
      rw [if_pos c_5] at hM
      refine lv_iconst (v := -1) hx hb nd_Main_step_44 (by decide) ?_
      exact W.iret (v := (-1 : Int32)) hx hb hr (fun t ht hW => ⟨⟨(-1 : Int32), (mn, lt, bd), rfl, ⟨by rw [hT, ← hM], by rw [hT, ← hM], by rw [hT, ← hM], by rw [hT, ← hM], hR_bd⟩, by rw [ht]; exact hP, va_K.moved hW.alike hK, hD⟩, hS.F ht⟩) hS.2.2 nd_Main_step_45
    · have c_5t := cr_ne c_5
      rw [if_neg c_5] at hM
      refine lv_iload hx hb nd_Main_step_28 (lv_at hl 0 rfl) ?_
      refine lv_if_eq (tgt := 46) hx hb nd_Main_step_30 (by decide) (fun c_6 => ?_) (fun c_6 => ?_)
      · exact absurd c_6 (by decide)
      · refine lv_aload_n hx hb nd_Main_step_33 rfl (lv_at hl 1 rfl) ?_
        refine va_get (D := (dC, dI)) (ci := 4) (v := .ref (apl 0)) (C := "CeilingRows") (T := nf_Main) (N := 6) hx hb hts nin_Main hown hK hP 0 rfl rfl 0 (by decide) (hts _ tw_138) (fun _ h9 => h9) rfl nd_Main_step_34 ?_
        refine lv_iload_n hx hb nd_Main_step_37 rfl (lv_at hl 4 rfl) ?_
        have hPc := hP.sub (ws' := cw_Plan cI cZ cO apl pl) [2, 3, 4, 5, 6, 7, 8, 9, 10, 11, 12, 13, 14, 15, 16, 17, 18] rfl
        have hDc := hD.sub (ws' := cw_Plan cI cZ cO apl pl) [2, 3, 4, 5, 6, 7, 8, 9, 10, 11, 12, 13, 14, 15, 16, 17, 18] (by decide) rfl
        have hFc := va_free (wc := cw_Plan cI cZ cO apl pl) hD hS hA [2, 3, 4, 5, 6, 7, 8, 9, 10, 11, 12, 13, 14, 15, 16, 17, 18] rfl
        refine va_calli (va_runV (As := [.int x3]) (rest := []) ⟨hx, hb, hml, hown, hts⟩ (ct_Plan_hasResource l dC dI cI cZ cO apl H.size pl x3 hR_pl) (cwV 1 hts (ng_V tw_185 tw_186 tw_187 tw_2 tw_188) rfl rfl rfl (by decide +kernel) ⟨Nat.le_of_ble_eq_true rfl, Nat.le_of_ble_eq_true rfl⟩) ⟨fun a U g mk q => by obtain ⟨q0, q1, qP, qK, qD⟩ := q; exact ⟨q0, q1, qP, va_K.moved (u := U) (U := U.calling g mk a) (Vm.Alike.refl U.vm) qK, qD⟩, va_recv hK hPc (ci := 0) (q0 := 0) rfl rfl, fun U hU hW => ⟨rfl, by rw [hU], by rw [hU]; exact hPc, va_K.moved hW.alike hK, hDc.weaken (fun _ _ _ _ => trivial)⟩⟩ rfl rfl hl.1 rfl (lv_room (Nat.le_of_ble_eq_true rfl)) nd_Main_step_38 ⟨Nat.zero_le _, Nat.zero_le _⟩) hS (fun q _ h => hFc q h) hFc (fun r_7 u t H1 locs ht hvm hw hB hz1 hk1 hS => ?_)
        obtain ⟨hP1, hK1, hD1⟩ := hB
        rw [ht] at hP1
        obtain ⟨w_8, f_9⟩ := hw
        try rw [← w_8] at hM
        obtain ⟨hP, hD⟩ := va_join (wr := cw_Main cI cZ cO amn apl abd alk atr mn lt ++ cw_Board cI cZ cO abd apl bd ++ cw_Locks cI cZ cO alk lk ++ cw_Trial cI cZ cO atr apl atb tr ++ cw_Board cI cZ cO atb apl tb) (w1 := cw_Plan cI cZ cO apl pl) hP hD [2, 3, 4, 5, 6, 7, 8, 9, 10, 11, 12, 13, 14, 15, 16, 17, 18] [0, 1, 19, 20, 21, 22, 23, 24, 25, 26, 27, 28, 29, 30, 31, 32, 33, 34, 35, 36, 37, 38, 39, 40, 41, 42, 43, 44, 45, 46, 47, 48] rfl rfl (by decide) (by decide) hk1 hFc hP1 hD1
        have hP := hP.sub (ws' := cw_Main cI cZ cO amn apl abd alk atr mn lt ++ cw_Plan cI cZ cO apl pl ++ cw_Board cI cZ cO abd apl bd ++ cw_Locks cI cZ cO alk lk ++ cw_Trial cI cZ cO atr apl atb tr ++ cw_Board cI cZ cO atb apl tb) [0, 1, 32, 33, 34, 35, 36, 37, 38, 39, 40, 41, 42, 43, 44, 45, 46, 47, 48, 2, 3, 4, 5, 6, 7, 8, 9, 10, 11, 12, 13, 14, 15, 16, 17, 18, 19, 20, 21, 22, 23, 24, 25, 26, 27, 28, 29, 30, 31] rfl
        have hD := hD.sub (ws' := cw_Main cI cZ cO amn apl abd alk atr mn lt ++ cw_Plan cI cZ cO apl pl ++ cw_Board cI cZ cO abd apl bd ++ cw_Locks cI cZ cO alk lk ++ cw_Trial cI cZ cO atr apl atb tr ++ cw_Board cI cZ cO atb apl tb) [0, 1, 32, 33, 34, 35, 36, 37, 38, 39, 40, 41, 42, 43, 44, 45, 46, 47, 48, 2, 3, 4, 5, 6, 7, 8, 9, 10, 11, 12, 13, 14, 15, 16, 17, 18, 19, 20, 21, 22, 23, 24, 25, 26, 27, 28, 29, 30, 31] (by decide) rfl
        generalize H1 = H at hP hS ⊢
        refine lv_if_ne (tgt := 46) hx hb nd_Main_step_41 (by decide) (fun c_10 => ?_) (fun c_10 => ?_)
        · have c_10t := cr_ne c_10
          rw [if_neg c_10] at hM
          refine lv_iload_n hx hb nd_Main_step_46 rfl (lv_at hl 3 rfl) ?_
          refine lv_if_lt (tgt := 74) hx hb nd_Main_step_47 (by decide) (fun c_11 => ?_) (fun c_11 => ?_)
          · have c_11t := cr_lt c_11
            rw [if_pos c_11] at hM
            refine lv_bipush (v := -2) hx hb nd_Main_step_74 (by decide) ?_
            exact W.iret (v := (-2 : Int32)) hx hb hr (fun t ht hW => ⟨⟨(-2 : Int32), (mn, lt, bd), rfl, ⟨by rw [hT, ← hM], by rw [hT, ← hM], by rw [hT, ← hM], by rw [hT, ← hM], hR_bd⟩, by rw [ht]; exact hP, va_K.moved hW.alike hK, hD⟩, hS.F ht⟩) hS.2.2 nd_Main_step_76
          · have c_11t := cr_nlt c_11
            rw [if_neg c_11] at hM
            refine lv_iload_n hx hb nd_Main_step_50 rfl (lv_at hl 3 rfl) ?_
            refine lv_iconst (v := 5) hx hb nd_Main_step_51 (by decide) ?_
            refine lv_icmp_gt (tgt := 74) hx hb nd_Main_step_52 (by decide) (fun c_12 => ?_) (fun c_12 => ?_)
            · have c_12t := cr_lt c_12
              rw [if_pos c_12] at hM
              refine lv_bipush (v := -2) hx hb nd_Main_step_74 (by decide) ?_
              exact W.iret (v := (-2 : Int32)) hx hb hr (fun t ht hW => ⟨⟨(-2 : Int32), (mn, lt, bd), rfl, ⟨by rw [hT, ← hM], by rw [hT, ← hM], by rw [hT, ← hM], by rw [hT, ← hM], hR_bd⟩, by rw [ht]; exact hP, va_K.moved hW.alike hK, hD⟩, hS.F ht⟩) hS.2.2 nd_Main_step_76
            · have c_12t := cr_nlt c_12
              rw [if_neg c_12] at hM
              refine lv_lload hx hb nd_Main_step_55 (lv_at hl 5 rfl) ?_
              refine lv_aload_n hx hb nd_Main_step_57 rfl (lv_at hl 1 rfl) ?_
              refine va_get (D := (dC, dI)) (ci := 4) (v := .long lt) (C := "CeilingRows") (T := nf_Main) (N := 6) hx hb hts nin_Main hown hK hP 0 rfl rfl 5 (by decide) (hts _ tw_143) (fun _ h9 => h9) rfl nd_Main_step_58 ?_
              refine W.lcmp hx hb nd_Main_step_61 ?_
              refine lv_if_lt (tgt := 74) hx hb nd_Main_step_62 (by decide) (fun c_13 => ?_) (fun c_13 => ?_)
              · have c_13t := cr_lt c_13
                rw [if_pos c_13] at hM
                refine lv_bipush (v := -2) hx hb nd_Main_step_74 (by decide) ?_
                exact W.iret (v := (-2 : Int32)) hx hb hr (fun t ht hW => ⟨⟨(-2 : Int32), (mn, lt, bd), rfl, ⟨by rw [hT, ← hM], by rw [hT, ← hM], by rw [hT, ← hM], by rw [hT, ← hM], hR_bd⟩, by rw [ht]; exact hP, va_K.moved hW.alike hK, hD⟩, hS.F ht⟩) hS.2.2 nd_Main_step_76
              · have c_13t := cr_nlt c_13
                rw [if_neg c_13] at hM
                refine lv_lload hx hb nd_Main_step_65 (lv_at hl 5 rfl) ?_
                refine lv_ldc2 (v := 1000000000) hx hb hown (hts _ tw_217) nd_Main_step_67 ?_
                refine W.lcmp hx hb nd_Main_step_70 ?_
                refine lv_if_le (tgt := 77) hx hb nd_Main_step_71 (by decide) (fun c_14 => ?_) (fun c_14 => ?_)
                · have c_14t := cr_le c_14
                  rw [if_pos c_14] at hM
                  refine lv_aload_n hx hb nd_Main_step_77 rfl (lv_at hl 1 rfl) ?_
                  refine lv_iload_n hx hb nd_Main_step_78 rfl (lv_at hl 2 rfl) ?_
                  refine lv_iload_n hx hb nd_Main_step_79 rfl (lv_at hl 3 rfl) ?_
                  refine lv_iload_n hx hb nd_Main_step_80 rfl (lv_at hl 4 rfl) ?_
                  have hPc := hP
                  have hDc := hD
                  have hFc := va_free (wc := cw_Main cI cZ cO amn apl abd alk atr mn lt ++ cw_Plan cI cZ cO apl pl ++ cw_Board cI cZ cO abd apl bd ++ cw_Locks cI cZ cO alk lk ++ cw_Trial cI cZ cO atr apl atb tr ++ cw_Board cI cZ cO atb apl tb) hD hS hA [0, 1, 2, 3, 4, 5, 6, 7, 8, 9, 10, 11, 12, 13, 14, 15, 16, 17, 18, 19, 20, 21, 22, 23, 24, 25, 26, 27, 28, 29, 30, 31, 32, 33, 34, 35, 36, 37, 38, 39, 40, 41, 42, 43, 44, 45, 46, 47, 48] rfl
                  refine va_calli (va_runV (As := [.int x1, .int x2, .int x3]) (rest := []) ⟨hx, hb, hml, hown, hts⟩ (ct_Main_perform l dC dI cI cZ cO amn apl abd alk atr atb H.size mn lt pl bd lk tr tb x1 x2 x3 hR_tb hR_lk hR_bd hR_pl (by omega) (by omega) (by omega)) (cwV 3 hts (ng_V tw_218 tw_220 tp_0 tw_1 tw_221) rfl rfl rfl (by decide +kernel) ⟨Nat.le_of_ble_eq_true rfl, Nat.le_of_ble_eq_true rfl⟩) ⟨fun a U g mk q => by obtain ⟨q0, q1, qP, qK, qD⟩ := q; exact ⟨q0, q1, qP, va_K.moved (u := U) (U := U.calling g mk a) (Vm.Alike.refl U.vm) qK, qD⟩, va_recv hK hPc (ci := 4) (q0 := 0) rfl rfl, fun U hU hW => ⟨rfl, by rw [hU], by rw [hU]; exact hPc, va_K.moved hW.alike hK, hDc.weaken (fun _ _ _ _ => trivial)⟩⟩ rfl rfl hl.1 rfl (lv_room (Nat.le_of_ble_eq_true rfl)) nd_Main_step_81 ⟨Nat.zero_le _, Nat.zero_le _⟩) hS (fun q _ h => hFc q h) hFc (fun r_15 u t H1 locs ht hvm hw hB hz1 hk1 hS => ?_)
                  obtain ⟨hP1, hK1, hD1⟩ := hB
                  rw [ht] at hP1
                  obtain ⟨mnq_17, ltq_19, bdq_21⟩ := u
                  dsimp only at hw hP1 hD1
                  obtain ⟨w_16, w_18, w_20, w_22, hR_23⟩ := hw
                  try rw [← w_16] at hM
                  try rw [← w_18] at hM
                  try rw [← w_20] at hM
                  try rw [← w_22] at hM
                  have hP := hP1
                  have hD := cr_Dw hD1 hFc
                  generalize H1 = H at hP hS ⊢
                  refine lv_istore (lv' := [(7, .int r_15), (6, .int (1 : Int32)), (0, .ref (amn 0)), (1, .int x1), (2, .int x2), (3, .int x3), (4, .long x4)]) hx hb nd_Main_step_84 hl (by decide) rfl (fun ls hl => ?_)
                  refine lv_iload hx hb nd_Main_step_86 (lv_at hl 0 rfl) ?_
                  refine lv_if_ge (tgt := 98) hx hb nd_Main_step_88 (by decide) (fun c_24 => ?_) (fun c_24 => ?_)
                  · have c_24t := cr_le c_24
                    rw [if_pos c_24] at hM
                    refine lv_aload_n hx hb nd_Main_step_98 rfl (lv_at hl 2 rfl) ?_
                    refine lv_lload hx hb nd_Main_step_99 (lv_at hl 6 rfl) ?_
                    refine va_put (D := (dC, dI)) (ci := 4) (v := .long x4) (ty := .long) (C := "CeilingRows") (T := nf_Main) (N := 6) hx hb hts nin_Main nt_Main nto_Main nno_Main hown hK hP hD hS 0 rfl rfl 5 (by decide) (hts _ tw_143) (fun _ h9 => h9) rfl (by decide +kernel) rfl rfl (Nat.le_of_ble_eq_true rfl) nd_Main_step_101 (fun H locs hP hD hS => ?_)
                    have hP : va_P (dC, dI) vwCl (cw_Main cI cZ cO amn apl abd alk atr mnq_17 x4 ++ cw_Plan cI cZ cO apl pl ++ cw_Board cI cZ cO abd apl bdq_21 ++ cw_Locks cI cZ cO alk lk ++ cw_Trial cI cZ cO atr apl atb tr ++ cw_Board cI cZ cO atb apl tb) H := hP
                    have hD : va_D A (cw_Main cI cZ cO amn apl abd alk atr mnq_17 x4 ++ cw_Plan cI cZ cO apl pl ++ cw_Board cI cZ cO abd apl bdq_21 ++ cw_Locks cI cZ cO alk lk ++ cw_Trial cI cZ cO atr apl atb tr ++ cw_Board cI cZ cO atb apl tb) := hD
                    refine lv_iload hx hb nd_Main_step_104 (lv_at hl 0 rfl) ?_
                    exact W.iret (v := r_15) hx hb hr (fun t ht hW => ⟨⟨r_15, (mnq_17, x4, bdq_21), rfl, ⟨by rw [hT, ← hM], by rw [hT, ← hM], by rw [hT, ← hM], by rw [hT, ← hM], hR_23⟩, by rw [ht]; exact hP, va_K.moved hW.alike hK, hD⟩, hS.F ht⟩) hS.2.2 nd_Main_step_106
                  · have c_24t := cr_nle c_24
                    rw [if_neg c_24] at hM
                    refine lv_iload hx hb nd_Main_step_91 (lv_at hl 0 rfl) ?_
                    refine lv_bipush (v := -14) hx hb nd_Main_step_93 (by decide) ?_
                    refine lv_icmp_ne (tgt := 104) hx hb nd_Main_step_95 (by decide) (fun c_25 => ?_) (fun c_25 => ?_)
                    · have c_25t := cr_ne c_25
                      rw [if_neg c_25] at hM
                      refine lv_iload hx hb nd_Main_step_104 (lv_at hl 0 rfl) ?_
                      exact W.iret (v := r_15) hx hb hr (fun t ht hW => ⟨⟨r_15, (mnq_17, ltq_19, bdq_21), rfl, ⟨by rw [hT, ← hM], by rw [hT, ← hM], by rw [hT, ← hM], by rw [hT, ← hM], hR_23⟩, by rw [ht]; exact hP, va_K.moved hW.alike hK, hD⟩, hS.F ht⟩) hS.2.2 nd_Main_step_106
                    · have c_25t := cr_eq c_25
                      rw [if_pos c_25] at hM
                      refine lv_aload_n hx hb nd_Main_step_98 rfl (lv_at hl 2 rfl) ?_
                      refine lv_lload hx hb nd_Main_step_99 (lv_at hl 6 rfl) ?_
                      refine va_put (D := (dC, dI)) (ci := 4) (v := .long x4) (ty := .long) (C := "CeilingRows") (T := nf_Main) (N := 6) hx hb hts nin_Main nt_Main nto_Main nno_Main hown hK hP hD hS 0 rfl rfl 5 (by decide) (hts _ tw_143) (fun _ h9 => h9) rfl (by decide +kernel) rfl rfl (Nat.le_of_ble_eq_true rfl) nd_Main_step_101 (fun H locs hP hD hS => ?_)
                      have hP : va_P (dC, dI) vwCl (cw_Main cI cZ cO amn apl abd alk atr mnq_17 x4 ++ cw_Plan cI cZ cO apl pl ++ cw_Board cI cZ cO abd apl bdq_21 ++ cw_Locks cI cZ cO alk lk ++ cw_Trial cI cZ cO atr apl atb tr ++ cw_Board cI cZ cO atb apl tb) H := hP
                      have hD : va_D A (cw_Main cI cZ cO amn apl abd alk atr mnq_17 x4 ++ cw_Plan cI cZ cO apl pl ++ cw_Board cI cZ cO abd apl bdq_21 ++ cw_Locks cI cZ cO alk lk ++ cw_Trial cI cZ cO atr apl atb tr ++ cw_Board cI cZ cO atb apl tb) := hD
                      refine lv_iload hx hb nd_Main_step_104 (lv_at hl 0 rfl) ?_
                      exact W.iret (v := r_15) hx hb hr (fun t ht hW => ⟨⟨r_15, (mnq_17, x4, bdq_21), rfl, ⟨by rw [hT, ← hM], by rw [hT, ← hM], by rw [hT, ← hM], by rw [hT, ← hM], hR_23⟩, by rw [ht]; exact hP, va_K.moved hW.alike hK, hD⟩, hS.F ht⟩) hS.2.2 nd_Main_step_106
                · have c_14t := cr_nle c_14
                  rw [if_neg c_14] at hM
                  refine lv_bipush (v := -2) hx hb nd_Main_step_74 (by decide) ?_
                  exact W.iret (v := (-2 : Int32)) hx hb hr (fun t ht hW => ⟨⟨(-2 : Int32), (mn, lt, bd), rfl, ⟨by rw [hT, ← hM], by rw [hT, ← hM], by rw [hT, ← hM], by rw [hT, ← hM], hR_bd⟩, by rw [ht]; exact hP, va_K.moved hW.alike hK, hD⟩, hS.F ht⟩) hS.2.2 nd_Main_step_76
        · have c_10t := cr_eq c_10
          rw [if_pos c_10] at hM
          refine lv_iconst (v := -1) hx hb nd_Main_step_44 (by decide) ?_
          exact W.iret (v := (-1 : Int32)) hx hb hr (fun t ht hW => ⟨⟨(-1 : Int32), (mn, lt, bd), rfl, ⟨by rw [hT, ← hM], by rw [hT, ← hM], by rw [hT, ← hM], by rw [hT, ← hM], hR_bd⟩, by rw [ht]; exact hP, va_K.moved hW.alike hK, hD⟩, hS.F ht⟩) hS.2.2 nd_Main_step_45
  · have c_1t := cr_ne c_1
    rw [if_neg c_1] at hM
    refine lv_iload_n hx hb nd_Main_step_5 rfl (lv_at hl 2 rfl) ?_
    refine lv_iconst (v := 2) hx hb nd_Main_step_6 (by decide) ?_
    refine lv_icmp_ne (tgt := 14) hx hb nd_Main_step_7 (by decide) (fun c_26 => ?_) (fun c_26 => ?_)
    · have c_26t := cr_ne c_26
      rw [if_neg c_26] at hM
      refine lv_iconst (v := 0) hx hb nd_Main_step_14 (by decide) ?_
      refine lv_istore (lv' := [(6, .int (0 : Int32)), (0, .ref (amn 0)), (1, .int x1), (2, .int x2), (3, .int x3), (4, .long x4)]) hx hb nd_Main_step_15 hl (by decide) rfl (fun ls hl => ?_)
      refine lv_aload_n hx hb nd_Main_step_17 rfl (lv_at hl 1 rfl) ?_
      refine va_get (D := (dC, dI)) (ci := 4) (v := .ref (apl 0)) (C := "CeilingRows") (T := nf_Main) (N := 6) hx hb hts nin_Main hown hK hP 0 rfl rfl 0 (by decide) (hts _ tw_138) (fun _ h9 => h9) rfl nd_Main_step_18 ?_
      refine lv_iload_n hx hb nd_Main_step_21 rfl (lv_at hl 2 rfl) ?_
      have hPc := hP.sub (ws' := cw_Plan cI cZ cO apl pl) [2, 3, 4, 5, 6, 7, 8, 9, 10, 11, 12, 13, 14, 15, 16, 17, 18] rfl
      have hDc := hD.sub (ws' := cw_Plan cI cZ cO apl pl) [2, 3, 4, 5, 6, 7, 8, 9, 10, 11, 12, 13, 14, 15, 16, 17, 18] (by decide) rfl
      have hFc := va_free (wc := cw_Plan cI cZ cO apl pl) hD hS hA [2, 3, 4, 5, 6, 7, 8, 9, 10, 11, 12, 13, 14, 15, 16, 17, 18] rfl
      refine va_calli (va_runV (As := [.int x1]) (rest := []) ⟨hx, hb, hml, hown, hts⟩ (ct_Plan_hasTask l dC dI cI cZ cO apl s.heap.size pl x1 hR_pl) (cwV 1 hts (ng_V tw_181 tw_182 tw_183 tw_2 tw_184) rfl rfl rfl (by decide +kernel) ⟨Nat.le_of_ble_eq_true rfl, Nat.le_of_ble_eq_true rfl⟩) ⟨fun a U g mk q => by obtain ⟨q0, q1, qP, qK, qD⟩ := q; exact ⟨q0, q1, qP, va_K.moved (u := U) (U := U.calling g mk a) (Vm.Alike.refl U.vm) qK, qD⟩, va_recv hK hPc (ci := 0) (q0 := 0) rfl rfl, fun U hU hW => ⟨rfl, by rw [hU], by rw [hU]; exact hPc, va_K.moved hW.alike hK, hDc.weaken (fun _ _ _ _ => trivial)⟩⟩ rfl rfl hl.1 rfl (lv_room (Nat.le_of_ble_eq_true rfl)) nd_Main_step_22 ⟨Nat.zero_le _, Nat.zero_le _⟩) hS (fun q _ h => hFc q h) hFc (fun r_27 u t H1 locs ht hvm hw hB hz1 hk1 hS => ?_)
      obtain ⟨hP1, hK1, hD1⟩ := hB
      rw [ht] at hP1
      obtain ⟨w_28, f_29⟩ := hw
      try rw [← w_28] at hM
      obtain ⟨hP, hD⟩ := va_join (wr := cw_Main cI cZ cO amn apl abd alk atr mn lt ++ cw_Board cI cZ cO abd apl bd ++ cw_Locks cI cZ cO alk lk ++ cw_Trial cI cZ cO atr apl atb tr ++ cw_Board cI cZ cO atb apl tb) (w1 := cw_Plan cI cZ cO apl pl) hP hD [2, 3, 4, 5, 6, 7, 8, 9, 10, 11, 12, 13, 14, 15, 16, 17, 18] [0, 1, 19, 20, 21, 22, 23, 24, 25, 26, 27, 28, 29, 30, 31, 32, 33, 34, 35, 36, 37, 38, 39, 40, 41, 42, 43, 44, 45, 46, 47, 48] rfl rfl (by decide) (by decide) hk1 hFc hP1 hD1
      have hP := hP.sub (ws' := cw_Main cI cZ cO amn apl abd alk atr mn lt ++ cw_Plan cI cZ cO apl pl ++ cw_Board cI cZ cO abd apl bd ++ cw_Locks cI cZ cO alk lk ++ cw_Trial cI cZ cO atr apl atb tr ++ cw_Board cI cZ cO atb apl tb) [0, 1, 32, 33, 34, 35, 36, 37, 38, 39, 40, 41, 42, 43, 44, 45, 46, 47, 48, 2, 3, 4, 5, 6, 7, 8, 9, 10, 11, 12, 13, 14, 15, 16, 17, 18, 19, 20, 21, 22, 23, 24, 25, 26, 27, 28, 29, 30, 31] rfl
      have hD := hD.sub (ws' := cw_Main cI cZ cO amn apl abd alk atr mn lt ++ cw_Plan cI cZ cO apl pl ++ cw_Board cI cZ cO abd apl bd ++ cw_Locks cI cZ cO alk lk ++ cw_Trial cI cZ cO atr apl atb tr ++ cw_Board cI cZ cO atb apl tb) [0, 1, 32, 33, 34, 35, 36, 37, 38, 39, 40, 41, 42, 43, 44, 45, 46, 47, 48, 2, 3, 4, 5, 6, 7, 8, 9, 10, 11, 12, 13, 14, 15, 16, 17, 18, 19, 20, 21, 22, 23, 24, 25, 26, 27, 28, 29, 30, 31] (by decide) rfl
      generalize H1 = H at hP hS ⊢
      refine lv_if_eq (tgt := 44) hx hb nd_Main_step_25 (by decide) (fun c_30 => ?_) (fun c_30 => ?_)
      · have c_30t := cr_eq c_30
        rw [if_pos c_30] at hM
        refine lv_iconst (v := -1) hx hb nd_Main_step_44 (by decide) ?_
        exact W.iret (v := (-1 : Int32)) hx hb hr (fun t ht hW => ⟨⟨(-1 : Int32), (mn, lt, bd), rfl, ⟨by rw [hT, ← hM], by rw [hT, ← hM], by rw [hT, ← hM], by rw [hT, ← hM], hR_bd⟩, by rw [ht]; exact hP, va_K.moved hW.alike hK, hD⟩, hS.F ht⟩) hS.2.2 nd_Main_step_45
      · have c_30t := cr_ne c_30
        rw [if_neg c_30] at hM
        refine lv_iload hx hb nd_Main_step_28 (lv_at hl 0 rfl) ?_
        refine lv_if_eq (tgt := 46) hx hb nd_Main_step_30 (by decide) (fun c_31 => ?_) (fun c_31 => ?_)
        · refine lv_iload_n hx hb nd_Main_step_46 rfl (lv_at hl 3 rfl) ?_
          refine lv_if_lt (tgt := 74) hx hb nd_Main_step_47 (by decide) (fun c_32 => ?_) (fun c_32 => ?_)
          · have c_32t := cr_lt c_32
            rw [if_pos c_32] at hM
            refine lv_bipush (v := -2) hx hb nd_Main_step_74 (by decide) ?_
            exact W.iret (v := (-2 : Int32)) hx hb hr (fun t ht hW => ⟨⟨(-2 : Int32), (mn, lt, bd), rfl, ⟨by rw [hT, ← hM], by rw [hT, ← hM], by rw [hT, ← hM], by rw [hT, ← hM], hR_bd⟩, by rw [ht]; exact hP, va_K.moved hW.alike hK, hD⟩, hS.F ht⟩) hS.2.2 nd_Main_step_76
          · have c_32t := cr_nlt c_32
            rw [if_neg c_32] at hM
            refine lv_iload_n hx hb nd_Main_step_50 rfl (lv_at hl 3 rfl) ?_
            refine lv_iconst (v := 5) hx hb nd_Main_step_51 (by decide) ?_
            refine lv_icmp_gt (tgt := 74) hx hb nd_Main_step_52 (by decide) (fun c_33 => ?_) (fun c_33 => ?_)
            · have c_33t := cr_lt c_33
              rw [if_pos c_33] at hM
              refine lv_bipush (v := -2) hx hb nd_Main_step_74 (by decide) ?_
              exact W.iret (v := (-2 : Int32)) hx hb hr (fun t ht hW => ⟨⟨(-2 : Int32), (mn, lt, bd), rfl, ⟨by rw [hT, ← hM], by rw [hT, ← hM], by rw [hT, ← hM], by rw [hT, ← hM], hR_bd⟩, by rw [ht]; exact hP, va_K.moved hW.alike hK, hD⟩, hS.F ht⟩) hS.2.2 nd_Main_step_76
            · have c_33t := cr_nlt c_33
              rw [if_neg c_33] at hM
              refine lv_lload hx hb nd_Main_step_55 (lv_at hl 5 rfl) ?_
              refine lv_aload_n hx hb nd_Main_step_57 rfl (lv_at hl 1 rfl) ?_
              refine va_get (D := (dC, dI)) (ci := 4) (v := .long lt) (C := "CeilingRows") (T := nf_Main) (N := 6) hx hb hts nin_Main hown hK hP 0 rfl rfl 5 (by decide) (hts _ tw_143) (fun _ h9 => h9) rfl nd_Main_step_58 ?_
              refine W.lcmp hx hb nd_Main_step_61 ?_
              refine lv_if_lt (tgt := 74) hx hb nd_Main_step_62 (by decide) (fun c_34 => ?_) (fun c_34 => ?_)
              · have c_34t := cr_lt c_34
                rw [if_pos c_34] at hM
                refine lv_bipush (v := -2) hx hb nd_Main_step_74 (by decide) ?_
                exact W.iret (v := (-2 : Int32)) hx hb hr (fun t ht hW => ⟨⟨(-2 : Int32), (mn, lt, bd), rfl, ⟨by rw [hT, ← hM], by rw [hT, ← hM], by rw [hT, ← hM], by rw [hT, ← hM], hR_bd⟩, by rw [ht]; exact hP, va_K.moved hW.alike hK, hD⟩, hS.F ht⟩) hS.2.2 nd_Main_step_76
              · have c_34t := cr_nlt c_34
                rw [if_neg c_34] at hM
                refine lv_lload hx hb nd_Main_step_65 (lv_at hl 5 rfl) ?_
                refine lv_ldc2 (v := 1000000000) hx hb hown (hts _ tw_217) nd_Main_step_67 ?_
                refine W.lcmp hx hb nd_Main_step_70 ?_
                refine lv_if_le (tgt := 77) hx hb nd_Main_step_71 (by decide) (fun c_35 => ?_) (fun c_35 => ?_)
                · have c_35t := cr_le c_35
                  rw [if_pos c_35] at hM
                  refine lv_aload_n hx hb nd_Main_step_77 rfl (lv_at hl 1 rfl) ?_
                  refine lv_iload_n hx hb nd_Main_step_78 rfl (lv_at hl 2 rfl) ?_
                  refine lv_iload_n hx hb nd_Main_step_79 rfl (lv_at hl 3 rfl) ?_
                  refine lv_iload_n hx hb nd_Main_step_80 rfl (lv_at hl 4 rfl) ?_
                  have hPc := hP
                  have hDc := hD
                  have hFc := va_free (wc := cw_Main cI cZ cO amn apl abd alk atr mn lt ++ cw_Plan cI cZ cO apl pl ++ cw_Board cI cZ cO abd apl bd ++ cw_Locks cI cZ cO alk lk ++ cw_Trial cI cZ cO atr apl atb tr ++ cw_Board cI cZ cO atb apl tb) hD hS hA [0, 1, 2, 3, 4, 5, 6, 7, 8, 9, 10, 11, 12, 13, 14, 15, 16, 17, 18, 19, 20, 21, 22, 23, 24, 25, 26, 27, 28, 29, 30, 31, 32, 33, 34, 35, 36, 37, 38, 39, 40, 41, 42, 43, 44, 45, 46, 47, 48] rfl
                  refine va_calli (va_runV (As := [.int x1, .int x2, .int x3]) (rest := []) ⟨hx, hb, hml, hown, hts⟩ (ct_Main_perform l dC dI cI cZ cO amn apl abd alk atr atb H.size mn lt pl bd lk tr tb x1 x2 x3 hR_tb hR_lk hR_bd hR_pl (by omega) (by omega) (by omega)) (cwV 3 hts (ng_V tw_218 tw_220 tp_0 tw_1 tw_221) rfl rfl rfl (by decide +kernel) ⟨Nat.le_of_ble_eq_true rfl, Nat.le_of_ble_eq_true rfl⟩) ⟨fun a U g mk q => by obtain ⟨q0, q1, qP, qK, qD⟩ := q; exact ⟨q0, q1, qP, va_K.moved (u := U) (U := U.calling g mk a) (Vm.Alike.refl U.vm) qK, qD⟩, va_recv hK hPc (ci := 4) (q0 := 0) rfl rfl, fun U hU hW => ⟨rfl, by rw [hU], by rw [hU]; exact hPc, va_K.moved hW.alike hK, hDc.weaken (fun _ _ _ _ => trivial)⟩⟩ rfl rfl hl.1 rfl (lv_room (Nat.le_of_ble_eq_true rfl)) nd_Main_step_81 ⟨Nat.zero_le _, Nat.zero_le _⟩) hS (fun q _ h => hFc q h) hFc (fun r_36 u t H1 locs ht hvm hw hB hz1 hk1 hS => ?_)
                  obtain ⟨hP1, hK1, hD1⟩ := hB
                  rw [ht] at hP1
                  obtain ⟨mnq_38, ltq_40, bdq_42⟩ := u
                  dsimp only at hw hP1 hD1
                  obtain ⟨w_37, w_39, w_41, w_43, hR_44⟩ := hw
                  try rw [← w_37] at hM
                  try rw [← w_39] at hM
                  try rw [← w_41] at hM
                  try rw [← w_43] at hM
                  have hP := hP1
                  have hD := cr_Dw hD1 hFc
                  generalize H1 = H at hP hS ⊢
                  refine lv_istore (lv' := [(7, .int r_36), (6, .int (0 : Int32)), (0, .ref (amn 0)), (1, .int x1), (2, .int x2), (3, .int x3), (4, .long x4)]) hx hb nd_Main_step_84 hl (by decide) rfl (fun ls hl => ?_)
                  refine lv_iload hx hb nd_Main_step_86 (lv_at hl 0 rfl) ?_
                  refine lv_if_ge (tgt := 98) hx hb nd_Main_step_88 (by decide) (fun c_45 => ?_) (fun c_45 => ?_)
                  · have c_45t := cr_le c_45
                    rw [if_pos c_45] at hM
                    refine lv_aload_n hx hb nd_Main_step_98 rfl (lv_at hl 2 rfl) ?_
                    refine lv_lload hx hb nd_Main_step_99 (lv_at hl 6 rfl) ?_
                    refine va_put (D := (dC, dI)) (ci := 4) (v := .long x4) (ty := .long) (C := "CeilingRows") (T := nf_Main) (N := 6) hx hb hts nin_Main nt_Main nto_Main nno_Main hown hK hP hD hS 0 rfl rfl 5 (by decide) (hts _ tw_143) (fun _ h9 => h9) rfl (by decide +kernel) rfl rfl (Nat.le_of_ble_eq_true rfl) nd_Main_step_101 (fun H locs hP hD hS => ?_)
                    have hP : va_P (dC, dI) vwCl (cw_Main cI cZ cO amn apl abd alk atr mnq_38 x4 ++ cw_Plan cI cZ cO apl pl ++ cw_Board cI cZ cO abd apl bdq_42 ++ cw_Locks cI cZ cO alk lk ++ cw_Trial cI cZ cO atr apl atb tr ++ cw_Board cI cZ cO atb apl tb) H := hP
                    have hD : va_D A (cw_Main cI cZ cO amn apl abd alk atr mnq_38 x4 ++ cw_Plan cI cZ cO apl pl ++ cw_Board cI cZ cO abd apl bdq_42 ++ cw_Locks cI cZ cO alk lk ++ cw_Trial cI cZ cO atr apl atb tr ++ cw_Board cI cZ cO atb apl tb) := hD
                    refine lv_iload hx hb nd_Main_step_104 (lv_at hl 0 rfl) ?_
                    exact W.iret (v := r_36) hx hb hr (fun t ht hW => ⟨⟨r_36, (mnq_38, x4, bdq_42), rfl, ⟨by rw [hT, ← hM], by rw [hT, ← hM], by rw [hT, ← hM], by rw [hT, ← hM], hR_44⟩, by rw [ht]; exact hP, va_K.moved hW.alike hK, hD⟩, hS.F ht⟩) hS.2.2 nd_Main_step_106
                  · have c_45t := cr_nle c_45
                    rw [if_neg c_45] at hM
                    refine lv_iload hx hb nd_Main_step_91 (lv_at hl 0 rfl) ?_
                    refine lv_bipush (v := -14) hx hb nd_Main_step_93 (by decide) ?_
                    refine lv_icmp_ne (tgt := 104) hx hb nd_Main_step_95 (by decide) (fun c_46 => ?_) (fun c_46 => ?_)
                    · have c_46t := cr_ne c_46
                      rw [if_neg c_46] at hM
                      refine lv_iload hx hb nd_Main_step_104 (lv_at hl 0 rfl) ?_
                      exact W.iret (v := r_36) hx hb hr (fun t ht hW => ⟨⟨r_36, (mnq_38, ltq_40, bdq_42), rfl, ⟨by rw [hT, ← hM], by rw [hT, ← hM], by rw [hT, ← hM], by rw [hT, ← hM], hR_44⟩, by rw [ht]; exact hP, va_K.moved hW.alike hK, hD⟩, hS.F ht⟩) hS.2.2 nd_Main_step_106
                    · have c_46t := cr_eq c_46
                      rw [if_pos c_46] at hM
                      refine lv_aload_n hx hb nd_Main_step_98 rfl (lv_at hl 2 rfl) ?_
                      refine lv_lload hx hb nd_Main_step_99 (lv_at hl 6 rfl) ?_
                      refine va_put (D := (dC, dI)) (ci := 4) (v := .long x4) (ty := .long) (C := "CeilingRows") (T := nf_Main) (N := 6) hx hb hts nin_Main nt_Main nto_Main nno_Main hown hK hP hD hS 0 rfl rfl 5 (by decide) (hts _ tw_143) (fun _ h9 => h9) rfl (by decide +kernel) rfl rfl (Nat.le_of_ble_eq_true rfl) nd_Main_step_101 (fun H locs hP hD hS => ?_)
                      have hP : va_P (dC, dI) vwCl (cw_Main cI cZ cO amn apl abd alk atr mnq_38 x4 ++ cw_Plan cI cZ cO apl pl ++ cw_Board cI cZ cO abd apl bdq_42 ++ cw_Locks cI cZ cO alk lk ++ cw_Trial cI cZ cO atr apl atb tr ++ cw_Board cI cZ cO atb apl tb) H := hP
                      have hD : va_D A (cw_Main cI cZ cO amn apl abd alk atr mnq_38 x4 ++ cw_Plan cI cZ cO apl pl ++ cw_Board cI cZ cO abd apl bdq_42 ++ cw_Locks cI cZ cO alk lk ++ cw_Trial cI cZ cO atr apl atb tr ++ cw_Board cI cZ cO atb apl tb) := hD
                      refine lv_iload hx hb nd_Main_step_104 (lv_at hl 0 rfl) ?_
                      exact W.iret (v := r_36) hx hb hr (fun t ht hW => ⟨⟨r_36, (mnq_38, x4, bdq_42), rfl, ⟨by rw [hT, ← hM], by rw [hT, ← hM], by rw [hT, ← hM], by rw [hT, ← hM], hR_44⟩, by rw [ht]; exact hP, va_K.moved hW.alike hK, hD⟩, hS.F ht⟩) hS.2.2 nd_Main_step_106
                · have c_35t := cr_nle c_35
                  rw [if_neg c_35] at hM
                  refine lv_bipush (v := -2) hx hb nd_Main_step_74 (by decide) ?_
                  exact W.iret (v := (-2 : Int32)) hx hb hr (fun t ht hW => ⟨⟨(-2 : Int32), (mn, lt, bd), rfl, ⟨by rw [hT, ← hM], by rw [hT, ← hM], by rw [hT, ← hM], by rw [hT, ← hM], hR_bd⟩, by rw [ht]; exact hP, va_K.moved hW.alike hK, hD⟩, hS.F ht⟩) hS.2.2 nd_Main_step_76
        · exact absurd c_31 (by decide)
    · have c_26t := cr_eq c_26
      rw [if_pos c_26] at hM
      refine lv_iconst (v := 1) hx hb nd_Main_step_10 (by decide) ?_
      refine lv_goto (tgt := 15) hx hb nd_Main_step_11 (by decide) ?_
      refine lv_istore (lv' := [(6, .int (1 : Int32)), (0, .ref (amn 0)), (1, .int x1), (2, .int x2), (3, .int x3), (4, .long x4)]) hx hb nd_Main_step_15 hl (by decide) rfl (fun ls hl => ?_)
      refine lv_aload_n hx hb nd_Main_step_17 rfl (lv_at hl 1 rfl) ?_
      refine va_get (D := (dC, dI)) (ci := 4) (v := .ref (apl 0)) (C := "CeilingRows") (T := nf_Main) (N := 6) hx hb hts nin_Main hown hK hP 0 rfl rfl 0 (by decide) (hts _ tw_138) (fun _ h9 => h9) rfl nd_Main_step_18 ?_
      refine lv_iload_n hx hb nd_Main_step_21 rfl (lv_at hl 2 rfl) ?_
      have hPc := hP.sub (ws' := cw_Plan cI cZ cO apl pl) [2, 3, 4, 5, 6, 7, 8, 9, 10, 11, 12, 13, 14, 15, 16, 17, 18] rfl
      have hDc := hD.sub (ws' := cw_Plan cI cZ cO apl pl) [2, 3, 4, 5, 6, 7, 8, 9, 10, 11, 12, 13, 14, 15, 16, 17, 18] (by decide) rfl
      have hFc := va_free (wc := cw_Plan cI cZ cO apl pl) hD hS hA [2, 3, 4, 5, 6, 7, 8, 9, 10, 11, 12, 13, 14, 15, 16, 17, 18] rfl
      refine va_calli (va_runV (As := [.int x1]) (rest := []) ⟨hx, hb, hml, hown, hts⟩ (ct_Plan_hasTask l dC dI cI cZ cO apl s.heap.size pl x1 hR_pl) (cwV 1 hts (ng_V tw_181 tw_182 tw_183 tw_2 tw_184) rfl rfl rfl (by decide +kernel) ⟨Nat.le_of_ble_eq_true rfl, Nat.le_of_ble_eq_true rfl⟩) ⟨fun a U g mk q => by obtain ⟨q0, q1, qP, qK, qD⟩ := q; exact ⟨q0, q1, qP, va_K.moved (u := U) (U := U.calling g mk a) (Vm.Alike.refl U.vm) qK, qD⟩, va_recv hK hPc (ci := 0) (q0 := 0) rfl rfl, fun U hU hW => ⟨rfl, by rw [hU], by rw [hU]; exact hPc, va_K.moved hW.alike hK, hDc.weaken (fun _ _ _ _ => trivial)⟩⟩ rfl rfl hl.1 rfl (lv_room (Nat.le_of_ble_eq_true rfl)) nd_Main_step_22 ⟨Nat.zero_le _, Nat.zero_le _⟩) hS (fun q _ h => hFc q h) hFc (fun r_47 u t H1 locs ht hvm hw hB hz1 hk1 hS => ?_)
      obtain ⟨hP1, hK1, hD1⟩ := hB
      rw [ht] at hP1
      obtain ⟨w_48, f_49⟩ := hw
      try rw [← w_48] at hM
      obtain ⟨hP, hD⟩ := va_join (wr := cw_Main cI cZ cO amn apl abd alk atr mn lt ++ cw_Board cI cZ cO abd apl bd ++ cw_Locks cI cZ cO alk lk ++ cw_Trial cI cZ cO atr apl atb tr ++ cw_Board cI cZ cO atb apl tb) (w1 := cw_Plan cI cZ cO apl pl) hP hD [2, 3, 4, 5, 6, 7, 8, 9, 10, 11, 12, 13, 14, 15, 16, 17, 18] [0, 1, 19, 20, 21, 22, 23, 24, 25, 26, 27, 28, 29, 30, 31, 32, 33, 34, 35, 36, 37, 38, 39, 40, 41, 42, 43, 44, 45, 46, 47, 48] rfl rfl (by decide) (by decide) hk1 hFc hP1 hD1
      have hP := hP.sub (ws' := cw_Main cI cZ cO amn apl abd alk atr mn lt ++ cw_Plan cI cZ cO apl pl ++ cw_Board cI cZ cO abd apl bd ++ cw_Locks cI cZ cO alk lk ++ cw_Trial cI cZ cO atr apl atb tr ++ cw_Board cI cZ cO atb apl tb) [0, 1, 32, 33, 34, 35, 36, 37, 38, 39, 40, 41, 42, 43, 44, 45, 46, 47, 48, 2, 3, 4, 5, 6, 7, 8, 9, 10, 11, 12, 13, 14, 15, 16, 17, 18, 19, 20, 21, 22, 23, 24, 25, 26, 27, 28, 29, 30, 31] rfl
      have hD := hD.sub (ws' := cw_Main cI cZ cO amn apl abd alk atr mn lt ++ cw_Plan cI cZ cO apl pl ++ cw_Board cI cZ cO abd apl bd ++ cw_Locks cI cZ cO alk lk ++ cw_Trial cI cZ cO atr apl atb tr ++ cw_Board cI cZ cO atb apl tb) [0, 1, 32, 33, 34, 35, 36, 37, 38, 39, 40, 41, 42, 43, 44, 45, 46, 47, 48, 2, 3, 4, 5, 6, 7, 8, 9, 10, 11, 12, 13, 14, 15, 16, 17, 18, 19, 20, 21, 22, 23, 24, 25, 26, 27, 28, 29, 30, 31] (by decide) rfl
      generalize H1 = H at hP hS ⊢
      refine lv_if_eq (tgt := 44) hx hb nd_Main_step_25 (by decide) (fun c_50 => ?_) (fun c_50 => ?_)
      · have c_50t := cr_eq c_50
        rw [if_pos c_50] at hM
        refine lv_iconst (v := -1) hx hb nd_Main_step_44 (by decide) ?_
        exact W.iret (v := (-1 : Int32)) hx hb hr (fun t ht hW => ⟨⟨(-1 : Int32), (mn, lt, bd), rfl, ⟨by rw [hT, ← hM], by rw [hT, ← hM], by rw [hT, ← hM], by rw [hT, ← hM], hR_bd⟩, by rw [ht]; exact hP, va_K.moved hW.alike hK, hD⟩, hS.F ht⟩) hS.2.2 nd_Main_step_45
      · have c_50t := cr_ne c_50
        rw [if_neg c_50] at hM
        refine lv_iload hx hb nd_Main_step_28 (lv_at hl 0 rfl) ?_
        refine lv_if_eq (tgt := 46) hx hb nd_Main_step_30 (by decide) (fun c_51 => ?_) (fun c_51 => ?_)
        · exact absurd c_51 (by decide)
        · refine lv_aload_n hx hb nd_Main_step_33 rfl (lv_at hl 1 rfl) ?_
          refine va_get (D := (dC, dI)) (ci := 4) (v := .ref (apl 0)) (C := "CeilingRows") (T := nf_Main) (N := 6) hx hb hts nin_Main hown hK hP 0 rfl rfl 0 (by decide) (hts _ tw_138) (fun _ h9 => h9) rfl nd_Main_step_34 ?_
          refine lv_iload_n hx hb nd_Main_step_37 rfl (lv_at hl 4 rfl) ?_
          have hPc := hP.sub (ws' := cw_Plan cI cZ cO apl pl) [2, 3, 4, 5, 6, 7, 8, 9, 10, 11, 12, 13, 14, 15, 16, 17, 18] rfl
          have hDc := hD.sub (ws' := cw_Plan cI cZ cO apl pl) [2, 3, 4, 5, 6, 7, 8, 9, 10, 11, 12, 13, 14, 15, 16, 17, 18] (by decide) rfl
          have hFc := va_free (wc := cw_Plan cI cZ cO apl pl) hD hS hA [2, 3, 4, 5, 6, 7, 8, 9, 10, 11, 12, 13, 14, 15, 16, 17, 18] rfl
          refine va_calli (va_runV (As := [.int x3]) (rest := []) ⟨hx, hb, hml, hown, hts⟩ (ct_Plan_hasResource l dC dI cI cZ cO apl H.size pl x3 hR_pl) (cwV 1 hts (ng_V tw_185 tw_186 tw_187 tw_2 tw_188) rfl rfl rfl (by decide +kernel) ⟨Nat.le_of_ble_eq_true rfl, Nat.le_of_ble_eq_true rfl⟩) ⟨fun a U g mk q => by obtain ⟨q0, q1, qP, qK, qD⟩ := q; exact ⟨q0, q1, qP, va_K.moved (u := U) (U := U.calling g mk a) (Vm.Alike.refl U.vm) qK, qD⟩, va_recv hK hPc (ci := 0) (q0 := 0) rfl rfl, fun U hU hW => ⟨rfl, by rw [hU], by rw [hU]; exact hPc, va_K.moved hW.alike hK, hDc.weaken (fun _ _ _ _ => trivial)⟩⟩ rfl rfl hl.1 rfl (lv_room (Nat.le_of_ble_eq_true rfl)) nd_Main_step_38 ⟨Nat.zero_le _, Nat.zero_le _⟩) hS (fun q _ h => hFc q h) hFc (fun r_52 u t H1 locs ht hvm hw hB hz1 hk1 hS => ?_)
          obtain ⟨hP1, hK1, hD1⟩ := hB
          rw [ht] at hP1
          obtain ⟨w_53, f_54⟩ := hw
          try rw [← w_53] at hM
          obtain ⟨hP, hD⟩ := va_join (wr := cw_Main cI cZ cO amn apl abd alk atr mn lt ++ cw_Board cI cZ cO abd apl bd ++ cw_Locks cI cZ cO alk lk ++ cw_Trial cI cZ cO atr apl atb tr ++ cw_Board cI cZ cO atb apl tb) (w1 := cw_Plan cI cZ cO apl pl) hP hD [2, 3, 4, 5, 6, 7, 8, 9, 10, 11, 12, 13, 14, 15, 16, 17, 18] [0, 1, 19, 20, 21, 22, 23, 24, 25, 26, 27, 28, 29, 30, 31, 32, 33, 34, 35, 36, 37, 38, 39, 40, 41, 42, 43, 44, 45, 46, 47, 48] rfl rfl (by decide) (by decide) hk1 hFc hP1 hD1
          have hP := hP.sub (ws' := cw_Main cI cZ cO amn apl abd alk atr mn lt ++ cw_Plan cI cZ cO apl pl ++ cw_Board cI cZ cO abd apl bd ++ cw_Locks cI cZ cO alk lk ++ cw_Trial cI cZ cO atr apl atb tr ++ cw_Board cI cZ cO atb apl tb) [0, 1, 32, 33, 34, 35, 36, 37, 38, 39, 40, 41, 42, 43, 44, 45, 46, 47, 48, 2, 3, 4, 5, 6, 7, 8, 9, 10, 11, 12, 13, 14, 15, 16, 17, 18, 19, 20, 21, 22, 23, 24, 25, 26, 27, 28, 29, 30, 31] rfl
          have hD := hD.sub (ws' := cw_Main cI cZ cO amn apl abd alk atr mn lt ++ cw_Plan cI cZ cO apl pl ++ cw_Board cI cZ cO abd apl bd ++ cw_Locks cI cZ cO alk lk ++ cw_Trial cI cZ cO atr apl atb tr ++ cw_Board cI cZ cO atb apl tb) [0, 1, 32, 33, 34, 35, 36, 37, 38, 39, 40, 41, 42, 43, 44, 45, 46, 47, 48, 2, 3, 4, 5, 6, 7, 8, 9, 10, 11, 12, 13, 14, 15, 16, 17, 18, 19, 20, 21, 22, 23, 24, 25, 26, 27, 28, 29, 30, 31] (by decide) rfl
          generalize H1 = H at hP hS ⊢
          refine lv_if_ne (tgt := 46) hx hb nd_Main_step_41 (by decide) (fun c_55 => ?_) (fun c_55 => ?_)
          · have c_55t := cr_ne c_55
            rw [if_neg c_55] at hM
            refine lv_iload_n hx hb nd_Main_step_46 rfl (lv_at hl 3 rfl) ?_
            refine lv_if_lt (tgt := 74) hx hb nd_Main_step_47 (by decide) (fun c_56 => ?_) (fun c_56 => ?_)
            · have c_56t := cr_lt c_56
              rw [if_pos c_56] at hM
              refine lv_bipush (v := -2) hx hb nd_Main_step_74 (by decide) ?_
              exact W.iret (v := (-2 : Int32)) hx hb hr (fun t ht hW => ⟨⟨(-2 : Int32), (mn, lt, bd), rfl, ⟨by rw [hT, ← hM], by rw [hT, ← hM], by rw [hT, ← hM], by rw [hT, ← hM], hR_bd⟩, by rw [ht]; exact hP, va_K.moved hW.alike hK, hD⟩, hS.F ht⟩) hS.2.2 nd_Main_step_76
            · have c_56t := cr_nlt c_56
              rw [if_neg c_56] at hM
              refine lv_iload_n hx hb nd_Main_step_50 rfl (lv_at hl 3 rfl) ?_
              refine lv_iconst (v := 5) hx hb nd_Main_step_51 (by decide) ?_
              refine lv_icmp_gt (tgt := 74) hx hb nd_Main_step_52 (by decide) (fun c_57 => ?_) (fun c_57 => ?_)
              · have c_57t := cr_lt c_57
                rw [if_pos c_57] at hM
                refine lv_bipush (v := -2) hx hb nd_Main_step_74 (by decide) ?_
                exact W.iret (v := (-2 : Int32)) hx hb hr (fun t ht hW => ⟨⟨(-2 : Int32), (mn, lt, bd), rfl, ⟨by rw [hT, ← hM], by rw [hT, ← hM], by rw [hT, ← hM], by rw [hT, ← hM], hR_bd⟩, by rw [ht]; exact hP, va_K.moved hW.alike hK, hD⟩, hS.F ht⟩) hS.2.2 nd_Main_step_76
              · have c_57t := cr_nlt c_57
                rw [if_neg c_57] at hM
                refine lv_lload hx hb nd_Main_step_55 (lv_at hl 5 rfl) ?_
                refine lv_aload_n hx hb nd_Main_step_57 rfl (lv_at hl 1 rfl) ?_
                refine va_get (D := (dC, dI)) (ci := 4) (v := .long lt) (C := "CeilingRows") (T := nf_Main) (N := 6) hx hb hts nin_Main hown hK hP 0 rfl rfl 5 (by decide) (hts _ tw_143) (fun _ h9 => h9) rfl nd_Main_step_58 ?_
                refine W.lcmp hx hb nd_Main_step_61 ?_
                refine lv_if_lt (tgt := 74) hx hb nd_Main_step_62 (by decide) (fun c_58 => ?_) (fun c_58 => ?_)
                · have c_58t := cr_lt c_58
                  rw [if_pos c_58] at hM
                  refine lv_bipush (v := -2) hx hb nd_Main_step_74 (by decide) ?_
                  exact W.iret (v := (-2 : Int32)) hx hb hr (fun t ht hW => ⟨⟨(-2 : Int32), (mn, lt, bd), rfl, ⟨by rw [hT, ← hM], by rw [hT, ← hM], by rw [hT, ← hM], by rw [hT, ← hM], hR_bd⟩, by rw [ht]; exact hP, va_K.moved hW.alike hK, hD⟩, hS.F ht⟩) hS.2.2 nd_Main_step_76
                · have c_58t := cr_nlt c_58
                  rw [if_neg c_58] at hM
                  refine lv_lload hx hb nd_Main_step_65 (lv_at hl 5 rfl) ?_
                  refine lv_ldc2 (v := 1000000000) hx hb hown (hts _ tw_217) nd_Main_step_67 ?_
                  refine W.lcmp hx hb nd_Main_step_70 ?_
                  refine lv_if_le (tgt := 77) hx hb nd_Main_step_71 (by decide) (fun c_59 => ?_) (fun c_59 => ?_)
                  · have c_59t := cr_le c_59
                    rw [if_pos c_59] at hM
                    refine lv_aload_n hx hb nd_Main_step_77 rfl (lv_at hl 1 rfl) ?_
                    refine lv_iload_n hx hb nd_Main_step_78 rfl (lv_at hl 2 rfl) ?_
                    refine lv_iload_n hx hb nd_Main_step_79 rfl (lv_at hl 3 rfl) ?_
                    refine lv_iload_n hx hb nd_Main_step_80 rfl (lv_at hl 4 rfl) ?_
                    have hPc := hP
                    have hDc := hD
                    have hFc := va_free (wc := cw_Main cI cZ cO amn apl abd alk atr mn lt ++ cw_Plan cI cZ cO apl pl ++ cw_Board cI cZ cO abd apl bd ++ cw_Locks cI cZ cO alk lk ++ cw_Trial cI cZ cO atr apl atb tr ++ cw_Board cI cZ cO atb apl tb) hD hS hA [0, 1, 2, 3, 4, 5, 6, 7, 8, 9, 10, 11, 12, 13, 14, 15, 16, 17, 18, 19, 20, 21, 22, 23, 24, 25, 26, 27, 28, 29, 30, 31, 32, 33, 34, 35, 36, 37, 38, 39, 40, 41, 42, 43, 44, 45, 46, 47, 48] rfl
                    refine va_calli (va_runV (As := [.int x1, .int x2, .int x3]) (rest := []) ⟨hx, hb, hml, hown, hts⟩ (ct_Main_perform l dC dI cI cZ cO amn apl abd alk atr atb H.size mn lt pl bd lk tr tb x1 x2 x3 hR_tb hR_lk hR_bd hR_pl (by omega) (by omega) (by omega)) (cwV 3 hts (ng_V tw_218 tw_220 tp_0 tw_1 tw_221) rfl rfl rfl (by decide +kernel) ⟨Nat.le_of_ble_eq_true rfl, Nat.le_of_ble_eq_true rfl⟩) ⟨fun a U g mk q => by obtain ⟨q0, q1, qP, qK, qD⟩ := q; exact ⟨q0, q1, qP, va_K.moved (u := U) (U := U.calling g mk a) (Vm.Alike.refl U.vm) qK, qD⟩, va_recv hK hPc (ci := 4) (q0 := 0) rfl rfl, fun U hU hW => ⟨rfl, by rw [hU], by rw [hU]; exact hPc, va_K.moved hW.alike hK, hDc.weaken (fun _ _ _ _ => trivial)⟩⟩ rfl rfl hl.1 rfl (lv_room (Nat.le_of_ble_eq_true rfl)) nd_Main_step_81 ⟨Nat.zero_le _, Nat.zero_le _⟩) hS (fun q _ h => hFc q h) hFc (fun r_60 u t H1 locs ht hvm hw hB hz1 hk1 hS => ?_)
                    obtain ⟨hP1, hK1, hD1⟩ := hB
                    rw [ht] at hP1
                    obtain ⟨mnq_62, ltq_64, bdq_66⟩ := u
                    dsimp only at hw hP1 hD1
                    obtain ⟨w_61, w_63, w_65, w_67, hR_68⟩ := hw
                    try rw [← w_61] at hM
                    try rw [← w_63] at hM
                    try rw [← w_65] at hM
                    try rw [← w_67] at hM
                    have hP := hP1
                    have hD := cr_Dw hD1 hFc
                    generalize H1 = H at hP hS ⊢
                    refine lv_istore (lv' := [(7, .int r_60), (6, .int (1 : Int32)), (0, .ref (amn 0)), (1, .int x1), (2, .int x2), (3, .int x3), (4, .long x4)]) hx hb nd_Main_step_84 hl (by decide) rfl (fun ls hl => ?_)
                    refine lv_iload hx hb nd_Main_step_86 (lv_at hl 0 rfl) ?_
                    refine lv_if_ge (tgt := 98) hx hb nd_Main_step_88 (by decide) (fun c_69 => ?_) (fun c_69 => ?_)
                    · have c_69t := cr_le c_69
                      rw [if_pos c_69] at hM
                      refine lv_aload_n hx hb nd_Main_step_98 rfl (lv_at hl 2 rfl) ?_
                      refine lv_lload hx hb nd_Main_step_99 (lv_at hl 6 rfl) ?_
                      refine va_put (D := (dC, dI)) (ci := 4) (v := .long x4) (ty := .long) (C := "CeilingRows") (T := nf_Main) (N := 6) hx hb hts nin_Main nt_Main nto_Main nno_Main hown hK hP hD hS 0 rfl rfl 5 (by decide) (hts _ tw_143) (fun _ h9 => h9) rfl (by decide +kernel) rfl rfl (Nat.le_of_ble_eq_true rfl) nd_Main_step_101 (fun H locs hP hD hS => ?_)
                      have hP : va_P (dC, dI) vwCl (cw_Main cI cZ cO amn apl abd alk atr mnq_62 x4 ++ cw_Plan cI cZ cO apl pl ++ cw_Board cI cZ cO abd apl bdq_66 ++ cw_Locks cI cZ cO alk lk ++ cw_Trial cI cZ cO atr apl atb tr ++ cw_Board cI cZ cO atb apl tb) H := hP
                      have hD : va_D A (cw_Main cI cZ cO amn apl abd alk atr mnq_62 x4 ++ cw_Plan cI cZ cO apl pl ++ cw_Board cI cZ cO abd apl bdq_66 ++ cw_Locks cI cZ cO alk lk ++ cw_Trial cI cZ cO atr apl atb tr ++ cw_Board cI cZ cO atb apl tb) := hD
                      refine lv_iload hx hb nd_Main_step_104 (lv_at hl 0 rfl) ?_
                      exact W.iret (v := r_60) hx hb hr (fun t ht hW => ⟨⟨r_60, (mnq_62, x4, bdq_66), rfl, ⟨by rw [hT, ← hM], by rw [hT, ← hM], by rw [hT, ← hM], by rw [hT, ← hM], hR_68⟩, by rw [ht]; exact hP, va_K.moved hW.alike hK, hD⟩, hS.F ht⟩) hS.2.2 nd_Main_step_106
                    · have c_69t := cr_nle c_69
                      rw [if_neg c_69] at hM
                      refine lv_iload hx hb nd_Main_step_91 (lv_at hl 0 rfl) ?_
                      refine lv_bipush (v := -14) hx hb nd_Main_step_93 (by decide) ?_
                      refine lv_icmp_ne (tgt := 104) hx hb nd_Main_step_95 (by decide) (fun c_70 => ?_) (fun c_70 => ?_)
                      · have c_70t := cr_ne c_70
                        rw [if_neg c_70] at hM
                        refine lv_iload hx hb nd_Main_step_104 (lv_at hl 0 rfl) ?_
                        exact W.iret (v := r_60) hx hb hr (fun t ht hW => ⟨⟨r_60, (mnq_62, ltq_64, bdq_66), rfl, ⟨by rw [hT, ← hM], by rw [hT, ← hM], by rw [hT, ← hM], by rw [hT, ← hM], hR_68⟩, by rw [ht]; exact hP, va_K.moved hW.alike hK, hD⟩, hS.F ht⟩) hS.2.2 nd_Main_step_106
                      · have c_70t := cr_eq c_70
                        rw [if_pos c_70] at hM
                        refine lv_aload_n hx hb nd_Main_step_98 rfl (lv_at hl 2 rfl) ?_
                        refine lv_lload hx hb nd_Main_step_99 (lv_at hl 6 rfl) ?_
                        refine va_put (D := (dC, dI)) (ci := 4) (v := .long x4) (ty := .long) (C := "CeilingRows") (T := nf_Main) (N := 6) hx hb hts nin_Main nt_Main nto_Main nno_Main hown hK hP hD hS 0 rfl rfl 5 (by decide) (hts _ tw_143) (fun _ h9 => h9) rfl (by decide +kernel) rfl rfl (Nat.le_of_ble_eq_true rfl) nd_Main_step_101 (fun H locs hP hD hS => ?_)
                        have hP : va_P (dC, dI) vwCl (cw_Main cI cZ cO amn apl abd alk atr mnq_62 x4 ++ cw_Plan cI cZ cO apl pl ++ cw_Board cI cZ cO abd apl bdq_66 ++ cw_Locks cI cZ cO alk lk ++ cw_Trial cI cZ cO atr apl atb tr ++ cw_Board cI cZ cO atb apl tb) H := hP
                        have hD : va_D A (cw_Main cI cZ cO amn apl abd alk atr mnq_62 x4 ++ cw_Plan cI cZ cO apl pl ++ cw_Board cI cZ cO abd apl bdq_66 ++ cw_Locks cI cZ cO alk lk ++ cw_Trial cI cZ cO atr apl atb tr ++ cw_Board cI cZ cO atb apl tb) := hD
                        refine lv_iload hx hb nd_Main_step_104 (lv_at hl 0 rfl) ?_
                        exact W.iret (v := r_60) hx hb hr (fun t ht hW => ⟨⟨r_60, (mnq_62, x4, bdq_66), rfl, ⟨by rw [hT, ← hM], by rw [hT, ← hM], by rw [hT, ← hM], by rw [hT, ← hM], hR_68⟩, by rw [ht]; exact hP, va_K.moved hW.alike hK, hD⟩, hS.F ht⟩) hS.2.2 nd_Main_step_106
                  · have c_59t := cr_nle c_59
                    rw [if_neg c_59] at hM
                    refine lv_bipush (v := -2) hx hb nd_Main_step_74 (by decide) ?_
                    exact W.iret (v := (-2 : Int32)) hx hb hr (fun t ht hW => ⟨⟨(-2 : Int32), (mn, lt, bd), rfl, ⟨by rw [hT, ← hM], by rw [hT, ← hM], by rw [hT, ← hM], by rw [hT, ← hM], hR_bd⟩, by rw [ht]; exact hP, va_K.moved hW.alike hK, hD⟩, hS.F ht⟩) hS.2.2 nd_Main_step_76
          · have c_55t := cr_eq c_55
            rw [if_pos c_55] at hM
            refine lv_iconst (v := -1) hx hb nd_Main_step_44 (by decide) ?_
            exact W.iret (v := (-1 : Int32)) hx hb hr (fun t ht hW => ⟨⟨(-1 : Int32), (mn, lt, bd), rfl, ⟨by rw [hT, ← hM], by rw [hT, ← hM], by rw [hT, ← hM], by rw [hT, ← hM], hR_bd⟩, by rw [ht]; exact hP, va_K.moved hW.alike hK, hD⟩, hS.F ht⟩) hS.2.2 nd_Main_step_45
end
section
theorem nd_Main_rank_0 : decode prog_1_method_7_code 0 = .ok (.aload_n 0, 1) := by decide +kernel
theorem nd_Main_rank_1 : decode prog_1_method_7_code 1 = .ok (.getfield 12, 3) := by decide +kernel
theorem nd_Main_rank_4 : decode prog_1_method_7_code 4 = .ok (.iload_n 1, 1) := by decide +kernel
theorem nd_Main_rank_5 : decode prog_1_method_7_code 5 = .ok (.invokevirtual 66, 3) := by decide +kernel
theorem nd_Main_rank_8 : decode prog_1_method_7_code 8 = .ok (.ifCond .eq (14), 3) := by decide +kernel
theorem nd_Main_rank_11 : decode prog_1_method_7_code 11 = .ok (.aload_n 0, 1) := by decide +kernel
theorem nd_Main_rank_12 : decode prog_1_method_7_code 12 = .ok (.getfield 21, 3) := by decide +kernel
theorem nd_Main_rank_15 : decode prog_1_method_7_code 15 = .ok (.iload_n 1, 1) := by decide +kernel
theorem nd_Main_rank_16 : decode prog_1_method_7_code 16 = .ok (.invokevirtual 101, 3) := by decide +kernel
theorem nd_Main_rank_19 : decode prog_1_method_7_code 19 = .ok (.goto (4), 3) := by decide +kernel
theorem nd_Main_rank_22 : decode prog_1_method_7_code 22 = .ok (.iconst (-1), 1) := by decide +kernel
theorem nd_Main_rank_23 : decode prog_1_method_7_code 23 = .ok (.ireturn, 1) := by decide +kernel
def md_Main_rank (mn : cr_S) (lt : Int64) (pl : cr_S) (bd : cr_S) (lk : cr_S) (tr : cr_S) (tb : cr_S) (x1 : Int32) : Int32 :=
  (if (md_Plan_hasTask pl x1) = 0 then (-1 : Int32) else (md_Board_rankNow pl bd x1))
abbrev pq_Main_rank (dC : Nat → ClassId) (dI : Nat → Nat → Nat) (cI cZ cO : ClassId) (amn apl abd alk atr atb : Nat → Nat) (mn : cr_S) (lt : Int64) (pl : cr_S) (bd : cr_S) (lk : cr_S) (tr : cr_S) (tb : cr_S) (x1 : Int32) (A : Nat → Prop) : Array Value → State → Outcome → State → Prop :=
  va_Qi (fun (r : Int32) (_ : Unit) => r = md_Main_rank mn lt pl bd lk tr tb x1) (fun (_ : Unit) t => va_P (dC, dI) vwCl (cw_Main cI cZ cO amn apl abd alk atr mn lt ++ cw_Plan cI cZ cO apl pl ++ cw_Board cI cZ cO abd apl bd ++ cw_Locks cI cZ cO alk lk ++ cw_Trial cI cZ cO atr apl atb tr ++ cw_Board cI cZ cO atb apl tb) t.heap ∧ va_K (dC, dI) vwCl [(cI, .int), (cZ, .boolean), (cO, .array .int)] t ∧ va_D A (cw_Main cI cZ cO amn apl abd alk atr mn lt ++ cw_Plan cI cZ cO apl pl ++ cw_Board cI cZ cO abd apl bd ++ cw_Locks cI cZ cO alk lk ++ cw_Trial cI cZ cO atr apl atb tr ++ cw_Board cI cZ cO atb apl tb)) A
set_option maxHeartbeats 4000000 in
set_option maxRecDepth 100000 in
theorem ct_Main_rank (l : Launch) (dC : Nat → ClassId) (dI : Nat → Nat → Nat) (cI cZ cO : ClassId) (amn apl abd alk atr atb : Nat → Nat) (sz : Nat) (mn : cr_S) (lt : Int64) (pl : cr_S) (bd : cr_S) (lk : cr_S) (tr : cr_S) (tb : cr_S) (x1 : Int32) (hR_tb : cr_RBoard tb) (hR_lk : cr_RLocks lk) (hR_bd : cr_RBoard bd) (hR_pl : cr_RPlan pl) : Met l ny_Main_rank nw_Main_rank ({ frames := 2, cells := 0, slots := 0, locals := 44 } : Room) (va_Pc [.ref (amn 0), .int x1] (fun U => U.heap.size = sz ∧ va_P (dC, dI) vwCl (cw_Main cI cZ cO amn apl abd alk atr mn lt ++ cw_Plan cI cZ cO apl pl ++ cw_Board cI cZ cO abd apl bd ++ cw_Locks cI cZ cO alk lk ++ cw_Trial cI cZ cO atr apl atb tr ++ cw_Board cI cZ cO atb apl tb) U.heap ∧ va_K (dC, dI) vwCl [(cI, .int), (cZ, .boolean), (cO, .array .int)] U ∧ va_D (fun _ => True) (cw_Main cI cZ cO amn apl abd alk atr mn lt ++ cw_Plan cI cZ cO apl pl ++ cw_Board cI cZ cO abd apl bd ++ cw_Locks cI cZ cO alk lk ++ cw_Trial cI cZ cO atr apl atb tr ++ cw_Board cI cZ cO atb apl tb))) (pq_Main_rank dC dI cI cZ cO amn apl abd alk atr atb mn lt pl bd lk tr tb x1 (va_A (cw_Main cI cZ cO amn apl abd alk atr mn lt ++ cw_Plan cI cZ cO apl pl ++ cw_Board cI cZ cO abd apl bd ++ cw_Locks cI cZ cO alk lk ++ cw_Trial cI cZ cO atr apl atb tr ++ cw_Board cI cZ cO atb apl tb) sz)) 0 0 (va_A (cw_Main cI cZ cO amn apl abd alk atr mn lt ++ cw_Plan cI cZ cO apl pl ++ cw_Board cI cZ cO abd apl bd ++ cw_Locks cI cZ cO alk lk ++ cw_Trial cI cZ cO atr apl atb tr ++ cw_Board cI cZ cO atb apl tb) sz) := by
  refine Met.ofW (cc := prog_1_method_7_code) (maxL := 2) (ret := (some .int)) (by decide) rfl ?_
  intro p e s m args below meth c s₁ B hml hv
  obtain ⟨rfl, hsz, hP, hK, hD0⟩ := hv
  have hx := B.exec
  have hb := B.bytes
  have hr := B.returns
  have hts0 := atoms_spec (ws := nw_Main_rank) B.pre
  have hts : ∀ w ∈ ng_tbl, w.before ([.ref (amn 0), .int x1] : List Value).toArray s = true := fun w h => hts0 w (List.mem_cons_of_mem _ h)
  have hown : s.vm.findClass "CeilingRows" = some m.cls := findClass_of_methodNamed B.named
  have hlocks := B.notSynchronized
  subst hsz
  have hD := hD0.self (sz := s.heap.size)
  generalize hAe : va_A (cw_Main cI cZ cO amn apl abd alk atr mn lt ++ cw_Plan cI cZ cO apl pl ++ cw_Board cI cZ cO abd apl bd ++ cw_Locks cI cZ cO alk lk ++ cw_Trial cI cZ cO atr apl atb tr ++ cw_Board cI cZ cO atb apl tb) s.heap.size = A at hD ⊢
  have hA : ∀ q : Nat, s.heap.size ≤ q → A q := fun q h => by rw [← hAe]; exact Or.inr h
  have hS : va_S A s.heap s.heap [] := va_S.rf
  have hP : va_P (dC, dI) vwCl (cw_Main cI cZ cO amn apl abd alk atr mn lt ++ cw_Plan cI cZ cO apl pl ++ cw_Board cI cZ cO abd apl bd ++ cw_Locks cI cZ cO alk lk ++ cw_Trial cI cZ cO atr apl atb tr ++ cw_Board cI cZ cO atb apl tb) s.heap := hP
  have hl := lv_entry ([.ref (amn 0), .int x1]) (n := 2) (Nat.le_of_ble_eq_true rfl)
  rw [lg_entry_eq]
  generalize (lg_sl ([.ref (amn 0), .int x1]) ++ List.replicate (2 - (lg_sl ([.ref (amn 0), .int x1])).length) Slot.unset).toArray = ls at hl ⊢
  have hl : lv_has ls 2 [(0, .ref (amn 0)), (1, .int x1)] := hl
  have f0_pl_0 := cr_rfo hR_pl.1
  have f0_pl_1 := cr_rfo hR_pl.2.1
  have k_m1 : (-1 : Int32).toInt = -1 := by decide
  have k_0 : (0 : Int32).toInt = 0 := by decide
  obtain ⟨tgt, hT⟩ : ∃ z, md_Main_rank mn lt pl bd lk tr tb x1 = z := ⟨_, rfl⟩
  have hM := hT
  unfold md_Main_rank at hM
  refine lv_aload_n hx hb nd_Main_rank_0 rfl (lv_at hl 0 rfl) ?_
  refine va_get (D := (dC, dI)) (ci := 4) (v := .ref (apl 0)) (C := "CeilingRows") (T := nf_Main) (N := 6) hx hb hts nin_Main hown hK hP 0 rfl rfl 0 (by decide) (hts _ tw_138) (fun _ h9 => h9) rfl nd_Main_rank_1 ?_
  refine lv_iload_n hx hb nd_Main_rank_4 rfl (lv_at hl 1 rfl) ?_
  have hPc := hP.sub (ws' := cw_Plan cI cZ cO apl pl) [2, 3, 4, 5, 6, 7, 8, 9, 10, 11, 12, 13, 14, 15, 16, 17, 18] rfl
  have hDc := hD.sub (ws' := cw_Plan cI cZ cO apl pl) [2, 3, 4, 5, 6, 7, 8, 9, 10, 11, 12, 13, 14, 15, 16, 17, 18] (by decide) rfl
  have hFc := va_free (wc := cw_Plan cI cZ cO apl pl) hD hS hA [2, 3, 4, 5, 6, 7, 8, 9, 10, 11, 12, 13, 14, 15, 16, 17, 18] rfl
  refine va_calli (va_runV (As := [.int x1]) (rest := []) ⟨hx, hb, hml, hown, hts⟩ (ct_Plan_hasTask l dC dI cI cZ cO apl s.heap.size pl x1 hR_pl) (cwV 1 hts (ng_V tw_181 tw_182 tw_183 tw_2 tw_184) rfl rfl rfl (by decide +kernel) ⟨Nat.le_of_ble_eq_true rfl, Nat.le_of_ble_eq_true rfl⟩) ⟨fun a U g mk q => by obtain ⟨q0, q1, qP, qK, qD⟩ := q; exact ⟨q0, q1, qP, va_K.moved (u := U) (U := U.calling g mk a) (Vm.Alike.refl U.vm) qK, qD⟩, va_recv hK hPc (ci := 0) (q0 := 0) rfl rfl, fun U hU hW => ⟨rfl, by rw [hU], by rw [hU]; exact hPc, va_K.moved hW.alike hK, hDc.weaken (fun _ _ _ _ => trivial)⟩⟩ rfl rfl hl.1 rfl (lv_room (Nat.le_of_ble_eq_true rfl)) nd_Main_rank_5 ⟨Nat.zero_le _, Nat.zero_le _⟩) hS (fun q _ h => hFc q h) hFc (fun r_1 u t H1 locs ht hvm hw hB hz1 hk1 hS => ?_)
  obtain ⟨hP1, hK1, hD1⟩ := hB
  rw [ht] at hP1
  obtain ⟨w_2, f_3⟩ := hw
  try rw [← w_2] at hM
  obtain ⟨hP, hD⟩ := va_join (wr := cw_Main cI cZ cO amn apl abd alk atr mn lt ++ cw_Board cI cZ cO abd apl bd ++ cw_Locks cI cZ cO alk lk ++ cw_Trial cI cZ cO atr apl atb tr ++ cw_Board cI cZ cO atb apl tb) (w1 := cw_Plan cI cZ cO apl pl) hP hD [2, 3, 4, 5, 6, 7, 8, 9, 10, 11, 12, 13, 14, 15, 16, 17, 18] [0, 1, 19, 20, 21, 22, 23, 24, 25, 26, 27, 28, 29, 30, 31, 32, 33, 34, 35, 36, 37, 38, 39, 40, 41, 42, 43, 44, 45, 46, 47, 48] rfl rfl (by decide) (by decide) hk1 hFc hP1 hD1
  have hP := hP.sub (ws' := cw_Main cI cZ cO amn apl abd alk atr mn lt ++ cw_Plan cI cZ cO apl pl ++ cw_Board cI cZ cO abd apl bd ++ cw_Locks cI cZ cO alk lk ++ cw_Trial cI cZ cO atr apl atb tr ++ cw_Board cI cZ cO atb apl tb) [0, 1, 32, 33, 34, 35, 36, 37, 38, 39, 40, 41, 42, 43, 44, 45, 46, 47, 48, 2, 3, 4, 5, 6, 7, 8, 9, 10, 11, 12, 13, 14, 15, 16, 17, 18, 19, 20, 21, 22, 23, 24, 25, 26, 27, 28, 29, 30, 31] rfl
  have hD := hD.sub (ws' := cw_Main cI cZ cO amn apl abd alk atr mn lt ++ cw_Plan cI cZ cO apl pl ++ cw_Board cI cZ cO abd apl bd ++ cw_Locks cI cZ cO alk lk ++ cw_Trial cI cZ cO atr apl atb tr ++ cw_Board cI cZ cO atb apl tb) [0, 1, 32, 33, 34, 35, 36, 37, 38, 39, 40, 41, 42, 43, 44, 45, 46, 47, 48, 2, 3, 4, 5, 6, 7, 8, 9, 10, 11, 12, 13, 14, 15, 16, 17, 18, 19, 20, 21, 22, 23, 24, 25, 26, 27, 28, 29, 30, 31] (by decide) rfl
  generalize H1 = H at hP hS ⊢
  refine lv_if_eq (tgt := 22) hx hb nd_Main_rank_8 (by decide) (fun c_4 => ?_) (fun c_4 => ?_)
  · have c_4t := cr_eq c_4
    rw [if_pos c_4] at hM
    refine lv_iconst (v := -1) hx hb nd_Main_rank_22 (by decide) ?_
    exact W.iret (v := (-1 : Int32)) hx hb hr (fun t ht hW => ⟨⟨(-1 : Int32), (), rfl, by rw [hT, ← hM], by rw [ht]; exact hP, va_K.moved hW.alike hK, hD⟩, hS.F ht⟩) hS.2.2 nd_Main_rank_23
  · have c_4t := cr_ne c_4
    rw [if_neg c_4] at hM
    refine lv_aload_n hx hb nd_Main_rank_11 rfl (lv_at hl 0 rfl) ?_
    refine va_get (D := (dC, dI)) (ci := 4) (v := .ref (abd 0)) (C := "CeilingRows") (T := nf_Main) (N := 6) hx hb hts nin_Main hown hK hP 0 rfl rfl 1 (by decide) (hts _ tw_139) (fun _ h9 => h9) rfl nd_Main_rank_12 ?_
    refine lv_iload_n hx hb nd_Main_rank_15 rfl (lv_at hl 1 rfl) ?_
    have hPc := hP.sub (ws' := cw_Plan cI cZ cO apl pl ++ cw_Board cI cZ cO abd apl bd) [2, 3, 4, 5, 6, 7, 8, 9, 10, 11, 12, 13, 14, 15, 16, 17, 18, 19, 20, 21, 22, 23, 24] rfl
    have hDc := hD.sub (ws' := cw_Plan cI cZ cO apl pl ++ cw_Board cI cZ cO abd apl bd) [2, 3, 4, 5, 6, 7, 8, 9, 10, 11, 12, 13, 14, 15, 16, 17, 18, 19, 20, 21, 22, 23, 24] (by decide) rfl
    have hFc := va_free (wc := cw_Plan cI cZ cO apl pl ++ cw_Board cI cZ cO abd apl bd) hD hS hA [2, 3, 4, 5, 6, 7, 8, 9, 10, 11, 12, 13, 14, 15, 16, 17, 18, 19, 20, 21, 22, 23, 24] rfl
    refine va_calli (va_runV (As := [.int x1]) (rest := []) ⟨hx, hb, hml, hown, hts⟩ (ct_Board_rankNow l dC dI cI cZ cO apl abd H.size pl bd x1 hR_bd hR_pl (by omega)) (cwV 1 hts (ng_V tw_289 tw_243 tw_244 tw_3 tw_245) rfl rfl rfl (by decide +kernel) ⟨Nat.le_of_ble_eq_true rfl, Nat.le_of_ble_eq_true rfl⟩) ⟨fun a U g mk q => by obtain ⟨q0, q1, qP, qK, qD⟩ := q; exact ⟨q0, q1, qP, va_K.moved (u := U) (U := U.calling g mk a) (Vm.Alike.refl U.vm) qK, qD⟩, va_recv hK hPc (ci := 1) (q0 := 17) rfl rfl, fun U hU hW => ⟨rfl, by rw [hU], by rw [hU]; exact hPc, va_K.moved hW.alike hK, hDc.weaken (fun _ _ _ _ => trivial)⟩⟩ rfl rfl hl.1 rfl (lv_room (Nat.le_of_ble_eq_true rfl)) nd_Main_rank_16 ⟨Nat.zero_le _, Nat.zero_le _⟩) hS (fun q _ h => hFc q h) hFc (fun r_5 u t H1 locs ht hvm hw hB hz1 hk1 hS => ?_)
    obtain ⟨hP1, hK1, hD1⟩ := hB
    rw [ht] at hP1
    have w_6 := hw
    try rw [← w_6] at hM
    obtain ⟨hP, hD⟩ := va_join (wr := cw_Main cI cZ cO amn apl abd alk atr mn lt ++ cw_Locks cI cZ cO alk lk ++ cw_Trial cI cZ cO atr apl atb tr ++ cw_Board cI cZ cO atb apl tb) (w1 := cw_Plan cI cZ cO apl pl ++ cw_Board cI cZ cO abd apl bd) hP hD [2, 3, 4, 5, 6, 7, 8, 9, 10, 11, 12, 13, 14, 15, 16, 17, 18, 19, 20, 21, 22, 23, 24] [0, 1, 25, 26, 27, 28, 29, 30, 31, 32, 33, 34, 35, 36, 37, 38, 39, 40, 41, 42, 43, 44, 45, 46, 47, 48] rfl rfl (by decide) (by decide) hk1 hFc hP1 hD1
    have hP := hP.sub (ws' := cw_Main cI cZ cO amn apl abd alk atr mn lt ++ cw_Plan cI cZ cO apl pl ++ cw_Board cI cZ cO abd apl bd ++ cw_Locks cI cZ cO alk lk ++ cw_Trial cI cZ cO atr apl atb tr ++ cw_Board cI cZ cO atb apl tb) [0, 1, 26, 27, 28, 29, 30, 31, 32, 33, 34, 35, 36, 37, 38, 39, 40, 41, 42, 43, 44, 45, 46, 47, 48, 2, 3, 4, 5, 6, 7, 8, 9, 10, 11, 12, 13, 14, 15, 16, 17, 18, 19, 20, 21, 22, 23, 24, 25] rfl
    have hD := hD.sub (ws' := cw_Main cI cZ cO amn apl abd alk atr mn lt ++ cw_Plan cI cZ cO apl pl ++ cw_Board cI cZ cO abd apl bd ++ cw_Locks cI cZ cO alk lk ++ cw_Trial cI cZ cO atr apl atb tr ++ cw_Board cI cZ cO atb apl tb) [0, 1, 26, 27, 28, 29, 30, 31, 32, 33, 34, 35, 36, 37, 38, 39, 40, 41, 42, 43, 44, 45, 46, 47, 48, 2, 3, 4, 5, 6, 7, 8, 9, 10, 11, 12, 13, 14, 15, 16, 17, 18, 19, 20, 21, 22, 23, 24, 25] (by decide) rfl
    generalize H1 = H at hP hS ⊢
    refine lv_goto (tgt := 23) hx hb nd_Main_rank_19 (by decide) ?_
    exact W.iret (v := r_5) hx hb hr (fun t ht hW => ⟨⟨r_5, (), rfl, by rw [hT, ← hM], by rw [ht]; exact hP, va_K.moved hW.alike hK, hD⟩, hS.F ht⟩) hS.2.2 nd_Main_rank_23

theorem nd_Main_holder_0 : decode prog_1_method_8_code 0 = .ok (.aload_n 0, 1) := by decide +kernel
theorem nd_Main_holder_1 : decode prog_1_method_8_code 1 = .ok (.getfield 12, 3) := by decide +kernel
theorem nd_Main_holder_4 : decode prog_1_method_8_code 4 = .ok (.iload_n 1, 1) := by decide +kernel
theorem nd_Main_holder_5 : decode prog_1_method_8_code 5 = .ok (.invokevirtual 69, 3) := by decide +kernel
theorem nd_Main_holder_8 : decode prog_1_method_8_code 8 = .ok (.ifCond .eq (15), 3) := by decide +kernel
theorem nd_Main_holder_11 : decode prog_1_method_8_code 11 = .ok (.aload_n 0, 1) := by decide +kernel
theorem nd_Main_holder_12 : decode prog_1_method_8_code 12 = .ok (.getfield 21, 3) := by decide +kernel
theorem nd_Main_holder_15 : decode prog_1_method_8_code 15 = .ok (.getfield 105, 3) := by decide +kernel
theorem nd_Main_holder_18 : decode prog_1_method_8_code 18 = .ok (.iload_n 1, 1) := by decide +kernel
theorem nd_Main_holder_19 : decode prog_1_method_8_code 19 = .ok (.iaload, 1) := by decide +kernel
theorem nd_Main_holder_20 : decode prog_1_method_8_code 20 = .ok (.goto (4), 3) := by decide +kernel
theorem nd_Main_holder_23 : decode prog_1_method_8_code 23 = .ok (.iconst (-1), 1) := by decide +kernel
theorem nd_Main_holder_24 : decode prog_1_method_8_code 24 = .ok (.ireturn, 1) := by decide +kernel
def md_Main_holder (mn : cr_S) (lt : Int64) (pl : cr_S) (bd : cr_S) (lk : cr_S) (tr : cr_S) (tb : cr_S) (x1 : Int32) : Int32 :=
  (if (md_Plan_hasResource pl x1) = 0 then (-1 : Int32) else (bd 4 x1.toNatClampNeg))
abbrev pq_Main_holder (dC : Nat → ClassId) (dI : Nat → Nat → Nat) (cI cZ cO : ClassId) (amn apl abd alk atr atb : Nat → Nat) (mn : cr_S) (lt : Int64) (pl : cr_S) (bd : cr_S) (lk : cr_S) (tr : cr_S) (tb : cr_S) (x1 : Int32) (A : Nat → Prop) : Array Value → State → Outcome → State → Prop :=
  va_Qi (fun (r : Int32) (_ : Unit) => r = md_Main_holder mn lt pl bd lk tr tb x1) (fun (_ : Unit) t => va_P (dC, dI) vwCl (cw_Main cI cZ cO amn apl abd alk atr mn lt ++ cw_Plan cI cZ cO apl pl ++ cw_Board cI cZ cO abd apl bd ++ cw_Locks cI cZ cO alk lk ++ cw_Trial cI cZ cO atr apl atb tr ++ cw_Board cI cZ cO atb apl tb) t.heap ∧ va_K (dC, dI) vwCl [(cI, .int), (cZ, .boolean), (cO, .array .int)] t ∧ va_D A (cw_Main cI cZ cO amn apl abd alk atr mn lt ++ cw_Plan cI cZ cO apl pl ++ cw_Board cI cZ cO abd apl bd ++ cw_Locks cI cZ cO alk lk ++ cw_Trial cI cZ cO atr apl atb tr ++ cw_Board cI cZ cO atb apl tb)) A
set_option maxHeartbeats 4000000 in
set_option maxRecDepth 100000 in
theorem ct_Main_holder (l : Launch) (dC : Nat → ClassId) (dI : Nat → Nat → Nat) (cI cZ cO : ClassId) (amn apl abd alk atr atb : Nat → Nat) (sz : Nat) (mn : cr_S) (lt : Int64) (pl : cr_S) (bd : cr_S) (lk : cr_S) (tr : cr_S) (tb : cr_S) (x1 : Int32) (hR_tb : cr_RBoard tb) (hR_lk : cr_RLocks lk) (hR_bd : cr_RBoard bd) (hR_pl : cr_RPlan pl) : Met l ny_Main_holder nw_Main_holder ({ frames := 1, cells := 0, slots := 0, locals := 21 } : Room) (va_Pc [.ref (amn 0), .int x1] (fun U => U.heap.size = sz ∧ va_P (dC, dI) vwCl (cw_Main cI cZ cO amn apl abd alk atr mn lt ++ cw_Plan cI cZ cO apl pl ++ cw_Board cI cZ cO abd apl bd ++ cw_Locks cI cZ cO alk lk ++ cw_Trial cI cZ cO atr apl atb tr ++ cw_Board cI cZ cO atb apl tb) U.heap ∧ va_K (dC, dI) vwCl [(cI, .int), (cZ, .boolean), (cO, .array .int)] U ∧ va_D (fun _ => True) (cw_Main cI cZ cO amn apl abd alk atr mn lt ++ cw_Plan cI cZ cO apl pl ++ cw_Board cI cZ cO abd apl bd ++ cw_Locks cI cZ cO alk lk ++ cw_Trial cI cZ cO atr apl atb tr ++ cw_Board cI cZ cO atb apl tb))) (pq_Main_holder dC dI cI cZ cO amn apl abd alk atr atb mn lt pl bd lk tr tb x1 (va_A (cw_Main cI cZ cO amn apl abd alk atr mn lt ++ cw_Plan cI cZ cO apl pl ++ cw_Board cI cZ cO abd apl bd ++ cw_Locks cI cZ cO alk lk ++ cw_Trial cI cZ cO atr apl atb tr ++ cw_Board cI cZ cO atb apl tb) sz)) 0 0 (va_A (cw_Main cI cZ cO amn apl abd alk atr mn lt ++ cw_Plan cI cZ cO apl pl ++ cw_Board cI cZ cO abd apl bd ++ cw_Locks cI cZ cO alk lk ++ cw_Trial cI cZ cO atr apl atb tr ++ cw_Board cI cZ cO atb apl tb) sz) := by
  refine Met.ofW (cc := prog_1_method_8_code) (maxL := 2) (ret := (some .int)) (by decide) rfl ?_
  intro p e s m args below meth c s₁ B hml hv
  obtain ⟨rfl, hsz, hP, hK, hD0⟩ := hv
  have hx := B.exec
  have hb := B.bytes
  have hr := B.returns
  have hts0 := atoms_spec (ws := nw_Main_holder) B.pre
  have hts : ∀ w ∈ ng_tbl, w.before ([.ref (amn 0), .int x1] : List Value).toArray s = true := fun w h => hts0 w (List.mem_cons_of_mem _ h)
  have hown : s.vm.findClass "CeilingRows" = some m.cls := findClass_of_methodNamed B.named
  have hlocks := B.notSynchronized
  subst hsz
  have hD := hD0.self (sz := s.heap.size)
  generalize hAe : va_A (cw_Main cI cZ cO amn apl abd alk atr mn lt ++ cw_Plan cI cZ cO apl pl ++ cw_Board cI cZ cO abd apl bd ++ cw_Locks cI cZ cO alk lk ++ cw_Trial cI cZ cO atr apl atb tr ++ cw_Board cI cZ cO atb apl tb) s.heap.size = A at hD ⊢
  have hA : ∀ q : Nat, s.heap.size ≤ q → A q := fun q h => by rw [← hAe]; exact Or.inr h
  have hS : va_S A s.heap s.heap [] := va_S.rf
  have hP : va_P (dC, dI) vwCl (cw_Main cI cZ cO amn apl abd alk atr mn lt ++ cw_Plan cI cZ cO apl pl ++ cw_Board cI cZ cO abd apl bd ++ cw_Locks cI cZ cO alk lk ++ cw_Trial cI cZ cO atr apl atb tr ++ cw_Board cI cZ cO atb apl tb) s.heap := hP
  have hl := lv_entry ([.ref (amn 0), .int x1]) (n := 2) (Nat.le_of_ble_eq_true rfl)
  rw [lg_entry_eq]
  generalize (lg_sl ([.ref (amn 0), .int x1]) ++ List.replicate (2 - (lg_sl ([.ref (amn 0), .int x1])).length) Slot.unset).toArray = ls at hl ⊢
  have hl : lv_has ls 2 [(0, .ref (amn 0)), (1, .int x1)] := hl
  have f0_pl_0 := cr_rfo hR_pl.1
  have f0_pl_1 := cr_rfo hR_pl.2.1
  have k_m1 : (-1 : Int32).toInt = -1 := by decide
  have k_0 : (0 : Int32).toInt = 0 := by decide
  obtain ⟨tgt, hT⟩ : ∃ z, md_Main_holder mn lt pl bd lk tr tb x1 = z := ⟨_, rfl⟩
  have hM := hT
  unfold md_Main_holder at hM
  refine lv_aload_n hx hb nd_Main_holder_0 rfl (lv_at hl 0 rfl) ?_
  refine va_get (D := (dC, dI)) (ci := 4) (v := .ref (apl 0)) (C := "CeilingRows") (T := nf_Main) (N := 6) hx hb hts nin_Main hown hK hP 0 rfl rfl 0 (by decide) (hts _ tw_138) (fun _ h9 => h9) rfl nd_Main_holder_1 ?_
  refine lv_iload_n hx hb nd_Main_holder_4 rfl (lv_at hl 1 rfl) ?_
  have hPc := hP.sub (ws' := cw_Plan cI cZ cO apl pl) [2, 3, 4, 5, 6, 7, 8, 9, 10, 11, 12, 13, 14, 15, 16, 17, 18] rfl
  have hDc := hD.sub (ws' := cw_Plan cI cZ cO apl pl) [2, 3, 4, 5, 6, 7, 8, 9, 10, 11, 12, 13, 14, 15, 16, 17, 18] (by decide) rfl
  have hFc := va_free (wc := cw_Plan cI cZ cO apl pl) hD hS hA [2, 3, 4, 5, 6, 7, 8, 9, 10, 11, 12, 13, 14, 15, 16, 17, 18] rfl
  refine va_calli (va_runV (As := [.int x1]) (rest := []) ⟨hx, hb, hml, hown, hts⟩ (ct_Plan_hasResource l dC dI cI cZ cO apl s.heap.size pl x1 hR_pl) (cwV 1 hts (ng_V tw_185 tw_186 tw_187 tw_2 tw_188) rfl rfl rfl (by decide +kernel) ⟨Nat.le_of_ble_eq_true rfl, Nat.le_of_ble_eq_true rfl⟩) ⟨fun a U g mk q => by obtain ⟨q0, q1, qP, qK, qD⟩ := q; exact ⟨q0, q1, qP, va_K.moved (u := U) (U := U.calling g mk a) (Vm.Alike.refl U.vm) qK, qD⟩, va_recv hK hPc (ci := 0) (q0 := 0) rfl rfl, fun U hU hW => ⟨rfl, by rw [hU], by rw [hU]; exact hPc, va_K.moved hW.alike hK, hDc.weaken (fun _ _ _ _ => trivial)⟩⟩ rfl rfl hl.1 rfl (lv_room (Nat.le_of_ble_eq_true rfl)) nd_Main_holder_5 ⟨Nat.zero_le _, Nat.zero_le _⟩) hS (fun q _ h => hFc q h) hFc (fun r_1 u t H1 locs ht hvm hw hB hz1 hk1 hS => ?_)
  obtain ⟨hP1, hK1, hD1⟩ := hB
  rw [ht] at hP1
  obtain ⟨w_2, f_3⟩ := hw
  try rw [← w_2] at hM
  obtain ⟨hP, hD⟩ := va_join (wr := cw_Main cI cZ cO amn apl abd alk atr mn lt ++ cw_Board cI cZ cO abd apl bd ++ cw_Locks cI cZ cO alk lk ++ cw_Trial cI cZ cO atr apl atb tr ++ cw_Board cI cZ cO atb apl tb) (w1 := cw_Plan cI cZ cO apl pl) hP hD [2, 3, 4, 5, 6, 7, 8, 9, 10, 11, 12, 13, 14, 15, 16, 17, 18] [0, 1, 19, 20, 21, 22, 23, 24, 25, 26, 27, 28, 29, 30, 31, 32, 33, 34, 35, 36, 37, 38, 39, 40, 41, 42, 43, 44, 45, 46, 47, 48] rfl rfl (by decide) (by decide) hk1 hFc hP1 hD1
  have hP := hP.sub (ws' := cw_Main cI cZ cO amn apl abd alk atr mn lt ++ cw_Plan cI cZ cO apl pl ++ cw_Board cI cZ cO abd apl bd ++ cw_Locks cI cZ cO alk lk ++ cw_Trial cI cZ cO atr apl atb tr ++ cw_Board cI cZ cO atb apl tb) [0, 1, 32, 33, 34, 35, 36, 37, 38, 39, 40, 41, 42, 43, 44, 45, 46, 47, 48, 2, 3, 4, 5, 6, 7, 8, 9, 10, 11, 12, 13, 14, 15, 16, 17, 18, 19, 20, 21, 22, 23, 24, 25, 26, 27, 28, 29, 30, 31] rfl
  have hD := hD.sub (ws' := cw_Main cI cZ cO amn apl abd alk atr mn lt ++ cw_Plan cI cZ cO apl pl ++ cw_Board cI cZ cO abd apl bd ++ cw_Locks cI cZ cO alk lk ++ cw_Trial cI cZ cO atr apl atb tr ++ cw_Board cI cZ cO atb apl tb) [0, 1, 32, 33, 34, 35, 36, 37, 38, 39, 40, 41, 42, 43, 44, 45, 46, 47, 48, 2, 3, 4, 5, 6, 7, 8, 9, 10, 11, 12, 13, 14, 15, 16, 17, 18, 19, 20, 21, 22, 23, 24, 25, 26, 27, 28, 29, 30, 31] (by decide) rfl
  generalize H1 = H at hP hS ⊢
  refine lv_if_eq (tgt := 23) hx hb nd_Main_holder_8 (by decide) (fun c_4 => ?_) (fun c_4 => ?_)
  · have c_4t := cr_eq c_4
    rw [if_pos c_4] at hM
    refine lv_iconst (v := -1) hx hb nd_Main_holder_23 (by decide) ?_
    exact W.iret (v := (-1 : Int32)) hx hb hr (fun t ht hW => ⟨⟨(-1 : Int32), (), rfl, by rw [hT, ← hM], by rw [ht]; exact hP, va_K.moved hW.alike hK, hD⟩, hS.F ht⟩) hS.2.2 nd_Main_holder_24
  · have c_4t := cr_ne c_4
    rw [if_neg c_4] at hM
    refine lv_aload_n hx hb nd_Main_holder_11 rfl (lv_at hl 0 rfl) ?_
    refine va_get (D := (dC, dI)) (ci := 4) (v := .ref (abd 0)) (C := "CeilingRows") (T := nf_Main) (N := 6) hx hb hts nin_Main hown hK hP 0 rfl rfl 1 (by decide) (hts _ tw_139) (fun _ h9 => h9) rfl nd_Main_holder_12 ?_
    refine va_get (D := (dC, dI)) (ci := 1) (v := .ref (abd 4)) (C := "CeilingRows$Board") (T := nf_Board) (N := 7) hx hb hts nin_Board hown hK hP 19 rfl rfl 5 (by decide) (hts _ tw_77) (fun _ h9 => h9) rfl nd_Main_holder_15 ?_
    refine lv_iload_n hx hb nd_Main_holder_18 rfl (lv_at hl 1 rfl) ?_
    have b_5 : vp_in x1 9 := vp_in_iff.mpr (by omega)
    refine va_iald hx hb hK hP 23 0 rfl rfl b_5 nd_Main_holder_19 ?_
    refine lv_goto (tgt := 24) hx hb nd_Main_holder_20 (by decide) ?_
    exact W.iret (v := (bd 4 x1.toNatClampNeg)) hx hb hr (fun t ht hW => ⟨⟨(bd 4 x1.toNatClampNeg), (), rfl, by rw [hT, ← hM], by rw [ht]; exact hP, va_K.moved hW.alike hK, hD⟩, hS.F ht⟩) hS.2.2 nd_Main_holder_24

theorem nd_Main_blocking_0 : decode prog_1_method_9_code 0 = .ok (.aload_n 0, 1) := by decide +kernel
theorem nd_Main_blocking_1 : decode prog_1_method_9_code 1 = .ok (.getfield 12, 3) := by decide +kernel
theorem nd_Main_blocking_4 : decode prog_1_method_9_code 4 = .ok (.iload_n 1, 1) := by decide +kernel
theorem nd_Main_blocking_5 : decode prog_1_method_9_code 5 = .ok (.invokevirtual 66, 3) := by decide +kernel
theorem nd_Main_blocking_8 : decode prog_1_method_9_code 8 = .ok (.ifCond .ne (7), 3) := by decide +kernel
theorem nd_Main_blocking_11 : decode prog_1_method_9_code 11 = .ok (.ldc2_w 108, 3) := by decide +kernel
theorem nd_Main_blocking_14 : decode prog_1_method_9_code 14 = .ok (.lreturn, 1) := by decide +kernel
theorem nd_Main_blocking_15 : decode prog_1_method_9_code 15 = .ok (.iconst 0, 1) := by decide +kernel
theorem nd_Main_blocking_16 : decode prog_1_method_9_code 16 = .ok (.istore_n 2, 1) := by decide +kernel
theorem nd_Main_blocking_17 : decode prog_1_method_9_code 17 = .ok (.iconst 1, 1) := by decide +kernel
theorem nd_Main_blocking_18 : decode prog_1_method_9_code 18 = .ok (.istore_n 3, 1) := by decide +kernel
theorem nd_Main_blocking_19 : decode prog_1_method_9_code 19 = .ok (.iload_n 3, 1) := by decide +kernel
theorem nd_Main_blocking_20 : decode prog_1_method_9_code 20 = .ok (.aload_n 0, 1) := by decide +kernel
theorem nd_Main_blocking_21 : decode prog_1_method_9_code 21 = .ok (.getfield 12, 3) := by decide +kernel
theorem nd_Main_blocking_24 : decode prog_1_method_9_code 24 = .ok (.getfield 51, 3) := by decide +kernel
theorem nd_Main_blocking_27 : decode prog_1_method_9_code 27 = .ok (.if_icmp .gt (23), 3) := by decide +kernel
theorem nd_Main_blocking_30 : decode prog_1_method_9_code 30 = .ok (.iload_n 2, 1) := by decide +kernel
theorem nd_Main_blocking_31 : decode prog_1_method_9_code 31 = .ok (.aload_n 0, 1) := by decide +kernel
theorem nd_Main_blocking_32 : decode prog_1_method_9_code 32 = .ok (.getfield 12, 3) := by decide +kernel
theorem nd_Main_blocking_35 : decode prog_1_method_9_code 35 = .ok (.iload_n 1, 1) := by decide +kernel
theorem nd_Main_blocking_36 : decode prog_1_method_9_code 36 = .ok (.iload_n 3, 1) := by decide +kernel
theorem nd_Main_blocking_37 : decode prog_1_method_9_code 37 = .ok (.invokevirtual 110, 3) := by decide +kernel
theorem nd_Main_blocking_40 : decode prog_1_method_9_code 40 = .ok (.invokestatic 113, 3) := by decide +kernel
theorem nd_Main_blocking_43 : decode prog_1_method_9_code 43 = .ok (.istore_n 2, 1) := by decide +kernel
theorem nd_Main_blocking_44 : decode prog_1_method_9_code 44 = .ok (.iinc 3 1, 3) := by decide +kernel
theorem nd_Main_blocking_47 : decode prog_1_method_9_code 47 = .ok (.goto (-28), 3) := by decide +kernel
theorem nd_Main_blocking_50 : decode prog_1_method_9_code 50 = .ok (.iload_n 2, 1) := by decide +kernel
theorem nd_Main_blocking_51 : decode prog_1_method_9_code 51 = .ok (.i2l, 1) := by decide +kernel
theorem nd_Main_blocking_52 : decode prog_1_method_9_code 52 = .ok (.lreturn, 1) := by decide +kernel
def lo_Main_blocking_19 (mn : cr_S) (lt : Int64) (pl : cr_S) (bd : cr_S) (lk : cr_S) (tr : cr_S) (tb : cr_S) (x1 : Int32) : Nat → Int32 → Int32 → Int64
  | 0, _, _ => 0
  | n_19 + 1, v2_19, v3_19 =>
    (if (pl 0 0) < v3_19 then v2_19.toInt64 else (lo_Main_blocking_19 mn lt pl bd lk tr tb x1 n_19 (cr_max v2_19 (md_Plan_longestDelay pl x1 v3_19)) (v3_19 + (1 : Int32))))
def md_Main_blocking (mn : cr_S) (lt : Int64) (pl : cr_S) (bd : cr_S) (lk : cr_S) (tr : cr_S) (tb : cr_S) (x1 : Int32) : Int64 :=
  (if (md_Plan_hasTask pl x1) = 0 then (-1 : Int64) else (lo_Main_blocking_19 mn lt pl bd lk tr tb x1 11 (0 : Int32) (1 : Int32)))
abbrev pq_Main_blocking (dC : Nat → ClassId) (dI : Nat → Nat → Nat) (cI cZ cO : ClassId) (amn apl abd alk atr atb : Nat → Nat) (mn : cr_S) (lt : Int64) (pl : cr_S) (bd : cr_S) (lk : cr_S) (tr : cr_S) (tb : cr_S) (x1 : Int32) (A : Nat → Prop) : Array Value → State → Outcome → State → Prop :=
  va_Ql (fun (r : Int64) (_ : Unit) => r = md_Main_blocking mn lt pl bd lk tr tb x1) (fun (_ : Unit) t => va_P (dC, dI) vwCl (cw_Main cI cZ cO amn apl abd alk atr mn lt ++ cw_Plan cI cZ cO apl pl ++ cw_Board cI cZ cO abd apl bd ++ cw_Locks cI cZ cO alk lk ++ cw_Trial cI cZ cO atr apl atb tr ++ cw_Board cI cZ cO atb apl tb) t.heap ∧ va_K (dC, dI) vwCl [(cI, .int), (cZ, .boolean), (cO, .array .int)] t ∧ va_D A (cw_Main cI cZ cO amn apl abd alk atr mn lt ++ cw_Plan cI cZ cO apl pl ++ cw_Board cI cZ cO abd apl bd ++ cw_Locks cI cZ cO alk lk ++ cw_Trial cI cZ cO atr apl atb tr ++ cw_Board cI cZ cO atb apl tb)) A
set_option maxHeartbeats 4000000 in
set_option maxRecDepth 100000 in
theorem ct_Main_blocking (l : Launch) (dC : Nat → ClassId) (dI : Nat → Nat → Nat) (cI cZ cO : ClassId) (amn apl abd alk atr atb : Nat → Nat) (sz : Nat) (mn : cr_S) (lt : Int64) (pl : cr_S) (bd : cr_S) (lk : cr_S) (tr : cr_S) (tb : cr_S) (x1 : Int32) (hR_tb : cr_RBoard tb) (hR_lk : cr_RLocks lk) (hR_bd : cr_RBoard bd) (hR_pl : cr_RPlan pl) : Met l ny_Main_blocking nw_Main_blocking ({ frames := 2, cells := 0, slots := 0, locals := 46 } : Room) (va_Pc [.ref (amn 0), .int x1] (fun U => U.heap.size = sz ∧ va_P (dC, dI) vwCl (cw_Main cI cZ cO amn apl abd alk atr mn lt ++ cw_Plan cI cZ cO apl pl ++ cw_Board cI cZ cO abd apl bd ++ cw_Locks cI cZ cO alk lk ++ cw_Trial cI cZ cO atr apl atb tr ++ cw_Board cI cZ cO atb apl tb) U.heap ∧ va_K (dC, dI) vwCl [(cI, .int), (cZ, .boolean), (cO, .array .int)] U ∧ va_D (fun _ => True) (cw_Main cI cZ cO amn apl abd alk atr mn lt ++ cw_Plan cI cZ cO apl pl ++ cw_Board cI cZ cO abd apl bd ++ cw_Locks cI cZ cO alk lk ++ cw_Trial cI cZ cO atr apl atb tr ++ cw_Board cI cZ cO atb apl tb))) (pq_Main_blocking dC dI cI cZ cO amn apl abd alk atr atb mn lt pl bd lk tr tb x1 (va_A (cw_Main cI cZ cO amn apl abd alk atr mn lt ++ cw_Plan cI cZ cO apl pl ++ cw_Board cI cZ cO abd apl bd ++ cw_Locks cI cZ cO alk lk ++ cw_Trial cI cZ cO atr apl atb tr ++ cw_Board cI cZ cO atb apl tb) sz)) 0 0 (va_A (cw_Main cI cZ cO amn apl abd alk atr mn lt ++ cw_Plan cI cZ cO apl pl ++ cw_Board cI cZ cO abd apl bd ++ cw_Locks cI cZ cO alk lk ++ cw_Trial cI cZ cO atr apl atb tr ++ cw_Board cI cZ cO atb apl tb) sz) := by
  refine Met.ofW (cc := prog_1_method_9_code) (maxL := 4) (ret := (some .long)) (by decide) rfl ?_
  intro p e s m args below meth c s₁ B hml hv
  obtain ⟨rfl, hsz, hP, hK, hD0⟩ := hv
  have hx := B.exec
  have hb := B.bytes
  have hr := B.returns
  have hts0 := atoms_spec (ws := nw_Main_blocking) B.pre
  have hts : ∀ w ∈ ng_tbl, w.before ([.ref (amn 0), .int x1] : List Value).toArray s = true := fun w h => hts0 w (List.mem_cons_of_mem _ h)
  have hown : s.vm.findClass "CeilingRows" = some m.cls := findClass_of_methodNamed B.named
  have hlocks := B.notSynchronized
  subst hsz
  have hD := hD0.self (sz := s.heap.size)
  generalize hAe : va_A (cw_Main cI cZ cO amn apl abd alk atr mn lt ++ cw_Plan cI cZ cO apl pl ++ cw_Board cI cZ cO abd apl bd ++ cw_Locks cI cZ cO alk lk ++ cw_Trial cI cZ cO atr apl atb tr ++ cw_Board cI cZ cO atb apl tb) s.heap.size = A at hD ⊢
  have hA : ∀ q : Nat, s.heap.size ≤ q → A q := fun q h => by rw [← hAe]; exact Or.inr h
  have hS : va_S A s.heap s.heap [] := va_S.rf
  have hP : va_P (dC, dI) vwCl (cw_Main cI cZ cO amn apl abd alk atr mn lt ++ cw_Plan cI cZ cO apl pl ++ cw_Board cI cZ cO abd apl bd ++ cw_Locks cI cZ cO alk lk ++ cw_Trial cI cZ cO atr apl atb tr ++ cw_Board cI cZ cO atb apl tb) s.heap := hP
  have hl := lv_entry ([.ref (amn 0), .int x1]) (n := 4) (Nat.le_of_ble_eq_true rfl)
  rw [lg_entry_eq]
  generalize (lg_sl ([.ref (amn 0), .int x1]) ++ List.replicate (4 - (lg_sl ([.ref (amn 0), .int x1])).length) Slot.unset).toArray = ls at hl ⊢
  have hl : lv_has ls 4 [(0, .ref (amn 0)), (1, .int x1)] := hl
  have f0_pl_0 := cr_rfo hR_pl.1
  have f0_pl_1 := cr_rfo hR_pl.2.1
  have k_0 : (0 : Int32).toInt = 0 := by decide
  have k_1 : (1 : Int32).toInt = 1 := by decide
  obtain ⟨tgt, hT⟩ : ∃ z, md_Main_blocking mn lt pl bd lk tr tb x1 = z := ⟨_, rfl⟩
  have hM := hT
  unfold md_Main_blocking at hM
  refine lv_aload_n hx hb nd_Main_blocking_0 rfl (lv_at hl 0 rfl) ?_
  refine va_get (D := (dC, dI)) (ci := 4) (v := .ref (apl 0)) (C := "CeilingRows") (T := nf_Main) (N := 6) hx hb hts nin_Main hown hK hP 0 rfl rfl 0 (by decide) (hts _ tw_138) (fun _ h9 => h9) rfl nd_Main_blocking_1 ?_
  refine lv_iload_n hx hb nd_Main_blocking_4 rfl (lv_at hl 1 rfl) ?_
  have hPc := hP.sub (ws' := cw_Plan cI cZ cO apl pl) [2, 3, 4, 5, 6, 7, 8, 9, 10, 11, 12, 13, 14, 15, 16, 17, 18] rfl
  have hDc := hD.sub (ws' := cw_Plan cI cZ cO apl pl) [2, 3, 4, 5, 6, 7, 8, 9, 10, 11, 12, 13, 14, 15, 16, 17, 18] (by decide) rfl
  have hFc := va_free (wc := cw_Plan cI cZ cO apl pl) hD hS hA [2, 3, 4, 5, 6, 7, 8, 9, 10, 11, 12, 13, 14, 15, 16, 17, 18] rfl
  refine va_calli (va_runV (As := [.int x1]) (rest := []) ⟨hx, hb, hml, hown, hts⟩ (ct_Plan_hasTask l dC dI cI cZ cO apl s.heap.size pl x1 hR_pl) (cwV 1 hts (ng_V tw_181 tw_182 tw_183 tw_2 tw_184) rfl rfl rfl (by decide +kernel) ⟨Nat.le_of_ble_eq_true rfl, Nat.le_of_ble_eq_true rfl⟩) ⟨fun a U g mk q => by obtain ⟨q0, q1, qP, qK, qD⟩ := q; exact ⟨q0, q1, qP, va_K.moved (u := U) (U := U.calling g mk a) (Vm.Alike.refl U.vm) qK, qD⟩, va_recv hK hPc (ci := 0) (q0 := 0) rfl rfl, fun U hU hW => ⟨rfl, by rw [hU], by rw [hU]; exact hPc, va_K.moved hW.alike hK, hDc.weaken (fun _ _ _ _ => trivial)⟩⟩ rfl rfl hl.1 rfl (lv_room (Nat.le_of_ble_eq_true rfl)) nd_Main_blocking_5 ⟨Nat.zero_le _, Nat.zero_le _⟩) hS (fun q _ h => hFc q h) hFc (fun r_1 u t H1 locs ht hvm hw hB hz1 hk1 hS => ?_)
  obtain ⟨hP1, hK1, hD1⟩ := hB
  rw [ht] at hP1
  obtain ⟨w_2, f_3⟩ := hw
  try rw [← w_2] at hM
  obtain ⟨hP, hD⟩ := va_join (wr := cw_Main cI cZ cO amn apl abd alk atr mn lt ++ cw_Board cI cZ cO abd apl bd ++ cw_Locks cI cZ cO alk lk ++ cw_Trial cI cZ cO atr apl atb tr ++ cw_Board cI cZ cO atb apl tb) (w1 := cw_Plan cI cZ cO apl pl) hP hD [2, 3, 4, 5, 6, 7, 8, 9, 10, 11, 12, 13, 14, 15, 16, 17, 18] [0, 1, 19, 20, 21, 22, 23, 24, 25, 26, 27, 28, 29, 30, 31, 32, 33, 34, 35, 36, 37, 38, 39, 40, 41, 42, 43, 44, 45, 46, 47, 48] rfl rfl (by decide) (by decide) hk1 hFc hP1 hD1
  have hP := hP.sub (ws' := cw_Main cI cZ cO amn apl abd alk atr mn lt ++ cw_Plan cI cZ cO apl pl ++ cw_Board cI cZ cO abd apl bd ++ cw_Locks cI cZ cO alk lk ++ cw_Trial cI cZ cO atr apl atb tr ++ cw_Board cI cZ cO atb apl tb) [0, 1, 32, 33, 34, 35, 36, 37, 38, 39, 40, 41, 42, 43, 44, 45, 46, 47, 48, 2, 3, 4, 5, 6, 7, 8, 9, 10, 11, 12, 13, 14, 15, 16, 17, 18, 19, 20, 21, 22, 23, 24, 25, 26, 27, 28, 29, 30, 31] rfl
  have hD := hD.sub (ws' := cw_Main cI cZ cO amn apl abd alk atr mn lt ++ cw_Plan cI cZ cO apl pl ++ cw_Board cI cZ cO abd apl bd ++ cw_Locks cI cZ cO alk lk ++ cw_Trial cI cZ cO atr apl atb tr ++ cw_Board cI cZ cO atb apl tb) [0, 1, 32, 33, 34, 35, 36, 37, 38, 39, 40, 41, 42, 43, 44, 45, 46, 47, 48, 2, 3, 4, 5, 6, 7, 8, 9, 10, 11, 12, 13, 14, 15, 16, 17, 18, 19, 20, 21, 22, 23, 24, 25, 26, 27, 28, 29, 30, 31] (by decide) rfl
  generalize H1 = H at hP hS ⊢
  refine lv_if_ne (tgt := 15) hx hb nd_Main_blocking_8 (by decide) (fun c_4 => ?_) (fun c_4 => ?_)
  · have c_4t := cr_ne c_4
    rw [if_neg c_4] at hM
    refine lv_iconst (v := 0) hx hb nd_Main_blocking_15 (by decide) ?_
    refine lv_istore_n (lv' := [(2, .int (0 : Int32)), (0, .ref (amn 0)), (1, .int x1)]) hx hb nd_Main_blocking_16 rfl hl (by decide) rfl (fun ls hl => ?_)
    refine lv_iconst (v := 1) hx hb nd_Main_blocking_17 (by decide) ?_
    refine lv_istore_n (lv' := [(3, .int (1 : Int32)), (2, .int (0 : Int32)), (0, .ref (amn 0)), (1, .int x1)]) hx hb nd_Main_blocking_18 rfl hl (by decide) rfl (fun ls hl => ?_)
    have hl := lv_sub hl [2, 3, 1, 0] rfl
    have lp_19 : ∀ (n_19 : Nat) (v2_19 : Int32) (v3_19 : Int32), (1 ≤ v3_19.toInt ∧ v3_19.toInt ≤ 11) → (11 < v3_19.toInt + (n_19 : Int)) → lo_Main_blocking_19 mn lt pl bd lk tr tb x1 n_19 v2_19 v3_19 = tgt → ∀ (H : Heap) (locs : List Loc), va_P (dC, dI) vwCl (cw_Main cI cZ cO amn apl abd alk atr mn lt ++ cw_Plan cI cZ cO apl pl ++ cw_Board cI cZ cO abd apl bd ++ cw_Locks cI cZ cO alk lk ++ cw_Trial cI cZ cO atr apl atb tr ++ cw_Board cI cZ cO atb apl tb) H → va_D A (cw_Main cI cZ cO amn apl abd alk atr mn lt ++ cw_Plan cI cZ cO apl pl ++ cw_Board cI cZ cO abd apl bd ++ cw_Locks cI cZ cO alk lk ++ cw_Trial cI cZ cO atr apl atb tr ++ cw_Board cI cZ cO atb apl tb) → va_S A s.heap H locs → ∀ ls : Array Slot, lv_has ls 4 [(0, .ref (amn 0)), (1, .int x1), (2, .int v2_19), (3, .int v3_19)] → W p l e (headSpec nw_Main_blocking ({ frames := 2, cells := 0, slots := 0, locals := 46 } : Room)).room s m ([.ref (amn 0), .int x1] : List Value).toArray below meth c H locs 0 0 (MQ below (pq_Main_blocking dC dI cI cZ cO amn apl abd alk atr atb mn lt pl bd lk tr tb x1 A) ([.ref (amn 0), .int x1] : List Value).toArray s 0 0 A) (F0 m 19 ls []) := by
      intro n_19
      induction n_19 with
      | zero =>
        intro v2_19 v3_19 hv3_19 hn_19
        exfalso; omega
      | succ n_19 ih_19 =>
        intro v2_19 v3_19 hv3_19 hn_19 hM H locs hP hD hS ls hl
        have hn_19 : 11 < v3_19.toInt + ((n_19 : Int) + 1) := by omega
        rw [lo_Main_blocking_19] at hM
        refine lv_iload_n hx hb nd_Main_blocking_19 rfl (lv_at hl 3 rfl) ?_
        refine lv_aload_n hx hb nd_Main_blocking_20 rfl (lv_at hl 0 rfl) ?_
        refine va_get (D := (dC, dI)) (ci := 4) (v := .ref (apl 0)) (C := "CeilingRows") (T := nf_Main) (N := 6) hx hb hts nin_Main hown hK hP 0 rfl rfl 0 (by decide) (hts _ tw_138) (fun _ h9 => h9) rfl nd_Main_blocking_21 ?_
        refine va_get (D := (dC, dI)) (ci := 0) (v := .int (pl 0 0)) (C := "CeilingRows$Plan") (T := nf_Plan) (N := 7) hx hb hts nin_Plan hown hK hP 2 rfl rfl 0 (by decide) (hts _ tw_28) (fun _ h9 => h9) rfl nd_Main_blocking_24 ?_
        have f_5 := cr_rfo hR_pl.1
        refine lv_icmp_gt (tgt := 50) hx hb nd_Main_blocking_27 (by decide) (fun c_6 => ?_) (fun c_6 => ?_)
        · have c_6t := cr_lt c_6
          rw [if_pos c_6] at hM
          refine lv_iload_n hx hb nd_Main_blocking_50 rfl (lv_at hl 2 rfl) ?_
          refine lv_i2l (v := v2_19.toInt64) hx hb nd_Main_blocking_51 rfl ?_
          exact W.lret (v := v2_19.toInt64) hx hb hr (fun t ht hW => ⟨⟨v2_19.toInt64, (), rfl, by rw [hT, ← hM], by rw [ht]; exact hP, va_K.moved hW.alike hK, hD⟩, hS.F ht⟩) hS.2.2 nd_Main_blocking_52
        · have c_6t := cr_nlt c_6
          rw [if_neg c_6] at hM
          refine lv_iload_n hx hb nd_Main_blocking_30 rfl (lv_at hl 2 rfl) ?_
          refine lv_aload_n hx hb nd_Main_blocking_31 rfl (lv_at hl 0 rfl) ?_
          refine va_get (D := (dC, dI)) (ci := 4) (v := .ref (apl 0)) (C := "CeilingRows") (T := nf_Main) (N := 6) hx hb hts nin_Main hown hK hP 0 rfl rfl 0 (by decide) (hts _ tw_138) (fun _ h9 => h9) rfl nd_Main_blocking_32 ?_
          refine lv_iload_n hx hb nd_Main_blocking_35 rfl (lv_at hl 1 rfl) ?_
          refine lv_iload_n hx hb nd_Main_blocking_36 rfl (lv_at hl 3 rfl) ?_
          have hPc := hP.sub (ws' := cw_Plan cI cZ cO apl pl) [2, 3, 4, 5, 6, 7, 8, 9, 10, 11, 12, 13, 14, 15, 16, 17, 18] rfl
          have hDc := hD.sub (ws' := cw_Plan cI cZ cO apl pl) [2, 3, 4, 5, 6, 7, 8, 9, 10, 11, 12, 13, 14, 15, 16, 17, 18] (by decide) rfl
          have hFc := va_free (wc := cw_Plan cI cZ cO apl pl) hD hS hA [2, 3, 4, 5, 6, 7, 8, 9, 10, 11, 12, 13, 14, 15, 16, 17, 18] rfl
          refine va_calli (va_runV (As := [.int x1, .int v3_19]) (rest := [.int v2_19]) ⟨hx, hb, hml, hown, hts⟩ (ct_Plan_longestDelay l dC dI cI cZ cO apl H.size pl x1 v3_19 hR_pl (by omega) (by omega)) (cwV 2 hts (ng_V tw_299 tw_300 tw_301 tw_2 tw_302) rfl rfl rfl (by decide +kernel) ⟨Nat.le_of_ble_eq_true rfl, Nat.le_of_ble_eq_true rfl⟩) ⟨fun a U g mk q => by obtain ⟨q0, q1, qP, qK, qD⟩ := q; exact ⟨q0, q1, qP, va_K.moved (u := U) (U := U.calling g mk a) (Vm.Alike.refl U.vm) qK, qD⟩, va_recv hK hPc (ci := 0) (q0 := 0) rfl rfl, fun U hU hW => ⟨rfl, by rw [hU], by rw [hU]; exact hPc, va_K.moved hW.alike hK, hDc.weaken (fun _ _ _ _ => trivial)⟩⟩ rfl rfl hl.1 rfl (lv_room (Nat.le_of_ble_eq_true rfl)) nd_Main_blocking_37 ⟨Nat.zero_le _, Nat.zero_le _⟩) hS (fun q _ h => hFc q h) hFc (fun r_7 u t H1 locs ht hvm hw hB hz1 hk1 hS => ?_)
          obtain ⟨hP1, hK1, hD1⟩ := hB
          rw [ht] at hP1
          have w_8 := hw
          try rw [← w_8] at hM
          obtain ⟨hP, hD⟩ := va_join (wr := cw_Main cI cZ cO amn apl abd alk atr mn lt ++ cw_Board cI cZ cO abd apl bd ++ cw_Locks cI cZ cO alk lk ++ cw_Trial cI cZ cO atr apl atb tr ++ cw_Board cI cZ cO atb apl tb) (w1 := cw_Plan cI cZ cO apl pl) hP hD [2, 3, 4, 5, 6, 7, 8, 9, 10, 11, 12, 13, 14, 15, 16, 17, 18] [0, 1, 19, 20, 21, 22, 23, 24, 25, 26, 27, 28, 29, 30, 31, 32, 33, 34, 35, 36, 37, 38, 39, 40, 41, 42, 43, 44, 45, 46, 47, 48] rfl rfl (by decide) (by decide) hk1 hFc hP1 hD1
          have hP := hP.sub (ws' := cw_Main cI cZ cO amn apl abd alk atr mn lt ++ cw_Plan cI cZ cO apl pl ++ cw_Board cI cZ cO abd apl bd ++ cw_Locks cI cZ cO alk lk ++ cw_Trial cI cZ cO atr apl atb tr ++ cw_Board cI cZ cO atb apl tb) [0, 1, 32, 33, 34, 35, 36, 37, 38, 39, 40, 41, 42, 43, 44, 45, 46, 47, 48, 2, 3, 4, 5, 6, 7, 8, 9, 10, 11, 12, 13, 14, 15, 16, 17, 18, 19, 20, 21, 22, 23, 24, 25, 26, 27, 28, 29, 30, 31] rfl
          have hD := hD.sub (ws' := cw_Main cI cZ cO amn apl abd alk atr mn lt ++ cw_Plan cI cZ cO apl pl ++ cw_Board cI cZ cO abd apl bd ++ cw_Locks cI cZ cO alk lk ++ cw_Trial cI cZ cO atr apl atb tr ++ cw_Board cI cZ cO atb apl tb) [0, 1, 32, 33, 34, 35, 36, 37, 38, 39, 40, 41, 42, 43, 44, 45, 46, 47, 48, 2, 3, 4, 5, 6, 7, 8, 9, 10, 11, 12, 13, 14, 15, 16, 17, 18, 19, 20, 21, 22, 23, 24, 25, 26, 27, 28, 29, 30, 31] (by decide) rfl
          generalize H1 = H at hP hS ⊢
          refine va_mmax hx hb (by rw [hml]; exact hl.1.symm) hown (hts _ tw_307) (hts _ tw_207) (hts _ tw_7) (hts _ tw_208) (Nat.le_of_ble_eq_true rfl) (Nat.le_of_ble_eq_true rfl) (Nat.zero_le _) (Nat.zero_le _) nd_Main_blocking_40 ?_
          refine lv_istore_n (lv' := [(2, .int (cr_max v2_19 r_7)), (0, .ref (amn 0)), (1, .int x1), (3, .int v3_19)]) hx hb nd_Main_blocking_43 rfl hl (by decide) rfl (fun ls hl => ?_)
          have e_9 : (v3_19 + (1 : Int32)).toInt = v3_19.toInt + (1 : Int32).toInt := cr_add (by omega)
          refine lv_iinc (v := (v3_19 + (1 : Int32))) (lv' := [(3, .int (v3_19 + (1 : Int32))), (2, .int (cr_max v2_19 r_7)), (0, .ref (amn 0)), (1, .int x1)]) hx hb nd_Main_blocking_44 hl (k := 3) rfl (by rfl) (by decide) rfl (fun ls hl => ?_)
          refine lv_goto (tgt := 19) hx hb nd_Main_blocking_47 (by decide) ?_
          exact ih_19 (cr_max v2_19 r_7) (v3_19 + (1 : Int32)) (by omega) (by omega) hM _ _ hP hD hS _ (lv_sub hl [2, 3, 1, 0] rfl)
    exact lp_19 11 (0 : Int32) (1 : Int32) (by omega) (by omega) hM _ _ hP hD hS _ hl
  · have c_4t := cr_eq c_4
    rw [if_pos c_4] at hM
    refine lv_ldc2 (v := -1) hx hb hown (hts _ tw_298) nd_Main_blocking_11 ?_
    exact W.lret (v := (-1 : Int64)) hx hb hr (fun t ht hW => ⟨⟨(-1 : Int64), (), rfl, by rw [hT, ← hM], by rw [ht]; exact hP, va_K.moved hW.alike hK, hD⟩, hS.F ht⟩) hS.2.2 nd_Main_blocking_14

theorem nd_Main_lock_0 : decode prog_1_method_10_code 0 = .ok (.iload_n 1, 1) := by decide +kernel
theorem nd_Main_lock_1 : decode prog_1_method_10_code 1 = .ok (.invokestatic 47, 3) := by decide +kernel
theorem nd_Main_lock_4 : decode prog_1_method_10_code 4 = .ok (.ifCond .ne (5), 3) := by decide +kernel
theorem nd_Main_lock_7 : decode prog_1_method_10_code 7 = .ok (.iconst (-1), 1) := by decide +kernel
theorem nd_Main_lock_8 : decode prog_1_method_10_code 8 = .ok (.ireturn, 1) := by decide +kernel
theorem nd_Main_lock_9 : decode prog_1_method_10_code 9 = .ok (.iload_n 2, 1) := by decide +kernel
theorem nd_Main_lock_10 : decode prog_1_method_10_code 10 = .ok (.ifCond .eq (15), 3) := by decide +kernel
theorem nd_Main_lock_13 : decode prog_1_method_10_code 13 = .ok (.iload_n 2, 1) := by decide +kernel
theorem nd_Main_lock_14 : decode prog_1_method_10_code 14 = .ok (.bipush (-8), 2) := by decide +kernel
theorem nd_Main_lock_16 : decode prog_1_method_10_code 16 = .ok (.if_icmp .lt (9), 3) := by decide +kernel
theorem nd_Main_lock_19 : decode prog_1_method_10_code 19 = .ok (.iload_n 2, 1) := by decide +kernel
theorem nd_Main_lock_20 : decode prog_1_method_10_code 20 = .ok (.bipush 8, 2) := by decide +kernel
theorem nd_Main_lock_22 : decode prog_1_method_10_code 22 = .ok (.if_icmp .le (6), 3) := by decide +kernel
theorem nd_Main_lock_25 : decode prog_1_method_10_code 25 = .ok (.bipush (-2), 2) := by decide +kernel
theorem nd_Main_lock_27 : decode prog_1_method_10_code 27 = .ok (.ireturn, 1) := by decide +kernel
theorem nd_Main_lock_28 : decode prog_1_method_10_code 28 = .ok (.aload_n 0, 1) := by decide +kernel
theorem nd_Main_lock_29 : decode prog_1_method_10_code 29 = .ok (.getfield 28, 3) := by decide +kernel
theorem nd_Main_lock_32 : decode prog_1_method_10_code 32 = .ok (.iload_n 1, 1) := by decide +kernel
theorem nd_Main_lock_33 : decode prog_1_method_10_code 33 = .ok (.invokevirtual 118, 3) := by decide +kernel
theorem nd_Main_lock_36 : decode prog_1_method_10_code 36 = .ok (.ifCond .eq (6), 3) := by decide +kernel
theorem nd_Main_lock_39 : decode prog_1_method_10_code 39 = .ok (.bipush (-3), 2) := by decide +kernel
theorem nd_Main_lock_41 : decode prog_1_method_10_code 41 = .ok (.ireturn, 1) := by decide +kernel
theorem nd_Main_lock_42 : decode prog_1_method_10_code 42 = .ok (.iload_n 2, 1) := by decide +kernel
theorem nd_Main_lock_43 : decode prog_1_method_10_code 43 = .ok (.ifCond .le (15), 3) := by decide +kernel
theorem nd_Main_lock_46 : decode prog_1_method_10_code 46 = .ok (.aload_n 0, 1) := by decide +kernel
theorem nd_Main_lock_47 : decode prog_1_method_10_code 47 = .ok (.getfield 28, 3) := by decide +kernel
theorem nd_Main_lock_50 : decode prog_1_method_10_code 50 = .ok (.iload_n 1, 1) := by decide +kernel
theorem nd_Main_lock_51 : decode prog_1_method_10_code 51 = .ok (.iload_n 2, 1) := by decide +kernel
theorem nd_Main_lock_52 : decode prog_1_method_10_code 52 = .ok (.invokevirtual 121, 3) := by decide +kernel
theorem nd_Main_lock_55 : decode prog_1_method_10_code 55 = .ok (.goto (13), 3) := by decide +kernel
theorem nd_Main_lock_58 : decode prog_1_method_10_code 58 = .ok (.aload_n 0, 1) := by decide +kernel
theorem nd_Main_lock_59 : decode prog_1_method_10_code 59 = .ok (.getfield 28, 3) := by decide +kernel
theorem nd_Main_lock_62 : decode prog_1_method_10_code 62 = .ok (.iload_n 1, 1) := by decide +kernel
theorem nd_Main_lock_63 : decode prog_1_method_10_code 63 = .ok (.iload_n 2, 1) := by decide +kernel
theorem nd_Main_lock_64 : decode prog_1_method_10_code 64 = .ok (.ineg, 1) := by decide +kernel
theorem nd_Main_lock_65 : decode prog_1_method_10_code 65 = .ok (.invokevirtual 124, 3) := by decide +kernel
theorem nd_Main_lock_68 : decode prog_1_method_10_code 68 = .ok (.ireturn, 1) := by decide +kernel
def md_Main_lock (mn : cr_S) (lt : Int64) (pl : cr_S) (bd : cr_S) (lk : cr_S) (tr : cr_S) (tb : cr_S) (x1 : Int32) (x2 : Int32) : Int32 × cr_S :=
  (if (md_Main_isCore  x1) = 0 then ((-1 : Int32), lk) else (if x2 = 0 then ((-2 : Int32), lk) else (if x2 < (-8 : Int32) then ((-2 : Int32), lk) else (if x2 ≤ (8 : Int32) then (if (md_Locks_spins lk x1) = 0 then (if x2 ≤ 0 then (((md_Locks_release lk x1 (-x2)).1), ((md_Locks_release lk x1 (-x2)).2)) else (((md_Locks_acquire lk x1 x2).1), ((md_Locks_acquire lk x1 x2).2))) else ((-3 : Int32), lk)) else ((-2 : Int32), lk)))))
abbrev pq_Main_lock (dC : Nat → ClassId) (dI : Nat → Nat → Nat) (cI cZ cO : ClassId) (amn apl abd alk atr atb : Nat → Nat) (mn : cr_S) (lt : Int64) (pl : cr_S) (bd : cr_S) (lk : cr_S) (tr : cr_S) (tb : cr_S) (x1 : Int32) (x2 : Int32) (A : Nat → Prop) : Array Value → State → Outcome → State → Prop :=
  va_Qi (fun (r : Int32) (lk' : cr_S) => r = (md_Main_lock mn lt pl bd lk tr tb x1 x2).1 ∧ lk' = (md_Main_lock mn lt pl bd lk tr tb x1 x2).2 ∧ cr_RLocks lk') (fun (lk' : cr_S) t => va_P (dC, dI) vwCl (cw_Main cI cZ cO amn apl abd alk atr mn lt ++ cw_Plan cI cZ cO apl pl ++ cw_Board cI cZ cO abd apl bd ++ cw_Locks cI cZ cO alk lk' ++ cw_Trial cI cZ cO atr apl atb tr ++ cw_Board cI cZ cO atb apl tb) t.heap ∧ va_K (dC, dI) vwCl [(cI, .int), (cZ, .boolean), (cO, .array .int)] t ∧ va_D A (cw_Main cI cZ cO amn apl abd alk atr mn lt ++ cw_Plan cI cZ cO apl pl ++ cw_Board cI cZ cO abd apl bd ++ cw_Locks cI cZ cO alk lk' ++ cw_Trial cI cZ cO atr apl atb tr ++ cw_Board cI cZ cO atb apl tb)) A
set_option maxHeartbeats 4000000 in
set_option maxRecDepth 100000 in
theorem ct_Main_lock (l : Launch) (dC : Nat → ClassId) (dI : Nat → Nat → Nat) (cI cZ cO : ClassId) (amn apl abd alk atr atb : Nat → Nat) (sz : Nat) (mn : cr_S) (lt : Int64) (pl : cr_S) (bd : cr_S) (lk : cr_S) (tr : cr_S) (tb : cr_S) (x1 : Int32) (x2 : Int32) (hR_tb : cr_RBoard tb) (hR_lk : cr_RLocks lk) (hR_bd : cr_RBoard bd) (hR_pl : cr_RPlan pl) : Met l ny_Main_lock nw_Main_lock ({ frames := 2, cells := 0, slots := 0, locals := 47 } : Room) (va_Pc [.ref (amn 0), .int x1, .int x2] (fun U => U.heap.size = sz ∧ va_P (dC, dI) vwCl (cw_Main cI cZ cO amn apl abd alk atr mn lt ++ cw_Plan cI cZ cO apl pl ++ cw_Board cI cZ cO abd apl bd ++ cw_Locks cI cZ cO alk lk ++ cw_Trial cI cZ cO atr apl atb tr ++ cw_Board cI cZ cO atb apl tb) U.heap ∧ va_K (dC, dI) vwCl [(cI, .int), (cZ, .boolean), (cO, .array .int)] U ∧ va_D (fun _ => True) (cw_Main cI cZ cO amn apl abd alk atr mn lt ++ cw_Plan cI cZ cO apl pl ++ cw_Board cI cZ cO abd apl bd ++ cw_Locks cI cZ cO alk lk ++ cw_Trial cI cZ cO atr apl atb tr ++ cw_Board cI cZ cO atb apl tb))) (pq_Main_lock dC dI cI cZ cO amn apl abd alk atr atb mn lt pl bd lk tr tb x1 x2 (va_A (cw_Main cI cZ cO amn apl abd alk atr mn lt ++ cw_Plan cI cZ cO apl pl ++ cw_Board cI cZ cO abd apl bd ++ cw_Locks cI cZ cO alk lk ++ cw_Trial cI cZ cO atr apl atb tr ++ cw_Board cI cZ cO atb apl tb) sz)) 0 0 (va_A (cw_Main cI cZ cO amn apl abd alk atr mn lt ++ cw_Plan cI cZ cO apl pl ++ cw_Board cI cZ cO abd apl bd ++ cw_Locks cI cZ cO alk lk ++ cw_Trial cI cZ cO atr apl atb tr ++ cw_Board cI cZ cO atb apl tb) sz) := by
  refine Met.ofW (cc := prog_1_method_10_code) (maxL := 3) (ret := (some .int)) (by decide) rfl ?_
  intro p e s m args below meth c s₁ B hml hv
  obtain ⟨rfl, hsz, hP, hK, hD0⟩ := hv
  have hx := B.exec
  have hb := B.bytes
  have hr := B.returns
  have hts0 := atoms_spec (ws := nw_Main_lock) B.pre
  have hts : ∀ w ∈ ng_tbl, w.before ([.ref (amn 0), .int x1, .int x2] : List Value).toArray s = true := fun w h => hts0 w (List.mem_cons_of_mem _ h)
  have hown : s.vm.findClass "CeilingRows" = some m.cls := findClass_of_methodNamed B.named
  have hlocks := B.notSynchronized
  subst hsz
  have hD := hD0.self (sz := s.heap.size)
  generalize hAe : va_A (cw_Main cI cZ cO amn apl abd alk atr mn lt ++ cw_Plan cI cZ cO apl pl ++ cw_Board cI cZ cO abd apl bd ++ cw_Locks cI cZ cO alk lk ++ cw_Trial cI cZ cO atr apl atb tr ++ cw_Board cI cZ cO atb apl tb) s.heap.size = A at hD ⊢
  have hA : ∀ q : Nat, s.heap.size ≤ q → A q := fun q h => by rw [← hAe]; exact Or.inr h
  have hS : va_S A s.heap s.heap [] := va_S.rf
  have hP : va_P (dC, dI) vwCl (cw_Main cI cZ cO amn apl abd alk atr mn lt ++ cw_Plan cI cZ cO apl pl ++ cw_Board cI cZ cO abd apl bd ++ cw_Locks cI cZ cO alk lk ++ cw_Trial cI cZ cO atr apl atb tr ++ cw_Board cI cZ cO atb apl tb) s.heap := hP
  have hl := lv_entry ([.ref (amn 0), .int x1, .int x2]) (n := 3) (Nat.le_of_ble_eq_true rfl)
  rw [lg_entry_eq]
  generalize (lg_sl ([.ref (amn 0), .int x1, .int x2]) ++ List.replicate (3 - (lg_sl ([.ref (amn 0), .int x1, .int x2])).length) Slot.unset).toArray = ls at hl ⊢
  have hl : lv_has ls 3 [(0, .ref (amn 0)), (1, .int x1), (2, .int x2)] := hl
  have f0_pl_0 := cr_rfo hR_pl.1
  have f0_pl_1 := cr_rfo hR_pl.2.1
  have k_m8 : (-8 : Int32).toInt = -8 := by decide
  have k_m3 : (-3 : Int32).toInt = -3 := by decide
  have k_m2 : (-2 : Int32).toInt = -2 := by decide
  have k_m1 : (-1 : Int32).toInt = -1 := by decide
  have k_0 : (0 : Int32).toInt = 0 := by decide
  have k_8 : (8 : Int32).toInt = 8 := by decide
  obtain ⟨tgt, hT⟩ : ∃ z, md_Main_lock mn lt pl bd lk tr tb x1 x2 = z := ⟨_, rfl⟩
  have hM := hT
  unfold md_Main_lock at hM
  refine lv_iload_n hx hb nd_Main_lock_0 rfl (lv_at hl 1 rfl) ?_
  have hPc := hP.sub (ws' := ([] : va_W)) [] rfl
  have hDc := hD.sub (ws' := ([] : va_W)) [] (by decide) rfl
  have hFc := va_free (wc := ([] : va_W)) hD hS hA [] rfl
  refine va_calli (va_runS (As := [.int x1]) (rest := []) ⟨hx, hb, hml, hown, hts⟩ (ct_Main_isCore l dC dI cI cZ cO  s.heap.size  x1 ) (va_cwS 1 hts (ng_S tw_162 tw_163 tw_1 tw_164) rfl rfl rfl (by decide +kernel) ⟨Nat.le_of_ble_eq_true rfl, Nat.le_of_ble_eq_true rfl⟩) ⟨fun a U g mk q => by obtain ⟨q0, q1, qP, qK, qD⟩ := q; exact ⟨q0, q1, qP, va_K.moved (u := U) (U := U.calling g mk a) (Vm.Alike.refl U.vm) qK, qD⟩, fun U hU hW => ⟨rfl, by rw [hU], by rw [hU]; exact hPc, va_K.moved hW.alike hK, hDc.weaken (fun _ _ _ _ => trivial)⟩⟩ rfl rfl hl.1 rfl (lv_room (Nat.le_of_ble_eq_true rfl)) nd_Main_lock_1 ⟨Nat.zero_le _, Nat.zero_le _⟩) hS (fun q _ h => hFc q h) hFc (fun r_1 u t H1 locs ht hvm hw hB hz1 hk1 hS => ?_)
  obtain ⟨hP1, hK1, hD1⟩ := hB
  rw [ht] at hP1
  obtain ⟨w_2, f_3⟩ := hw
  try rw [← w_2] at hM
  obtain ⟨hP, hD⟩ := va_join (wr := cw_Main cI cZ cO amn apl abd alk atr mn lt ++ cw_Plan cI cZ cO apl pl ++ cw_Board cI cZ cO abd apl bd ++ cw_Locks cI cZ cO alk lk ++ cw_Trial cI cZ cO atr apl atb tr ++ cw_Board cI cZ cO atb apl tb) (w1 := ([] : va_W)) hP hD [] [0, 1, 2, 3, 4, 5, 6, 7, 8, 9, 10, 11, 12, 13, 14, 15, 16, 17, 18, 19, 20, 21, 22, 23, 24, 25, 26, 27, 28, 29, 30, 31, 32, 33, 34, 35, 36, 37, 38, 39, 40, 41, 42, 43, 44, 45, 46, 47, 48] rfl rfl (by decide) (by decide) hk1 hFc hP1 hD1
  have hP := hP.sub (ws' := cw_Main cI cZ cO amn apl abd alk atr mn lt ++ cw_Plan cI cZ cO apl pl ++ cw_Board cI cZ cO abd apl bd ++ cw_Locks cI cZ cO alk lk ++ cw_Trial cI cZ cO atr apl atb tr ++ cw_Board cI cZ cO atb apl tb) [0, 1, 2, 3, 4, 5, 6, 7, 8, 9, 10, 11, 12, 13, 14, 15, 16, 17, 18, 19, 20, 21, 22, 23, 24, 25, 26, 27, 28, 29, 30, 31, 32, 33, 34, 35, 36, 37, 38, 39, 40, 41, 42, 43, 44, 45, 46, 47, 48] rfl
  have hD := hD.sub (ws' := cw_Main cI cZ cO amn apl abd alk atr mn lt ++ cw_Plan cI cZ cO apl pl ++ cw_Board cI cZ cO abd apl bd ++ cw_Locks cI cZ cO alk lk ++ cw_Trial cI cZ cO atr apl atb tr ++ cw_Board cI cZ cO atb apl tb) [0, 1, 2, 3, 4, 5, 6, 7, 8, 9, 10, 11, 12, 13, 14, 15, 16, 17, 18, 19, 20, 21, 22, 23, 24, 25, 26, 27, 28, 29, 30, 31, 32, 33, 34, 35, 36, 37, 38, 39, 40, 41, 42, 43, 44, 45, 46, 47, 48] (by decide) rfl
  generalize H1 = H at hP hS ⊢
  refine lv_if_ne (tgt := 9) hx hb nd_Main_lock_4 (by decide) (fun c_4 => ?_) (fun c_4 => ?_)
  · have c_4t := cr_ne c_4
    rw [if_neg c_4] at hM
    refine lv_iload_n hx hb nd_Main_lock_9 rfl (lv_at hl 2 rfl) ?_
    refine lv_if_eq (tgt := 25) hx hb nd_Main_lock_10 (by decide) (fun c_5 => ?_) (fun c_5 => ?_)
    · have c_5t := cr_eq c_5
      rw [if_pos c_5] at hM
      refine lv_bipush (v := -2) hx hb nd_Main_lock_25 (by decide) ?_
      exact W.iret (v := (-2 : Int32)) hx hb hr (fun t ht hW => ⟨⟨(-2 : Int32), lk, rfl, ⟨by rw [hT, ← hM], by rw [hT, ← hM], hR_lk⟩, by rw [ht]; exact hP, va_K.moved hW.alike hK, hD⟩, hS.F ht⟩) hS.2.2 nd_Main_lock_27
    · have c_5t := cr_ne c_5
      rw [if_neg c_5] at hM
      refine lv_iload_n hx hb nd_Main_lock_13 rfl (lv_at hl 2 rfl) ?_
      refine lv_bipush (v := -8) hx hb nd_Main_lock_14 (by decide) ?_
      refine lv_icmp_lt (tgt := 25) hx hb nd_Main_lock_16 (by decide) (fun c_6 => ?_) (fun c_6 => ?_)
      · have c_6t := cr_lt c_6
        rw [if_pos c_6] at hM
        refine lv_bipush (v := -2) hx hb nd_Main_lock_25 (by decide) ?_
        exact W.iret (v := (-2 : Int32)) hx hb hr (fun t ht hW => ⟨⟨(-2 : Int32), lk, rfl, ⟨by rw [hT, ← hM], by rw [hT, ← hM], hR_lk⟩, by rw [ht]; exact hP, va_K.moved hW.alike hK, hD⟩, hS.F ht⟩) hS.2.2 nd_Main_lock_27
      · have c_6t := cr_nlt c_6
        rw [if_neg c_6] at hM
        refine lv_iload_n hx hb nd_Main_lock_19 rfl (lv_at hl 2 rfl) ?_
        refine lv_bipush (v := 8) hx hb nd_Main_lock_20 (by decide) ?_
        refine lv_icmp_le (tgt := 28) hx hb nd_Main_lock_22 (by decide) (fun c_7 => ?_) (fun c_7 => ?_)
        · have c_7t := cr_le c_7
          rw [if_pos c_7] at hM
          refine lv_aload_n hx hb nd_Main_lock_28 rfl (lv_at hl 0 rfl) ?_
          refine va_get (D := (dC, dI)) (ci := 4) (v := .ref (alk 0)) (C := "CeilingRows") (T := nf_Main) (N := 6) hx hb hts nin_Main hown hK hP 0 rfl rfl 2 (by decide) (hts _ tw_140) (fun _ h9 => h9) rfl nd_Main_lock_29 ?_
          refine lv_iload_n hx hb nd_Main_lock_32 rfl (lv_at hl 1 rfl) ?_
          have hPc := hP.sub (ws' := cw_Locks cI cZ cO alk lk) [25, 26, 27, 28] rfl
          have hDc := hD.sub (ws' := cw_Locks cI cZ cO alk lk) [25, 26, 27, 28] (by decide) rfl
          have hFc := va_free (wc := cw_Locks cI cZ cO alk lk) hD hS hA [25, 26, 27, 28] rfl
          refine va_calli (va_runV (As := [.int x1]) (rest := []) ⟨hx, hb, hml, hown, hts⟩ (ct_Locks_spins l dC dI cI cZ cO alk H.size lk x1 hR_lk (by omega)) (cwV 1 hts (ng_V tw_234 tw_235 tw_236 tw_4 tw_237) rfl rfl rfl (by decide +kernel) ⟨Nat.le_of_ble_eq_true rfl, Nat.le_of_ble_eq_true rfl⟩) ⟨fun a U g mk q => by obtain ⟨q0, q1, qP, qK, qD⟩ := q; exact ⟨q0, q1, qP, va_K.moved (u := U) (U := U.calling g mk a) (Vm.Alike.refl U.vm) qK, qD⟩, va_recv hK hPc (ci := 2) (q0 := 0) rfl rfl, fun U hU hW => ⟨rfl, by rw [hU], by rw [hU]; exact hPc, va_K.moved hW.alike hK, hDc.weaken (fun _ _ _ _ => trivial)⟩⟩ rfl rfl hl.1 rfl (lv_room (Nat.le_of_ble_eq_true rfl)) nd_Main_lock_33 ⟨Nat.zero_le _, Nat.zero_le _⟩) hS (fun q _ h => hFc q h) hFc (fun r_8 u t H1 locs ht hvm hw hB hz1 hk1 hS => ?_)
          obtain ⟨hP1, hK1, hD1⟩ := hB
          rw [ht] at hP1
          have w_9 := hw
          try rw [← w_9] at hM
          obtain ⟨hP, hD⟩ := va_join (wr := cw_Main cI cZ cO amn apl abd alk atr mn lt ++ cw_Plan cI cZ cO apl pl ++ cw_Board cI cZ cO abd apl bd ++ cw_Trial cI cZ cO atr apl atb tr ++ cw_Board cI cZ cO atb apl tb) (w1 := cw_Locks cI cZ cO alk lk) hP hD [25, 26, 27, 28] [0, 1, 2, 3, 4, 5, 6, 7, 8, 9, 10, 11, 12, 13, 14, 15, 16, 17, 18, 19, 20, 21, 22, 23, 24, 29, 30, 31, 32, 33, 34, 35, 36, 37, 38, 39, 40, 41, 42, 43, 44, 45, 46, 47, 48] rfl rfl (by decide) (by decide) hk1 hFc hP1 hD1
          have hP := hP.sub (ws' := cw_Main cI cZ cO amn apl abd alk atr mn lt ++ cw_Plan cI cZ cO apl pl ++ cw_Board cI cZ cO abd apl bd ++ cw_Locks cI cZ cO alk lk ++ cw_Trial cI cZ cO atr apl atb tr ++ cw_Board cI cZ cO atb apl tb) [0, 1, 2, 3, 4, 5, 6, 7, 8, 9, 10, 11, 12, 13, 14, 15, 16, 17, 18, 19, 20, 21, 22, 23, 24, 45, 46, 47, 48, 25, 26, 27, 28, 29, 30, 31, 32, 33, 34, 35, 36, 37, 38, 39, 40, 41, 42, 43, 44] rfl
          have hD := hD.sub (ws' := cw_Main cI cZ cO amn apl abd alk atr mn lt ++ cw_Plan cI cZ cO apl pl ++ cw_Board cI cZ cO abd apl bd ++ cw_Locks cI cZ cO alk lk ++ cw_Trial cI cZ cO atr apl atb tr ++ cw_Board cI cZ cO atb apl tb) [0, 1, 2, 3, 4, 5, 6, 7, 8, 9, 10, 11, 12, 13, 14, 15, 16, 17, 18, 19, 20, 21, 22, 23, 24, 45, 46, 47, 48, 25, 26, 27, 28, 29, 30, 31, 32, 33, 34, 35, 36, 37, 38, 39, 40, 41, 42, 43, 44] (by decide) rfl
          generalize H1 = H at hP hS ⊢
          refine lv_if_eq (tgt := 42) hx hb nd_Main_lock_36 (by decide) (fun c_10 => ?_) (fun c_10 => ?_)
          · have c_10t := cr_eq c_10
            rw [if_pos c_10] at hM
            refine lv_iload_n hx hb nd_Main_lock_42 rfl (lv_at hl 2 rfl) ?_
            refine lv_if_le (tgt := 58) hx hb nd_Main_lock_43 (by decide) (fun c_11 => ?_) (fun c_11 => ?_)
            · have c_11t := cr_le c_11
              rw [if_pos c_11] at hM
              refine lv_aload_n hx hb nd_Main_lock_58 rfl (lv_at hl 0 rfl) ?_
              refine va_get (D := (dC, dI)) (ci := 4) (v := .ref (alk 0)) (C := "CeilingRows") (T := nf_Main) (N := 6) hx hb hts nin_Main hown hK hP 0 rfl rfl 2 (by decide) (hts _ tw_140) (fun _ h9 => h9) rfl nd_Main_lock_59 ?_
              refine lv_iload_n hx hb nd_Main_lock_62 rfl (lv_at hl 1 rfl) ?_
              refine lv_iload_n hx hb nd_Main_lock_63 rfl (lv_at hl 2 rfl) ?_
              refine lv_ineg hx hb nd_Main_lock_64 ?_
              have e_12 : (-x2).toInt = -(x2.toInt) := cr_neg (by omega)
              have hPc := hP.sub (ws' := cw_Locks cI cZ cO alk lk) [25, 26, 27, 28] rfl
              have hDc := hD.sub (ws' := cw_Locks cI cZ cO alk lk) [25, 26, 27, 28] (by decide) rfl
              have hFc := va_free (wc := cw_Locks cI cZ cO alk lk) hD hS hA [25, 26, 27, 28] rfl
              refine va_calli (va_runV (As := [.int x1, .int (-x2)]) (rest := []) ⟨hx, hb, hml, hown, hts⟩ (ct_Locks_release l dC dI cI cZ cO alk H.size lk x1 (-x2) hR_lk (by omega) (by omega)) (cwV 2 hts (ng_V tw_320 tw_321 tw_322 tw_4 tw_323) rfl rfl rfl (by decide +kernel) ⟨Nat.le_of_ble_eq_true rfl, Nat.le_of_ble_eq_true rfl⟩) ⟨fun a U g mk q => by obtain ⟨q0, q1, qP, qK, qD⟩ := q; exact ⟨q0, q1, qP, va_K.moved (u := U) (U := U.calling g mk a) (Vm.Alike.refl U.vm) qK, qD⟩, va_recv hK hPc (ci := 2) (q0 := 0) rfl rfl, fun U hU hW => ⟨rfl, by rw [hU], by rw [hU]; exact hPc, va_K.moved hW.alike hK, hDc.weaken (fun _ _ _ _ => trivial)⟩⟩ rfl rfl hl.1 rfl (lv_room (Nat.le_of_ble_eq_true rfl)) nd_Main_lock_65 ⟨Nat.zero_le _, Nat.zero_le _⟩) hS (fun q _ h => hFc q h) hFc (fun r_13 u t H1 locs ht hvm hw hB hz1 hk1 hS => ?_)
              obtain ⟨hP1, hK1, hD1⟩ := hB
              rw [ht] at hP1
              obtain ⟨lkq_15, rfl⟩ : ∃ z, z = u := ⟨_, rfl⟩
              obtain ⟨w_14, w_16, hR_17⟩ := hw
              try rw [← w_14] at hM
              try rw [← w_16] at hM
              obtain ⟨hP, hD⟩ := va_join (wr := cw_Main cI cZ cO amn apl abd alk atr mn lt ++ cw_Plan cI cZ cO apl pl ++ cw_Board cI cZ cO abd apl bd ++ cw_Trial cI cZ cO atr apl atb tr ++ cw_Board cI cZ cO atb apl tb) (w1 := cw_Locks cI cZ cO alk lkq_15) hP hD [25, 26, 27, 28] [0, 1, 2, 3, 4, 5, 6, 7, 8, 9, 10, 11, 12, 13, 14, 15, 16, 17, 18, 19, 20, 21, 22, 23, 24, 29, 30, 31, 32, 33, 34, 35, 36, 37, 38, 39, 40, 41, 42, 43, 44, 45, 46, 47, 48] rfl rfl (by decide) (by decide) hk1 hFc hP1 hD1
              have hP := hP.sub (ws' := cw_Main cI cZ cO amn apl abd alk atr mn lt ++ cw_Plan cI cZ cO apl pl ++ cw_Board cI cZ cO abd apl bd ++ cw_Locks cI cZ cO alk lkq_15 ++ cw_Trial cI cZ cO atr apl atb tr ++ cw_Board cI cZ cO atb apl tb) [0, 1, 2, 3, 4, 5, 6, 7, 8, 9, 10, 11, 12, 13, 14, 15, 16, 17, 18, 19, 20, 21, 22, 23, 24, 45, 46, 47, 48, 25, 26, 27, 28, 29, 30, 31, 32, 33, 34, 35, 36, 37, 38, 39, 40, 41, 42, 43, 44] rfl
              have hD := hD.sub (ws' := cw_Main cI cZ cO amn apl abd alk atr mn lt ++ cw_Plan cI cZ cO apl pl ++ cw_Board cI cZ cO abd apl bd ++ cw_Locks cI cZ cO alk lkq_15 ++ cw_Trial cI cZ cO atr apl atb tr ++ cw_Board cI cZ cO atb apl tb) [0, 1, 2, 3, 4, 5, 6, 7, 8, 9, 10, 11, 12, 13, 14, 15, 16, 17, 18, 19, 20, 21, 22, 23, 24, 45, 46, 47, 48, 25, 26, 27, 28, 29, 30, 31, 32, 33, 34, 35, 36, 37, 38, 39, 40, 41, 42, 43, 44] (by decide) rfl
              generalize H1 = H at hP hS ⊢
              exact W.iret (v := r_13) hx hb hr (fun t ht hW => ⟨⟨r_13, lkq_15, rfl, ⟨by rw [hT, ← hM], by rw [hT, ← hM], hR_17⟩, by rw [ht]; exact hP, va_K.moved hW.alike hK, hD⟩, hS.F ht⟩) hS.2.2 nd_Main_lock_68
            · have c_11t := cr_nle c_11
              rw [if_neg c_11] at hM
              refine lv_aload_n hx hb nd_Main_lock_46 rfl (lv_at hl 0 rfl) ?_
              refine va_get (D := (dC, dI)) (ci := 4) (v := .ref (alk 0)) (C := "CeilingRows") (T := nf_Main) (N := 6) hx hb hts nin_Main hown hK hP 0 rfl rfl 2 (by decide) (hts _ tw_140) (fun _ h9 => h9) rfl nd_Main_lock_47 ?_
              refine lv_iload_n hx hb nd_Main_lock_50 rfl (lv_at hl 1 rfl) ?_
              refine lv_iload_n hx hb nd_Main_lock_51 rfl (lv_at hl 2 rfl) ?_
              have hPc := hP.sub (ws' := cw_Locks cI cZ cO alk lk) [25, 26, 27, 28] rfl
              have hDc := hD.sub (ws' := cw_Locks cI cZ cO alk lk) [25, 26, 27, 28] (by decide) rfl
              have hFc := va_free (wc := cw_Locks cI cZ cO alk lk) hD hS hA [25, 26, 27, 28] rfl
              refine va_calli (va_runV (As := [.int x1, .int x2]) (rest := []) ⟨hx, hb, hml, hown, hts⟩ (ct_Locks_acquire l dC dI cI cZ cO alk H.size lk x1 x2 hR_lk (by omega) (by omega)) (cwV 2 hts (ng_V tw_312 tw_313 tw_314 tw_4 tw_315) rfl rfl rfl (by decide +kernel) ⟨Nat.le_of_ble_eq_true rfl, Nat.le_of_ble_eq_true rfl⟩) ⟨fun a U g mk q => by obtain ⟨q0, q1, qP, qK, qD⟩ := q; exact ⟨q0, q1, qP, va_K.moved (u := U) (U := U.calling g mk a) (Vm.Alike.refl U.vm) qK, qD⟩, va_recv hK hPc (ci := 2) (q0 := 0) rfl rfl, fun U hU hW => ⟨rfl, by rw [hU], by rw [hU]; exact hPc, va_K.moved hW.alike hK, hDc.weaken (fun _ _ _ _ => trivial)⟩⟩ rfl rfl hl.1 rfl (lv_room (Nat.le_of_ble_eq_true rfl)) nd_Main_lock_52 ⟨Nat.zero_le _, Nat.zero_le _⟩) hS (fun q _ h => hFc q h) hFc (fun r_18 u t H1 locs ht hvm hw hB hz1 hk1 hS => ?_)
              obtain ⟨hP1, hK1, hD1⟩ := hB
              rw [ht] at hP1
              obtain ⟨lkq_20, rfl⟩ : ∃ z, z = u := ⟨_, rfl⟩
              obtain ⟨w_19, w_21, hR_22⟩ := hw
              try rw [← w_19] at hM
              try rw [← w_21] at hM
              obtain ⟨hP, hD⟩ := va_join (wr := cw_Main cI cZ cO amn apl abd alk atr mn lt ++ cw_Plan cI cZ cO apl pl ++ cw_Board cI cZ cO abd apl bd ++ cw_Trial cI cZ cO atr apl atb tr ++ cw_Board cI cZ cO atb apl tb) (w1 := cw_Locks cI cZ cO alk lkq_20) hP hD [25, 26, 27, 28] [0, 1, 2, 3, 4, 5, 6, 7, 8, 9, 10, 11, 12, 13, 14, 15, 16, 17, 18, 19, 20, 21, 22, 23, 24, 29, 30, 31, 32, 33, 34, 35, 36, 37, 38, 39, 40, 41, 42, 43, 44, 45, 46, 47, 48] rfl rfl (by decide) (by decide) hk1 hFc hP1 hD1
              have hP := hP.sub (ws' := cw_Main cI cZ cO amn apl abd alk atr mn lt ++ cw_Plan cI cZ cO apl pl ++ cw_Board cI cZ cO abd apl bd ++ cw_Locks cI cZ cO alk lkq_20 ++ cw_Trial cI cZ cO atr apl atb tr ++ cw_Board cI cZ cO atb apl tb) [0, 1, 2, 3, 4, 5, 6, 7, 8, 9, 10, 11, 12, 13, 14, 15, 16, 17, 18, 19, 20, 21, 22, 23, 24, 45, 46, 47, 48, 25, 26, 27, 28, 29, 30, 31, 32, 33, 34, 35, 36, 37, 38, 39, 40, 41, 42, 43, 44] rfl
              have hD := hD.sub (ws' := cw_Main cI cZ cO amn apl abd alk atr mn lt ++ cw_Plan cI cZ cO apl pl ++ cw_Board cI cZ cO abd apl bd ++ cw_Locks cI cZ cO alk lkq_20 ++ cw_Trial cI cZ cO atr apl atb tr ++ cw_Board cI cZ cO atb apl tb) [0, 1, 2, 3, 4, 5, 6, 7, 8, 9, 10, 11, 12, 13, 14, 15, 16, 17, 18, 19, 20, 21, 22, 23, 24, 45, 46, 47, 48, 25, 26, 27, 28, 29, 30, 31, 32, 33, 34, 35, 36, 37, 38, 39, 40, 41, 42, 43, 44] (by decide) rfl
              generalize H1 = H at hP hS ⊢
              refine lv_goto (tgt := 68) hx hb nd_Main_lock_55 (by decide) ?_
              exact W.iret (v := r_18) hx hb hr (fun t ht hW => ⟨⟨r_18, lkq_20, rfl, ⟨by rw [hT, ← hM], by rw [hT, ← hM], hR_22⟩, by rw [ht]; exact hP, va_K.moved hW.alike hK, hD⟩, hS.F ht⟩) hS.2.2 nd_Main_lock_68
          · have c_10t := cr_ne c_10
            rw [if_neg c_10] at hM
            refine lv_bipush (v := -3) hx hb nd_Main_lock_39 (by decide) ?_
            exact W.iret (v := (-3 : Int32)) hx hb hr (fun t ht hW => ⟨⟨(-3 : Int32), lk, rfl, ⟨by rw [hT, ← hM], by rw [hT, ← hM], hR_lk⟩, by rw [ht]; exact hP, va_K.moved hW.alike hK, hD⟩, hS.F ht⟩) hS.2.2 nd_Main_lock_41
        · have c_7t := cr_nle c_7
          rw [if_neg c_7] at hM
          refine lv_bipush (v := -2) hx hb nd_Main_lock_25 (by decide) ?_
          exact W.iret (v := (-2 : Int32)) hx hb hr (fun t ht hW => ⟨⟨(-2 : Int32), lk, rfl, ⟨by rw [hT, ← hM], by rw [hT, ← hM], hR_lk⟩, by rw [ht]; exact hP, va_K.moved hW.alike hK, hD⟩, hS.F ht⟩) hS.2.2 nd_Main_lock_27
  · have c_4t := cr_eq c_4
    rw [if_pos c_4] at hM
    refine lv_iconst (v := -1) hx hb nd_Main_lock_7 (by decide) ?_
    exact W.iret (v := (-1 : Int32)) hx hb hr (fun t ht hW => ⟨⟨(-1 : Int32), lk, rfl, ⟨by rw [hT, ← hM], by rw [hT, ← hM], hR_lk⟩, by rw [ht]; exact hP, va_K.moved hW.alike hK, hD⟩, hS.F ht⟩) hS.2.2 nd_Main_lock_8

theorem nd_Main_ring_0 : decode prog_1_method_11_code 0 = .ok (.iconst 1, 1) := by decide +kernel
theorem nd_Main_ring_1 : decode prog_1_method_11_code 1 = .ok (.istore_n 1, 1) := by decide +kernel
theorem nd_Main_ring_2 : decode prog_1_method_11_code 2 = .ok (.iload_n 1, 1) := by decide +kernel
theorem nd_Main_ring_3 : decode prog_1_method_11_code 3 = .ok (.iconst 3, 1) := by decide +kernel
theorem nd_Main_ring_4 : decode prog_1_method_11_code 4 = .ok (.if_icmp .gt (22), 3) := by decide +kernel
theorem nd_Main_ring_7 : decode prog_1_method_11_code 7 = .ok (.aload_n 0, 1) := by decide +kernel
theorem nd_Main_ring_8 : decode prog_1_method_11_code 8 = .ok (.getfield 28, 3) := by decide +kernel
theorem nd_Main_ring_11 : decode prog_1_method_11_code 11 = .ok (.iload_n 1, 1) := by decide +kernel
theorem nd_Main_ring_12 : decode prog_1_method_11_code 12 = .ok (.invokevirtual 127, 3) := by decide +kernel
theorem nd_Main_ring_15 : decode prog_1_method_11_code 15 = .ok (.ifCond .eq (5), 3) := by decide +kernel
theorem nd_Main_ring_18 : decode prog_1_method_11_code 18 = .ok (.iconst 1, 1) := by decide +kernel
theorem nd_Main_ring_19 : decode prog_1_method_11_code 19 = .ok (.ireturn, 1) := by decide +kernel
theorem nd_Main_ring_20 : decode prog_1_method_11_code 20 = .ok (.iinc 1 1, 3) := by decide +kernel
theorem nd_Main_ring_23 : decode prog_1_method_11_code 23 = .ok (.goto (-21), 3) := by decide +kernel
theorem nd_Main_ring_26 : decode prog_1_method_11_code 26 = .ok (.iconst 0, 1) := by decide +kernel
theorem nd_Main_ring_27 : decode prog_1_method_11_code 27 = .ok (.ireturn, 1) := by decide +kernel
def lo_Main_ring_2 (mn : cr_S) (lt : Int64) (pl : cr_S) (bd : cr_S) (lk : cr_S) (tr : cr_S) (tb : cr_S)  : Nat → Int32 → Int32
  | 0, _ => 0
  | n_2 + 1, v1_2 =>
    (if (3 : Int32) < v1_2 then (0 : Int32) else (if (md_Locks_waitsForItself lk v1_2) = 0 then (lo_Main_ring_2 mn lt pl bd lk tr tb n_2 (v1_2 + (1 : Int32))) else (1 : Int32)))
def md_Main_ring (mn : cr_S) (lt : Int64) (pl : cr_S) (bd : cr_S) (lk : cr_S) (tr : cr_S) (tb : cr_S) : Int32 :=
  (lo_Main_ring_2 mn lt pl bd lk tr tb 4 (1 : Int32))
abbrev pq_Main_ring (dC : Nat → ClassId) (dI : Nat → Nat → Nat) (cI cZ cO : ClassId) (amn apl abd alk atr atb : Nat → Nat) (mn : cr_S) (lt : Int64) (pl : cr_S) (bd : cr_S) (lk : cr_S) (tr : cr_S) (tb : cr_S)  (A : Nat → Prop) : Array Value → State → Outcome → State → Prop :=
  va_Qi (fun (r : Int32) (_ : Unit) => r = md_Main_ring mn lt pl bd lk tr tb) (fun (_ : Unit) t => va_P (dC, dI) vwCl (cw_Main cI cZ cO amn apl abd alk atr mn lt ++ cw_Plan cI cZ cO apl pl ++ cw_Board cI cZ cO abd apl bd ++ cw_Locks cI cZ cO alk lk ++ cw_Trial cI cZ cO atr apl atb tr ++ cw_Board cI cZ cO atb apl tb) t.heap ∧ va_K (dC, dI) vwCl [(cI, .int), (cZ, .boolean), (cO, .array .int)] t ∧ va_D A (cw_Main cI cZ cO amn apl abd alk atr mn lt ++ cw_Plan cI cZ cO apl pl ++ cw_Board cI cZ cO abd apl bd ++ cw_Locks cI cZ cO alk lk ++ cw_Trial cI cZ cO atr apl atb tr ++ cw_Board cI cZ cO atb apl tb)) A
set_option maxHeartbeats 4000000 in
set_option maxRecDepth 100000 in
theorem ct_Main_ring (l : Launch) (dC : Nat → ClassId) (dI : Nat → Nat → Nat) (cI cZ cO : ClassId) (amn apl abd alk atr atb : Nat → Nat) (sz : Nat) (mn : cr_S) (lt : Int64) (pl : cr_S) (bd : cr_S) (lk : cr_S) (tr : cr_S) (tb : cr_S)  (hR_tb : cr_RBoard tb) (hR_lk : cr_RLocks lk) (hR_bd : cr_RBoard bd) (hR_pl : cr_RPlan pl) : Met l ny_Main_ring nw_Main_ring ({ frames := 2, cells := 0, slots := 0, locals := 44 } : Room) (va_Pc [.ref (amn 0)] (fun U => U.heap.size = sz ∧ va_P (dC, dI) vwCl (cw_Main cI cZ cO amn apl abd alk atr mn lt ++ cw_Plan cI cZ cO apl pl ++ cw_Board cI cZ cO abd apl bd ++ cw_Locks cI cZ cO alk lk ++ cw_Trial cI cZ cO atr apl atb tr ++ cw_Board cI cZ cO atb apl tb) U.heap ∧ va_K (dC, dI) vwCl [(cI, .int), (cZ, .boolean), (cO, .array .int)] U ∧ va_D (fun _ => True) (cw_Main cI cZ cO amn apl abd alk atr mn lt ++ cw_Plan cI cZ cO apl pl ++ cw_Board cI cZ cO abd apl bd ++ cw_Locks cI cZ cO alk lk ++ cw_Trial cI cZ cO atr apl atb tr ++ cw_Board cI cZ cO atb apl tb))) (pq_Main_ring dC dI cI cZ cO amn apl abd alk atr atb mn lt pl bd lk tr tb  (va_A (cw_Main cI cZ cO amn apl abd alk atr mn lt ++ cw_Plan cI cZ cO apl pl ++ cw_Board cI cZ cO abd apl bd ++ cw_Locks cI cZ cO alk lk ++ cw_Trial cI cZ cO atr apl atb tr ++ cw_Board cI cZ cO atb apl tb) sz)) 0 0 (va_A (cw_Main cI cZ cO amn apl abd alk atr mn lt ++ cw_Plan cI cZ cO apl pl ++ cw_Board cI cZ cO abd apl bd ++ cw_Locks cI cZ cO alk lk ++ cw_Trial cI cZ cO atr apl atb tr ++ cw_Board cI cZ cO atb apl tb) sz) := by
  refine Met.ofW (cc := prog_1_method_11_code) (maxL := 2) (ret := (some .boolean)) (by decide) rfl ?_
  intro p e s m args below meth c s₁ B hml hv
  obtain ⟨rfl, hsz, hP, hK, hD0⟩ := hv
  have hx := B.exec
  have hb := B.bytes
  have hr := B.returns
  have hts0 := atoms_spec (ws := nw_Main_ring) B.pre
  have hts : ∀ w ∈ ng_tbl, w.before ([.ref (amn 0)] : List Value).toArray s = true := fun w h => hts0 w (List.mem_cons_of_mem _ h)
  have hown : s.vm.findClass "CeilingRows" = some m.cls := findClass_of_methodNamed B.named
  have hlocks := B.notSynchronized
  subst hsz
  have hD := hD0.self (sz := s.heap.size)
  generalize hAe : va_A (cw_Main cI cZ cO amn apl abd alk atr mn lt ++ cw_Plan cI cZ cO apl pl ++ cw_Board cI cZ cO abd apl bd ++ cw_Locks cI cZ cO alk lk ++ cw_Trial cI cZ cO atr apl atb tr ++ cw_Board cI cZ cO atb apl tb) s.heap.size = A at hD ⊢
  have hA : ∀ q : Nat, s.heap.size ≤ q → A q := fun q h => by rw [← hAe]; exact Or.inr h
  have hS : va_S A s.heap s.heap [] := va_S.rf
  have hP : va_P (dC, dI) vwCl (cw_Main cI cZ cO amn apl abd alk atr mn lt ++ cw_Plan cI cZ cO apl pl ++ cw_Board cI cZ cO abd apl bd ++ cw_Locks cI cZ cO alk lk ++ cw_Trial cI cZ cO atr apl atb tr ++ cw_Board cI cZ cO atb apl tb) s.heap := hP
  have hl := lv_entry ([.ref (amn 0)]) (n := 2) (Nat.le_of_ble_eq_true rfl)
  rw [lg_entry_eq]
  generalize (lg_sl ([.ref (amn 0)]) ++ List.replicate (2 - (lg_sl ([.ref (amn 0)])).length) Slot.unset).toArray = ls at hl ⊢
  have hl : lv_has ls 2 [(0, .ref (amn 0))] := hl
  have f0_pl_0 := cr_rfo hR_pl.1
  have f0_pl_1 := cr_rfo hR_pl.2.1
  have k_0 : (0 : Int32).toInt = 0 := by decide
  have k_1 : (1 : Int32).toInt = 1 := by decide
  have k_3 : (3 : Int32).toInt = 3 := by decide
  obtain ⟨tgt, hT⟩ : ∃ z, md_Main_ring mn lt pl bd lk tr tb = z := ⟨_, rfl⟩
  have hM := hT
  unfold md_Main_ring at hM
  refine lv_iconst (v := 1) hx hb nd_Main_ring_0 (by decide) ?_
  refine lv_istore_n (lv' := [(1, .int (1 : Int32)), (0, .ref (amn 0))]) hx hb nd_Main_ring_1 rfl hl (by decide) rfl (fun ls hl => ?_)
  have hl := lv_sub hl [1, 0] rfl
  have lp_2 : ∀ (n_2 : Nat) (v1_2 : Int32), (1 ≤ v1_2.toInt ∧ v1_2.toInt ≤ 4) → (4 < v1_2.toInt + (n_2 : Int)) → lo_Main_ring_2 mn lt pl bd lk tr tb n_2 v1_2 = tgt → ∀ (H : Heap) (locs : List Loc), va_P (dC, dI) vwCl (cw_Main cI cZ cO amn apl abd alk atr mn lt ++ cw_Plan cI cZ cO apl pl ++ cw_Board cI cZ cO abd apl bd ++ cw_Locks cI cZ cO alk lk ++ cw_Trial cI cZ cO atr apl atb tr ++ cw_Board cI cZ cO atb apl tb) H → va_D A (cw_Main cI cZ cO amn apl abd alk atr mn lt ++ cw_Plan cI cZ cO apl pl ++ cw_Board cI cZ cO abd apl bd ++ cw_Locks cI cZ cO alk lk ++ cw_Trial cI cZ cO atr apl atb tr ++ cw_Board cI cZ cO atb apl tb) → va_S A s.heap H locs → ∀ ls : Array Slot, lv_has ls 2 [(0, .ref (amn 0)), (1, .int v1_2)] → W p l e (headSpec nw_Main_ring ({ frames := 2, cells := 0, slots := 0, locals := 44 } : Room)).room s m ([.ref (amn 0)] : List Value).toArray below meth c H locs 0 0 (MQ below (pq_Main_ring dC dI cI cZ cO amn apl abd alk atr atb mn lt pl bd lk tr tb  A) ([.ref (amn 0)] : List Value).toArray s 0 0 A) (F0 m 2 ls []) := by
    intro n_2
    induction n_2 with
    | zero =>
      intro v1_2 hv1_2 hn_2
      exfalso; omega
    | succ n_2 ih_2 =>
      intro v1_2 hv1_2 hn_2 hM H locs hP hD hS ls hl
      have hn_2 : 4 < v1_2.toInt + ((n_2 : Int) + 1) := by omega
      rw [lo_Main_ring_2] at hM
      refine lv_iload_n hx hb nd_Main_ring_2 rfl (lv_at hl 1 rfl) ?_
      refine lv_iconst (v := 3) hx hb nd_Main_ring_3 (by decide) ?_
      refine lv_icmp_gt (tgt := 26) hx hb nd_Main_ring_4 (by decide) (fun c_1 => ?_) (fun c_1 => ?_)
      · have c_1t := cr_lt c_1
        rw [if_pos c_1] at hM
        refine lv_iconst (v := 0) hx hb nd_Main_ring_26 (by decide) ?_
        exact W.zret (v := (0 : Int32)) (ty := .boolean) hx hb hr (by decide) (fun t ht hW => ⟨⟨(0 : Int32), (), rfl, by rw [hT, ← hM], by rw [ht]; exact hP, va_K.moved hW.alike hK, hD⟩, hS.F ht⟩) hS.2.2 nd_Main_ring_27
      · have c_1t := cr_nlt c_1
        rw [if_neg c_1] at hM
        refine lv_aload_n hx hb nd_Main_ring_7 rfl (lv_at hl 0 rfl) ?_
        refine va_get (D := (dC, dI)) (ci := 4) (v := .ref (alk 0)) (C := "CeilingRows") (T := nf_Main) (N := 6) hx hb hts nin_Main hown hK hP 0 rfl rfl 2 (by decide) (hts _ tw_140) (fun _ h9 => h9) rfl nd_Main_ring_8 ?_
        refine lv_iload_n hx hb nd_Main_ring_11 rfl (lv_at hl 1 rfl) ?_
        have hPc := hP.sub (ws' := cw_Locks cI cZ cO alk lk) [25, 26, 27, 28] rfl
        have hDc := hD.sub (ws' := cw_Locks cI cZ cO alk lk) [25, 26, 27, 28] (by decide) rfl
        have hFc := va_free (wc := cw_Locks cI cZ cO alk lk) hD hS hA [25, 26, 27, 28] rfl
        refine va_calli (va_runV (As := [.int v1_2]) (rest := []) ⟨hx, hb, hml, hown, hts⟩ (ct_Locks_waitsForItself l dC dI cI cZ cO alk H.size lk v1_2 hR_lk (by omega)) (cwV 1 hts (ng_V tw_332 tw_333 tw_334 tw_4 tw_335) rfl rfl rfl (by decide +kernel) ⟨Nat.le_of_ble_eq_true rfl, Nat.le_of_ble_eq_true rfl⟩) ⟨fun a U g mk q => by obtain ⟨q0, q1, qP, qK, qD⟩ := q; exact ⟨q0, q1, qP, va_K.moved (u := U) (U := U.calling g mk a) (Vm.Alike.refl U.vm) qK, qD⟩, va_recv hK hPc (ci := 2) (q0 := 0) rfl rfl, fun U hU hW => ⟨rfl, by rw [hU], by rw [hU]; exact hPc, va_K.moved hW.alike hK, hDc.weaken (fun _ _ _ _ => trivial)⟩⟩ rfl rfl hl.1 rfl (lv_room (Nat.le_of_ble_eq_true rfl)) nd_Main_ring_12 ⟨Nat.zero_le _, Nat.zero_le _⟩) hS (fun q _ h => hFc q h) hFc (fun r_2 u t H1 locs ht hvm hw hB hz1 hk1 hS => ?_)
        obtain ⟨hP1, hK1, hD1⟩ := hB
        rw [ht] at hP1
        have w_3 := hw
        try rw [← w_3] at hM
        obtain ⟨hP, hD⟩ := va_join (wr := cw_Main cI cZ cO amn apl abd alk atr mn lt ++ cw_Plan cI cZ cO apl pl ++ cw_Board cI cZ cO abd apl bd ++ cw_Trial cI cZ cO atr apl atb tr ++ cw_Board cI cZ cO atb apl tb) (w1 := cw_Locks cI cZ cO alk lk) hP hD [25, 26, 27, 28] [0, 1, 2, 3, 4, 5, 6, 7, 8, 9, 10, 11, 12, 13, 14, 15, 16, 17, 18, 19, 20, 21, 22, 23, 24, 29, 30, 31, 32, 33, 34, 35, 36, 37, 38, 39, 40, 41, 42, 43, 44, 45, 46, 47, 48] rfl rfl (by decide) (by decide) hk1 hFc hP1 hD1
        have hP := hP.sub (ws' := cw_Main cI cZ cO amn apl abd alk atr mn lt ++ cw_Plan cI cZ cO apl pl ++ cw_Board cI cZ cO abd apl bd ++ cw_Locks cI cZ cO alk lk ++ cw_Trial cI cZ cO atr apl atb tr ++ cw_Board cI cZ cO atb apl tb) [0, 1, 2, 3, 4, 5, 6, 7, 8, 9, 10, 11, 12, 13, 14, 15, 16, 17, 18, 19, 20, 21, 22, 23, 24, 45, 46, 47, 48, 25, 26, 27, 28, 29, 30, 31, 32, 33, 34, 35, 36, 37, 38, 39, 40, 41, 42, 43, 44] rfl
        have hD := hD.sub (ws' := cw_Main cI cZ cO amn apl abd alk atr mn lt ++ cw_Plan cI cZ cO apl pl ++ cw_Board cI cZ cO abd apl bd ++ cw_Locks cI cZ cO alk lk ++ cw_Trial cI cZ cO atr apl atb tr ++ cw_Board cI cZ cO atb apl tb) [0, 1, 2, 3, 4, 5, 6, 7, 8, 9, 10, 11, 12, 13, 14, 15, 16, 17, 18, 19, 20, 21, 22, 23, 24, 45, 46, 47, 48, 25, 26, 27, 28, 29, 30, 31, 32, 33, 34, 35, 36, 37, 38, 39, 40, 41, 42, 43, 44] (by decide) rfl
        generalize H1 = H at hP hS ⊢
        refine lv_if_eq (tgt := 20) hx hb nd_Main_ring_15 (by decide) (fun c_4 => ?_) (fun c_4 => ?_)
        · have c_4t := cr_eq c_4
          rw [if_pos c_4] at hM
          have e_5 : (v1_2 + (1 : Int32)).toInt = v1_2.toInt + (1 : Int32).toInt := cr_add (by omega)
          refine lv_iinc (v := (v1_2 + (1 : Int32))) (lv' := [(1, .int (v1_2 + (1 : Int32))), (0, .ref (amn 0))]) hx hb nd_Main_ring_20 hl (k := 1) rfl (by rfl) (by decide) rfl (fun ls hl => ?_)
          refine lv_goto (tgt := 2) hx hb nd_Main_ring_23 (by decide) ?_
          exact ih_2 (v1_2 + (1 : Int32)) (by omega) (by omega) hM _ _ hP hD hS _ (lv_sub hl [1, 0] rfl)
        · have c_4t := cr_ne c_4
          rw [if_neg c_4] at hM
          refine lv_iconst (v := 1) hx hb nd_Main_ring_18 (by decide) ?_
          exact W.zret (v := (1 : Int32)) (ty := .boolean) hx hb hr (by decide) (fun t ht hW => ⟨⟨(1 : Int32), (), rfl, by rw [hT, ← hM], by rw [ht]; exact hP, va_K.moved hW.alike hK, hD⟩, hS.F ht⟩) hS.2.2 nd_Main_ring_19
  exact lp_2 4 (1 : Int32) (by omega) (by omega) hM _ _ hP hD hS _ hl

theorem nd_Main_lower_0 : decode prog_1_method_12_code 0 = .ok (.aload_n 0, 1) := by decide +kernel
theorem nd_Main_lower_1 : decode prog_1_method_12_code 1 = .ok (.getfield 12, 3) := by decide +kernel
theorem nd_Main_lower_4 : decode prog_1_method_12_code 4 = .ok (.iload_n 1, 1) := by decide +kernel
theorem nd_Main_lower_5 : decode prog_1_method_12_code 5 = .ok (.invokevirtual 66, 3) := by decide +kernel
theorem nd_Main_lower_8 : decode prog_1_method_12_code 8 = .ok (.ifCond .ne (5), 3) := by decide +kernel
theorem nd_Main_lower_11 : decode prog_1_method_12_code 11 = .ok (.iconst (-1), 1) := by decide +kernel
theorem nd_Main_lower_12 : decode prog_1_method_12_code 12 = .ok (.ireturn, 1) := by decide +kernel
theorem nd_Main_lower_13 : decode prog_1_method_12_code 13 = .ok (.iconst 0, 1) := by decide +kernel
theorem nd_Main_lower_14 : decode prog_1_method_12_code 14 = .ok (.istore_n 3, 1) := by decide +kernel
theorem nd_Main_lower_15 : decode prog_1_method_12_code 15 = .ok (.iconst 1, 1) := by decide +kernel
theorem nd_Main_lower_16 : decode prog_1_method_12_code 16 = .ok (.istore 4, 2) := by decide +kernel
theorem nd_Main_lower_18 : decode prog_1_method_12_code 18 = .ok (.iload 4, 2) := by decide +kernel
theorem nd_Main_lower_20 : decode prog_1_method_12_code 20 = .ok (.aload_n 0, 1) := by decide +kernel
theorem nd_Main_lower_21 : decode prog_1_method_12_code 21 = .ok (.getfield 12, 3) := by decide +kernel
theorem nd_Main_lower_24 : decode prog_1_method_12_code 24 = .ok (.getfield 51, 3) := by decide +kernel
theorem nd_Main_lower_27 : decode prog_1_method_12_code 27 = .ok (.if_icmp .gt (33), 3) := by decide +kernel
theorem nd_Main_lower_30 : decode prog_1_method_12_code 30 = .ok (.aload_n 0, 1) := by decide +kernel
theorem nd_Main_lower_31 : decode prog_1_method_12_code 31 = .ok (.getfield 12, 3) := by decide +kernel
theorem nd_Main_lower_34 : decode prog_1_method_12_code 34 = .ok (.iload_n 1, 1) := by decide +kernel
theorem nd_Main_lower_35 : decode prog_1_method_12_code 35 = .ok (.iload 4, 2) := by decide +kernel
theorem nd_Main_lower_37 : decode prog_1_method_12_code 37 = .ok (.invokevirtual 110, 3) := by decide +kernel
theorem nd_Main_lower_40 : decode prog_1_method_12_code 40 = .ok (.ifCond .le (14), 3) := by decide +kernel
theorem nd_Main_lower_43 : decode prog_1_method_12_code 43 = .ok (.iload_n 3, 1) := by decide +kernel
theorem nd_Main_lower_44 : decode prog_1_method_12_code 44 = .ok (.iload_n 2, 1) := by decide +kernel
theorem nd_Main_lower_45 : decode prog_1_method_12_code 45 = .ok (.if_icmp .ne (6), 3) := by decide +kernel
theorem nd_Main_lower_48 : decode prog_1_method_12_code 48 = .ok (.iload 4, 2) := by decide +kernel
theorem nd_Main_lower_50 : decode prog_1_method_12_code 50 = .ok (.ireturn, 1) := by decide +kernel
theorem nd_Main_lower_51 : decode prog_1_method_12_code 51 = .ok (.iinc 3 1, 3) := by decide +kernel
theorem nd_Main_lower_54 : decode prog_1_method_12_code 54 = .ok (.iinc 4 1, 3) := by decide +kernel
theorem nd_Main_lower_57 : decode prog_1_method_12_code 57 = .ok (.goto (-39), 3) := by decide +kernel
theorem nd_Main_lower_60 : decode prog_1_method_12_code 60 = .ok (.iconst 0, 1) := by decide +kernel
theorem nd_Main_lower_61 : decode prog_1_method_12_code 61 = .ok (.ireturn, 1) := by decide +kernel
def lo_Main_lower_18 (mn : cr_S) (lt : Int64) (pl : cr_S) (bd : cr_S) (lk : cr_S) (tr : cr_S) (tb : cr_S) (x1 : Int32) (x2 : Int32) : Nat → Int32 → Int32 → Int32
  | 0, _, _ => 0
  | n_18 + 1, v3_18, v4_18 =>
    (if (pl 0 0) < v4_18 then (0 : Int32) else (if (md_Plan_longestDelay pl x1 v4_18) ≤ 0 then (lo_Main_lower_18 mn lt pl bd lk tr tb x1 x2 n_18 v3_18 (v4_18 + (1 : Int32))) else (if v3_18 = x2 then v4_18 else (lo_Main_lower_18 mn lt pl bd lk tr tb x1 x2 n_18 (v3_18 + (1 : Int32)) (v4_18 + (1 : Int32))))))
def md_Main_lower (mn : cr_S) (lt : Int64) (pl : cr_S) (bd : cr_S) (lk : cr_S) (tr : cr_S) (tb : cr_S) (x1 : Int32) (x2 : Int32) : Int32 :=
  (if (md_Plan_hasTask pl x1) = 0 then (-1 : Int32) else (lo_Main_lower_18 mn lt pl bd lk tr tb x1 x2 11 (0 : Int32) (1 : Int32)))
abbrev pq_Main_lower (dC : Nat → ClassId) (dI : Nat → Nat → Nat) (cI cZ cO : ClassId) (amn apl abd alk atr atb : Nat → Nat) (mn : cr_S) (lt : Int64) (pl : cr_S) (bd : cr_S) (lk : cr_S) (tr : cr_S) (tb : cr_S) (x1 : Int32) (x2 : Int32) (A : Nat → Prop) : Array Value → State → Outcome → State → Prop :=
  va_Qi (fun (r : Int32) (_ : Unit) => r = md_Main_lower mn lt pl bd lk tr tb x1 x2) (fun (_ : Unit) t => va_P (dC, dI) vwCl (cw_Main cI cZ cO amn apl abd alk atr mn lt ++ cw_Plan cI cZ cO apl pl ++ cw_Board cI cZ cO abd apl bd ++ cw_Locks cI cZ cO alk lk ++ cw_Trial cI cZ cO atr apl atb tr ++ cw_Board cI cZ cO atb apl tb) t.heap ∧ va_K (dC, dI) vwCl [(cI, .int), (cZ, .boolean), (cO, .array .int)] t ∧ va_D A (cw_Main cI cZ cO amn apl abd alk atr mn lt ++ cw_Plan cI cZ cO apl pl ++ cw_Board cI cZ cO abd apl bd ++ cw_Locks cI cZ cO alk lk ++ cw_Trial cI cZ cO atr apl atb tr ++ cw_Board cI cZ cO atb apl tb)) A
set_option maxHeartbeats 4000000 in
set_option maxRecDepth 100000 in
theorem ct_Main_lower (l : Launch) (dC : Nat → ClassId) (dI : Nat → Nat → Nat) (cI cZ cO : ClassId) (amn apl abd alk atr atb : Nat → Nat) (sz : Nat) (mn : cr_S) (lt : Int64) (pl : cr_S) (bd : cr_S) (lk : cr_S) (tr : cr_S) (tb : cr_S) (x1 : Int32) (x2 : Int32) (hR_tb : cr_RBoard tb) (hR_lk : cr_RLocks lk) (hR_bd : cr_RBoard bd) (hR_pl : cr_RPlan pl) : Met l ny_Main_lower nw_Main_lower ({ frames := 2, cells := 0, slots := 0, locals := 46 } : Room) (va_Pc [.ref (amn 0), .int x1, .int x2] (fun U => U.heap.size = sz ∧ va_P (dC, dI) vwCl (cw_Main cI cZ cO amn apl abd alk atr mn lt ++ cw_Plan cI cZ cO apl pl ++ cw_Board cI cZ cO abd apl bd ++ cw_Locks cI cZ cO alk lk ++ cw_Trial cI cZ cO atr apl atb tr ++ cw_Board cI cZ cO atb apl tb) U.heap ∧ va_K (dC, dI) vwCl [(cI, .int), (cZ, .boolean), (cO, .array .int)] U ∧ va_D (fun _ => True) (cw_Main cI cZ cO amn apl abd alk atr mn lt ++ cw_Plan cI cZ cO apl pl ++ cw_Board cI cZ cO abd apl bd ++ cw_Locks cI cZ cO alk lk ++ cw_Trial cI cZ cO atr apl atb tr ++ cw_Board cI cZ cO atb apl tb))) (pq_Main_lower dC dI cI cZ cO amn apl abd alk atr atb mn lt pl bd lk tr tb x1 x2 (va_A (cw_Main cI cZ cO amn apl abd alk atr mn lt ++ cw_Plan cI cZ cO apl pl ++ cw_Board cI cZ cO abd apl bd ++ cw_Locks cI cZ cO alk lk ++ cw_Trial cI cZ cO atr apl atb tr ++ cw_Board cI cZ cO atb apl tb) sz)) 0 0 (va_A (cw_Main cI cZ cO amn apl abd alk atr mn lt ++ cw_Plan cI cZ cO apl pl ++ cw_Board cI cZ cO abd apl bd ++ cw_Locks cI cZ cO alk lk ++ cw_Trial cI cZ cO atr apl atb tr ++ cw_Board cI cZ cO atb apl tb) sz) := by
  refine Met.ofW (cc := prog_1_method_12_code) (maxL := 5) (ret := (some .int)) (by decide) rfl ?_
  intro p e s m args below meth c s₁ B hml hv
  obtain ⟨rfl, hsz, hP, hK, hD0⟩ := hv
  have hx := B.exec
  have hb := B.bytes
  have hr := B.returns
  have hts0 := atoms_spec (ws := nw_Main_lower) B.pre
  have hts : ∀ w ∈ ng_tbl, w.before ([.ref (amn 0), .int x1, .int x2] : List Value).toArray s = true := fun w h => hts0 w (List.mem_cons_of_mem _ h)
  have hown : s.vm.findClass "CeilingRows" = some m.cls := findClass_of_methodNamed B.named
  have hlocks := B.notSynchronized
  subst hsz
  have hD := hD0.self (sz := s.heap.size)
  generalize hAe : va_A (cw_Main cI cZ cO amn apl abd alk atr mn lt ++ cw_Plan cI cZ cO apl pl ++ cw_Board cI cZ cO abd apl bd ++ cw_Locks cI cZ cO alk lk ++ cw_Trial cI cZ cO atr apl atb tr ++ cw_Board cI cZ cO atb apl tb) s.heap.size = A at hD ⊢
  have hA : ∀ q : Nat, s.heap.size ≤ q → A q := fun q h => by rw [← hAe]; exact Or.inr h
  have hS : va_S A s.heap s.heap [] := va_S.rf
  have hP : va_P (dC, dI) vwCl (cw_Main cI cZ cO amn apl abd alk atr mn lt ++ cw_Plan cI cZ cO apl pl ++ cw_Board cI cZ cO abd apl bd ++ cw_Locks cI cZ cO alk lk ++ cw_Trial cI cZ cO atr apl atb tr ++ cw_Board cI cZ cO atb apl tb) s.heap := hP
  have hl := lv_entry ([.ref (amn 0), .int x1, .int x2]) (n := 5) (Nat.le_of_ble_eq_true rfl)
  rw [lg_entry_eq]
  generalize (lg_sl ([.ref (amn 0), .int x1, .int x2]) ++ List.replicate (5 - (lg_sl ([.ref (amn 0), .int x1, .int x2])).length) Slot.unset).toArray = ls at hl ⊢
  have hl : lv_has ls 5 [(0, .ref (amn 0)), (1, .int x1), (2, .int x2)] := hl
  have f0_pl_0 := cr_rfo hR_pl.1
  have f0_pl_1 := cr_rfo hR_pl.2.1
  have k_m1 : (-1 : Int32).toInt = -1 := by decide
  have k_0 : (0 : Int32).toInt = 0 := by decide
  have k_1 : (1 : Int32).toInt = 1 := by decide
  obtain ⟨tgt, hT⟩ : ∃ z, md_Main_lower mn lt pl bd lk tr tb x1 x2 = z := ⟨_, rfl⟩
  have hM := hT
  unfold md_Main_lower at hM
  refine lv_aload_n hx hb nd_Main_lower_0 rfl (lv_at hl 0 rfl) ?_
  refine va_get (D := (dC, dI)) (ci := 4) (v := .ref (apl 0)) (C := "CeilingRows") (T := nf_Main) (N := 6) hx hb hts nin_Main hown hK hP 0 rfl rfl 0 (by decide) (hts _ tw_138) (fun _ h9 => h9) rfl nd_Main_lower_1 ?_
  refine lv_iload_n hx hb nd_Main_lower_4 rfl (lv_at hl 1 rfl) ?_
  have hPc := hP.sub (ws' := cw_Plan cI cZ cO apl pl) [2, 3, 4, 5, 6, 7, 8, 9, 10, 11, 12, 13, 14, 15, 16, 17, 18] rfl
  have hDc := hD.sub (ws' := cw_Plan cI cZ cO apl pl) [2, 3, 4, 5, 6, 7, 8, 9, 10, 11, 12, 13, 14, 15, 16, 17, 18] (by decide) rfl
  have hFc := va_free (wc := cw_Plan cI cZ cO apl pl) hD hS hA [2, 3, 4, 5, 6, 7, 8, 9, 10, 11, 12, 13, 14, 15, 16, 17, 18] rfl
  refine va_calli (va_runV (As := [.int x1]) (rest := []) ⟨hx, hb, hml, hown, hts⟩ (ct_Plan_hasTask l dC dI cI cZ cO apl s.heap.size pl x1 hR_pl) (cwV 1 hts (ng_V tw_181 tw_182 tw_183 tw_2 tw_184) rfl rfl rfl (by decide +kernel) ⟨Nat.le_of_ble_eq_true rfl, Nat.le_of_ble_eq_true rfl⟩) ⟨fun a U g mk q => by obtain ⟨q0, q1, qP, qK, qD⟩ := q; exact ⟨q0, q1, qP, va_K.moved (u := U) (U := U.calling g mk a) (Vm.Alike.refl U.vm) qK, qD⟩, va_recv hK hPc (ci := 0) (q0 := 0) rfl rfl, fun U hU hW => ⟨rfl, by rw [hU], by rw [hU]; exact hPc, va_K.moved hW.alike hK, hDc.weaken (fun _ _ _ _ => trivial)⟩⟩ rfl rfl hl.1 rfl (lv_room (Nat.le_of_ble_eq_true rfl)) nd_Main_lower_5 ⟨Nat.zero_le _, Nat.zero_le _⟩) hS (fun q _ h => hFc q h) hFc (fun r_1 u t H1 locs ht hvm hw hB hz1 hk1 hS => ?_)
  obtain ⟨hP1, hK1, hD1⟩ := hB
  rw [ht] at hP1
  obtain ⟨w_2, f_3⟩ := hw
  try rw [← w_2] at hM
  obtain ⟨hP, hD⟩ := va_join (wr := cw_Main cI cZ cO amn apl abd alk atr mn lt ++ cw_Board cI cZ cO abd apl bd ++ cw_Locks cI cZ cO alk lk ++ cw_Trial cI cZ cO atr apl atb tr ++ cw_Board cI cZ cO atb apl tb) (w1 := cw_Plan cI cZ cO apl pl) hP hD [2, 3, 4, 5, 6, 7, 8, 9, 10, 11, 12, 13, 14, 15, 16, 17, 18] [0, 1, 19, 20, 21, 22, 23, 24, 25, 26, 27, 28, 29, 30, 31, 32, 33, 34, 35, 36, 37, 38, 39, 40, 41, 42, 43, 44, 45, 46, 47, 48] rfl rfl (by decide) (by decide) hk1 hFc hP1 hD1
  have hP := hP.sub (ws' := cw_Main cI cZ cO amn apl abd alk atr mn lt ++ cw_Plan cI cZ cO apl pl ++ cw_Board cI cZ cO abd apl bd ++ cw_Locks cI cZ cO alk lk ++ cw_Trial cI cZ cO atr apl atb tr ++ cw_Board cI cZ cO atb apl tb) [0, 1, 32, 33, 34, 35, 36, 37, 38, 39, 40, 41, 42, 43, 44, 45, 46, 47, 48, 2, 3, 4, 5, 6, 7, 8, 9, 10, 11, 12, 13, 14, 15, 16, 17, 18, 19, 20, 21, 22, 23, 24, 25, 26, 27, 28, 29, 30, 31] rfl
  have hD := hD.sub (ws' := cw_Main cI cZ cO amn apl abd alk atr mn lt ++ cw_Plan cI cZ cO apl pl ++ cw_Board cI cZ cO abd apl bd ++ cw_Locks cI cZ cO alk lk ++ cw_Trial cI cZ cO atr apl atb tr ++ cw_Board cI cZ cO atb apl tb) [0, 1, 32, 33, 34, 35, 36, 37, 38, 39, 40, 41, 42, 43, 44, 45, 46, 47, 48, 2, 3, 4, 5, 6, 7, 8, 9, 10, 11, 12, 13, 14, 15, 16, 17, 18, 19, 20, 21, 22, 23, 24, 25, 26, 27, 28, 29, 30, 31] (by decide) rfl
  generalize H1 = H at hP hS ⊢
  refine lv_if_ne (tgt := 13) hx hb nd_Main_lower_8 (by decide) (fun c_4 => ?_) (fun c_4 => ?_)
  · have c_4t := cr_ne c_4
    rw [if_neg c_4] at hM
    refine lv_iconst (v := 0) hx hb nd_Main_lower_13 (by decide) ?_
    refine lv_istore_n (lv' := [(3, .int (0 : Int32)), (0, .ref (amn 0)), (1, .int x1), (2, .int x2)]) hx hb nd_Main_lower_14 rfl hl (by decide) rfl (fun ls hl => ?_)
    refine lv_iconst (v := 1) hx hb nd_Main_lower_15 (by decide) ?_
    refine lv_istore (lv' := [(4, .int (1 : Int32)), (3, .int (0 : Int32)), (0, .ref (amn 0)), (1, .int x1), (2, .int x2)]) hx hb nd_Main_lower_16 hl (by decide) rfl (fun ls hl => ?_)
    have hl := lv_sub hl [2, 3, 4, 1, 0] rfl
    have lp_18 : ∀ (n_18 : Nat) (v3_18 : Int32) (v4_18 : Int32), (1 ≤ v4_18.toInt ∧ v4_18.toInt ≤ 11) → (11 < v4_18.toInt + (n_18 : Int)) → lo_Main_lower_18 mn lt pl bd lk tr tb x1 x2 n_18 v3_18 v4_18 = tgt → ∀ (H : Heap) (locs : List Loc), va_P (dC, dI) vwCl (cw_Main cI cZ cO amn apl abd alk atr mn lt ++ cw_Plan cI cZ cO apl pl ++ cw_Board cI cZ cO abd apl bd ++ cw_Locks cI cZ cO alk lk ++ cw_Trial cI cZ cO atr apl atb tr ++ cw_Board cI cZ cO atb apl tb) H → va_D A (cw_Main cI cZ cO amn apl abd alk atr mn lt ++ cw_Plan cI cZ cO apl pl ++ cw_Board cI cZ cO abd apl bd ++ cw_Locks cI cZ cO alk lk ++ cw_Trial cI cZ cO atr apl atb tr ++ cw_Board cI cZ cO atb apl tb) → va_S A s.heap H locs → ∀ ls : Array Slot, lv_has ls 5 [(0, .ref (amn 0)), (1, .int x1), (2, .int x2), (3, .int v3_18), (4, .int v4_18)] → W p l e (headSpec nw_Main_lower ({ frames := 2, cells := 0, slots := 0, locals := 46 } : Room)).room s m ([.ref (amn 0), .int x1, .int x2] : List Value).toArray below meth c H locs 0 0 (MQ below (pq_Main_lower dC dI cI cZ cO amn apl abd alk atr atb mn lt pl bd lk tr tb x1 x2 A) ([.ref (amn 0), .int x1, .int x2] : List Value).toArray s 0 0 A) (F0 m 18 ls []) := by
      intro n_18
      induction n_18 with
      | zero =>
        intro v3_18 v4_18 hv4_18 hn_18
        exfalso; omega
      | succ n_18 ih_18 =>
        intro v3_18 v4_18 hv4_18 hn_18 hM H locs hP hD hS ls hl
        have hn_18 : 11 < v4_18.toInt + ((n_18 : Int) + 1) := by omega
        rw [lo_Main_lower_18] at hM
        refine lv_iload hx hb nd_Main_lower_18 (lv_at hl 4 rfl) ?_
        refine lv_aload_n hx hb nd_Main_lower_20 rfl (lv_at hl 0 rfl) ?_
        refine va_get (D := (dC, dI)) (ci := 4) (v := .ref (apl 0)) (C := "CeilingRows") (T := nf_Main) (N := 6) hx hb hts nin_Main hown hK hP 0 rfl rfl 0 (by decide) (hts _ tw_138) (fun _ h9 => h9) rfl nd_Main_lower_21 ?_
        refine va_get (D := (dC, dI)) (ci := 0) (v := .int (pl 0 0)) (C := "CeilingRows$Plan") (T := nf_Plan) (N := 7) hx hb hts nin_Plan hown hK hP 2 rfl rfl 0 (by decide) (hts _ tw_28) (fun _ h9 => h9) rfl nd_Main_lower_24 ?_
        have f_5 := cr_rfo hR_pl.1
        refine lv_icmp_gt (tgt := 60) hx hb nd_Main_lower_27 (by decide) (fun c_6 => ?_) (fun c_6 => ?_)
        · have c_6t := cr_lt c_6
          rw [if_pos c_6] at hM
          refine lv_iconst (v := 0) hx hb nd_Main_lower_60 (by decide) ?_
          exact W.iret (v := (0 : Int32)) hx hb hr (fun t ht hW => ⟨⟨(0 : Int32), (), rfl, by rw [hT, ← hM], by rw [ht]; exact hP, va_K.moved hW.alike hK, hD⟩, hS.F ht⟩) hS.2.2 nd_Main_lower_61
        · have c_6t := cr_nlt c_6
          rw [if_neg c_6] at hM
          refine lv_aload_n hx hb nd_Main_lower_30 rfl (lv_at hl 0 rfl) ?_
          refine va_get (D := (dC, dI)) (ci := 4) (v := .ref (apl 0)) (C := "CeilingRows") (T := nf_Main) (N := 6) hx hb hts nin_Main hown hK hP 0 rfl rfl 0 (by decide) (hts _ tw_138) (fun _ h9 => h9) rfl nd_Main_lower_31 ?_
          refine lv_iload_n hx hb nd_Main_lower_34 rfl (lv_at hl 1 rfl) ?_
          refine lv_iload hx hb nd_Main_lower_35 (lv_at hl 4 rfl) ?_
          have hPc := hP.sub (ws' := cw_Plan cI cZ cO apl pl) [2, 3, 4, 5, 6, 7, 8, 9, 10, 11, 12, 13, 14, 15, 16, 17, 18] rfl
          have hDc := hD.sub (ws' := cw_Plan cI cZ cO apl pl) [2, 3, 4, 5, 6, 7, 8, 9, 10, 11, 12, 13, 14, 15, 16, 17, 18] (by decide) rfl
          have hFc := va_free (wc := cw_Plan cI cZ cO apl pl) hD hS hA [2, 3, 4, 5, 6, 7, 8, 9, 10, 11, 12, 13, 14, 15, 16, 17, 18] rfl
          refine va_calli (va_runV (As := [.int x1, .int v4_18]) (rest := []) ⟨hx, hb, hml, hown, hts⟩ (ct_Plan_longestDelay l dC dI cI cZ cO apl H.size pl x1 v4_18 hR_pl (by omega) (by omega)) (cwV 2 hts (ng_V tw_299 tw_300 tw_301 tw_2 tw_302) rfl rfl rfl (by decide +kernel) ⟨Nat.le_of_ble_eq_true rfl, Nat.le_of_ble_eq_true rfl⟩) ⟨fun a U g mk q => by obtain ⟨q0, q1, qP, qK, qD⟩ := q; exact ⟨q0, q1, qP, va_K.moved (u := U) (U := U.calling g mk a) (Vm.Alike.refl U.vm) qK, qD⟩, va_recv hK hPc (ci := 0) (q0 := 0) rfl rfl, fun U hU hW => ⟨rfl, by rw [hU], by rw [hU]; exact hPc, va_K.moved hW.alike hK, hDc.weaken (fun _ _ _ _ => trivial)⟩⟩ rfl rfl hl.1 rfl (lv_room (Nat.le_of_ble_eq_true rfl)) nd_Main_lower_37 ⟨Nat.zero_le _, Nat.zero_le _⟩) hS (fun q _ h => hFc q h) hFc (fun r_7 u t H1 locs ht hvm hw hB hz1 hk1 hS => ?_)
          obtain ⟨hP1, hK1, hD1⟩ := hB
          rw [ht] at hP1
          have w_8 := hw
          try rw [← w_8] at hM
          obtain ⟨hP, hD⟩ := va_join (wr := cw_Main cI cZ cO amn apl abd alk atr mn lt ++ cw_Board cI cZ cO abd apl bd ++ cw_Locks cI cZ cO alk lk ++ cw_Trial cI cZ cO atr apl atb tr ++ cw_Board cI cZ cO atb apl tb) (w1 := cw_Plan cI cZ cO apl pl) hP hD [2, 3, 4, 5, 6, 7, 8, 9, 10, 11, 12, 13, 14, 15, 16, 17, 18] [0, 1, 19, 20, 21, 22, 23, 24, 25, 26, 27, 28, 29, 30, 31, 32, 33, 34, 35, 36, 37, 38, 39, 40, 41, 42, 43, 44, 45, 46, 47, 48] rfl rfl (by decide) (by decide) hk1 hFc hP1 hD1
          have hP := hP.sub (ws' := cw_Main cI cZ cO amn apl abd alk atr mn lt ++ cw_Plan cI cZ cO apl pl ++ cw_Board cI cZ cO abd apl bd ++ cw_Locks cI cZ cO alk lk ++ cw_Trial cI cZ cO atr apl atb tr ++ cw_Board cI cZ cO atb apl tb) [0, 1, 32, 33, 34, 35, 36, 37, 38, 39, 40, 41, 42, 43, 44, 45, 46, 47, 48, 2, 3, 4, 5, 6, 7, 8, 9, 10, 11, 12, 13, 14, 15, 16, 17, 18, 19, 20, 21, 22, 23, 24, 25, 26, 27, 28, 29, 30, 31] rfl
          have hD := hD.sub (ws' := cw_Main cI cZ cO amn apl abd alk atr mn lt ++ cw_Plan cI cZ cO apl pl ++ cw_Board cI cZ cO abd apl bd ++ cw_Locks cI cZ cO alk lk ++ cw_Trial cI cZ cO atr apl atb tr ++ cw_Board cI cZ cO atb apl tb) [0, 1, 32, 33, 34, 35, 36, 37, 38, 39, 40, 41, 42, 43, 44, 45, 46, 47, 48, 2, 3, 4, 5, 6, 7, 8, 9, 10, 11, 12, 13, 14, 15, 16, 17, 18, 19, 20, 21, 22, 23, 24, 25, 26, 27, 28, 29, 30, 31] (by decide) rfl
          generalize H1 = H at hP hS ⊢
          refine lv_if_le (tgt := 54) hx hb nd_Main_lower_40 (by decide) (fun c_9 => ?_) (fun c_9 => ?_)
          · have c_9t := cr_le c_9
            rw [if_pos c_9] at hM
            have e_10 : (v4_18 + (1 : Int32)).toInt = v4_18.toInt + (1 : Int32).toInt := cr_add (by omega)
            refine lv_iinc (v := (v4_18 + (1 : Int32))) (lv' := [(4, .int (v4_18 + (1 : Int32))), (0, .ref (amn 0)), (1, .int x1), (2, .int x2), (3, .int v3_18)]) hx hb nd_Main_lower_54 hl (k := 4) rfl (by rfl) (by decide) rfl (fun ls hl => ?_)
            refine lv_goto (tgt := 18) hx hb nd_Main_lower_57 (by decide) ?_
            exact ih_18 v3_18 (v4_18 + (1 : Int32)) (by omega) (by omega) hM _ _ hP hD hS _ (lv_sub hl [1, 2, 3, 4, 0] rfl)
          · have c_9t := cr_nle c_9
            rw [if_neg c_9] at hM
            refine lv_iload_n hx hb nd_Main_lower_43 rfl (lv_at hl 3 rfl) ?_
            refine lv_iload_n hx hb nd_Main_lower_44 rfl (lv_at hl 2 rfl) ?_
            refine lv_icmp_ne (tgt := 51) hx hb nd_Main_lower_45 (by decide) (fun c_11 => ?_) (fun c_11 => ?_)
            · have c_11t := cr_ne c_11
              rw [if_neg c_11] at hM
              refine lv_iinc (v := (v3_18 + (1 : Int32))) (lv' := [(3, .int (v3_18 + (1 : Int32))), (0, .ref (amn 0)), (1, .int x1), (2, .int x2), (4, .int v4_18)]) hx hb nd_Main_lower_51 hl (k := 3) rfl (by rfl) (by decide) rfl (fun ls hl => ?_)
              have e_12 : (v4_18 + (1 : Int32)).toInt = v4_18.toInt + (1 : Int32).toInt := cr_add (by omega)
              refine lv_iinc (v := (v4_18 + (1 : Int32))) (lv' := [(4, .int (v4_18 + (1 : Int32))), (3, .int (v3_18 + (1 : Int32))), (0, .ref (amn 0)), (1, .int x1), (2, .int x2)]) hx hb nd_Main_lower_54 hl (k := 4) rfl (by rfl) (by decide) rfl (fun ls hl => ?_)
              refine lv_goto (tgt := 18) hx hb nd_Main_lower_57 (by decide) ?_
              exact ih_18 (v3_18 + (1 : Int32)) (v4_18 + (1 : Int32)) (by omega) (by omega) hM _ _ hP hD hS _ (lv_sub hl [2, 3, 4, 1, 0] rfl)
            · have c_11t := cr_eq c_11
              rw [if_pos c_11] at hM
              refine lv_iload hx hb nd_Main_lower_48 (lv_at hl 4 rfl) ?_
              exact W.iret (v := v4_18) hx hb hr (fun t ht hW => ⟨⟨v4_18, (), rfl, by rw [hT, ← hM], by rw [ht]; exact hP, va_K.moved hW.alike hK, hD⟩, hS.F ht⟩) hS.2.2 nd_Main_lower_50
    exact lp_18 11 (0 : Int32) (1 : Int32) (by omega) (by omega) hM _ _ hP hD hS _ hl
  · have c_4t := cr_eq c_4
    rw [if_pos c_4] at hM
    refine lv_iconst (v := -1) hx hb nd_Main_lower_11 (by decide) ?_
    exact W.iret (v := (-1 : Int32)) hx hb hr (fun t ht hW => ⟨⟨(-1 : Int32), (), rfl, by rw [hT, ← hM], by rw [ht]; exact hP, va_K.moved hW.alike hK, hD⟩, hS.F ht⟩) hS.2.2 nd_Main_lower_12

theorem nd_Main_plain_0 : decode prog_1_method_13_code 0 = .ok (.aload_n 0, 1) := by decide +kernel
theorem nd_Main_plain_1 : decode prog_1_method_13_code 1 = .ok (.getfield 35, 3) := by decide +kernel
theorem nd_Main_plain_4 : decode prog_1_method_13_code 4 = .ok (.lload_n 1, 1) := by decide +kernel
theorem nd_Main_plain_5 : decode prog_1_method_13_code 5 = .ok (.invokevirtual 130, 3) := by decide +kernel
theorem nd_Main_plain_8 : decode prog_1_method_13_code 8 = .ok (.ireturn, 1) := by decide +kernel
def md_Main_plain (mn : cr_S) (lt : Int64) (pl : cr_S) (bd : cr_S) (lk : cr_S) (tr : cr_S) (tb : cr_S) (x1 : Int64) : Int32 × cr_S × cr_S :=
  (((md_Trial_mostDelays pl tr tb x1).1), ((md_Trial_mostDelays pl tr tb x1).2.1), ((md_Trial_mostDelays pl tr tb x1).2.2))
abbrev pq_Main_plain (dC : Nat → ClassId) (dI : Nat → Nat → Nat) (cI cZ cO : ClassId) (amn apl abd alk atr atb : Nat → Nat) (mn : cr_S) (lt : Int64) (pl : cr_S) (bd : cr_S) (lk : cr_S) (tr : cr_S) (tb : cr_S) (x1 : Int64) (A : Nat → Prop) : Array Value → State → Outcome → State → Prop :=
  va_Qi (fun (r : Int32) (u : cr_S × cr_S) => r = (md_Main_plain mn lt pl bd lk tr tb x1).1 ∧ u.1 = (md_Main_plain mn lt pl bd lk tr tb x1).2.1 ∧ u.2 = (md_Main_plain mn lt pl bd lk tr tb x1).2.2 ∧ cr_RBoard u.2) (fun (u : cr_S × cr_S) t => va_P (dC, dI) vwCl (cw_Main cI cZ cO amn apl abd alk atr mn lt ++ cw_Plan cI cZ cO apl pl ++ cw_Board cI cZ cO abd apl bd ++ cw_Locks cI cZ cO alk lk ++ cw_Trial cI cZ cO atr apl atb u.1 ++ cw_Board cI cZ cO atb apl u.2) t.heap ∧ va_K (dC, dI) vwCl [(cI, .int), (cZ, .boolean), (cO, .array .int)] t ∧ va_D A (cw_Main cI cZ cO amn apl abd alk atr mn lt ++ cw_Plan cI cZ cO apl pl ++ cw_Board cI cZ cO abd apl bd ++ cw_Locks cI cZ cO alk lk ++ cw_Trial cI cZ cO atr apl atb u.1 ++ cw_Board cI cZ cO atb apl u.2)) A
set_option maxHeartbeats 4000000 in
set_option maxRecDepth 100000 in
theorem ct_Main_plain (l : Launch) (dC : Nat → ClassId) (dI : Nat → Nat → Nat) (cI cZ cO : ClassId) (amn apl abd alk atr atb : Nat → Nat) (sz : Nat) (mn : cr_S) (lt : Int64) (pl : cr_S) (bd : cr_S) (lk : cr_S) (tr : cr_S) (tb : cr_S) (x1 : Int64) (hR_tb : cr_RBoard tb) (hR_lk : cr_RLocks lk) (hR_bd : cr_RBoard bd) (hR_pl : cr_RPlan pl) : Met l ny_Main_plain nw_Main_plain ({ frames := 5, cells := 0, slots := 0, locals := 115 } : Room) (va_Pc [.ref (amn 0), .long x1] (fun U => U.heap.size = sz ∧ va_P (dC, dI) vwCl (cw_Main cI cZ cO amn apl abd alk atr mn lt ++ cw_Plan cI cZ cO apl pl ++ cw_Board cI cZ cO abd apl bd ++ cw_Locks cI cZ cO alk lk ++ cw_Trial cI cZ cO atr apl atb tr ++ cw_Board cI cZ cO atb apl tb) U.heap ∧ va_K (dC, dI) vwCl [(cI, .int), (cZ, .boolean), (cO, .array .int)] U ∧ va_D (fun _ => True) (cw_Main cI cZ cO amn apl abd alk atr mn lt ++ cw_Plan cI cZ cO apl pl ++ cw_Board cI cZ cO abd apl bd ++ cw_Locks cI cZ cO alk lk ++ cw_Trial cI cZ cO atr apl atb tr ++ cw_Board cI cZ cO atb apl tb))) (pq_Main_plain dC dI cI cZ cO amn apl abd alk atr atb mn lt pl bd lk tr tb x1 (va_A (cw_Main cI cZ cO amn apl abd alk atr mn lt ++ cw_Plan cI cZ cO apl pl ++ cw_Board cI cZ cO abd apl bd ++ cw_Locks cI cZ cO alk lk ++ cw_Trial cI cZ cO atr apl atb tr ++ cw_Board cI cZ cO atb apl tb) sz)) 0 0 (va_A (cw_Main cI cZ cO amn apl abd alk atr mn lt ++ cw_Plan cI cZ cO apl pl ++ cw_Board cI cZ cO abd apl bd ++ cw_Locks cI cZ cO alk lk ++ cw_Trial cI cZ cO atr apl atb tr ++ cw_Board cI cZ cO atb apl tb) sz) := by
  refine Met.ofW (cc := prog_1_method_13_code) (maxL := 3) (ret := (some .int)) (by decide) rfl ?_
  intro p e s m args below meth c s₁ B hml hv
  obtain ⟨rfl, hsz, hP, hK, hD0⟩ := hv
  have hx := B.exec
  have hb := B.bytes
  have hr := B.returns
  have hts0 := atoms_spec (ws := nw_Main_plain) B.pre
  have hts : ∀ w ∈ ng_tbl, w.before ([.ref (amn 0), .long x1] : List Value).toArray s = true := fun w h => hts0 w (List.mem_cons_of_mem _ h)
  have hown : s.vm.findClass "CeilingRows" = some m.cls := findClass_of_methodNamed B.named
  have hlocks := B.notSynchronized
  subst hsz
  have hD := hD0.self (sz := s.heap.size)
  generalize hAe : va_A (cw_Main cI cZ cO amn apl abd alk atr mn lt ++ cw_Plan cI cZ cO apl pl ++ cw_Board cI cZ cO abd apl bd ++ cw_Locks cI cZ cO alk lk ++ cw_Trial cI cZ cO atr apl atb tr ++ cw_Board cI cZ cO atb apl tb) s.heap.size = A at hD ⊢
  have hA : ∀ q : Nat, s.heap.size ≤ q → A q := fun q h => by rw [← hAe]; exact Or.inr h
  have hS : va_S A s.heap s.heap [] := va_S.rf
  have hP : va_P (dC, dI) vwCl (cw_Main cI cZ cO amn apl abd alk atr mn lt ++ cw_Plan cI cZ cO apl pl ++ cw_Board cI cZ cO abd apl bd ++ cw_Locks cI cZ cO alk lk ++ cw_Trial cI cZ cO atr apl atb tr ++ cw_Board cI cZ cO atb apl tb) s.heap := hP
  have hl := lv_entry ([.ref (amn 0), .long x1]) (n := 3) (Nat.le_of_ble_eq_true rfl)
  rw [lg_entry_eq]
  generalize (lg_sl ([.ref (amn 0), .long x1]) ++ List.replicate (3 - (lg_sl ([.ref (amn 0), .long x1])).length) Slot.unset).toArray = ls at hl ⊢
  have hl : lv_has ls 3 [(0, .ref (amn 0)), (1, .long x1)] := hl
  have f0_pl_0 := cr_rfo hR_pl.1
  have f0_pl_1 := cr_rfo hR_pl.2.1
  obtain ⟨tgt, hT⟩ : ∃ z, md_Main_plain mn lt pl bd lk tr tb x1 = z := ⟨_, rfl⟩
  have hM := hT
  unfold md_Main_plain at hM
  refine lv_aload_n hx hb nd_Main_plain_0 rfl (lv_at hl 0 rfl) ?_
  refine va_get (D := (dC, dI)) (ci := 4) (v := .ref (atr 0)) (C := "CeilingRows") (T := nf_Main) (N := 6) hx hb hts nin_Main hown hK hP 0 rfl rfl 3 (by decide) (hts _ tw_141) (fun _ h9 => h9) rfl nd_Main_plain_1 ?_
  refine lv_lload_n hx hb nd_Main_plain_4 rfl (lv_at hl 1 rfl) ?_
  have hPc := hP.sub (ws' := cw_Plan cI cZ cO apl pl ++ cw_Trial cI cZ cO atr apl atb tr ++ cw_Board cI cZ cO atb apl tb) [2, 3, 4, 5, 6, 7, 8, 9, 10, 11, 12, 13, 14, 15, 16, 17, 18, 29, 30, 31, 32, 33, 34, 35, 36, 37, 38, 39, 40, 41, 42, 43, 44, 45, 46, 47, 48] rfl
  have hDc := hD.sub (ws' := cw_Plan cI cZ cO apl pl ++ cw_Trial cI cZ cO atr apl atb tr ++ cw_Board cI cZ cO atb apl tb) [2, 3, 4, 5, 6, 7, 8, 9, 10, 11, 12, 13, 14, 15, 16, 17, 18, 29, 30, 31, 32, 33, 34, 35, 36, 37, 38, 39, 40, 41, 42, 43, 44, 45, 46, 47, 48] (by decide) rfl
  have hFc := va_free (wc := cw_Plan cI cZ cO apl pl ++ cw_Trial cI cZ cO atr apl atb tr ++ cw_Board cI cZ cO atb apl tb) hD hS hA [2, 3, 4, 5, 6, 7, 8, 9, 10, 11, 12, 13, 14, 15, 16, 17, 18, 29, 30, 31, 32, 33, 34, 35, 36, 37, 38, 39, 40, 41, 42, 43, 44, 45, 46, 47, 48] rfl
  refine va_calli (va_runV (As := [.long x1]) (rest := []) ⟨hx, hb, hml, hown, hts⟩ (ct_Trial_mostDelays l dC dI cI cZ cO apl atr atb s.heap.size pl tr tb x1 hR_tb hR_pl) (cwV 1 hts (ng_V tw_345 tw_346 tw_347 tw_5 tw_348) rfl rfl rfl (by decide +kernel) ⟨Nat.le_of_ble_eq_true rfl, Nat.le_of_ble_eq_true rfl⟩) ⟨fun a U g mk q => by obtain ⟨q0, q1, qP, qK, qD⟩ := q; exact ⟨q0, q1, qP, va_K.moved (u := U) (U := U.calling g mk a) (Vm.Alike.refl U.vm) qK, qD⟩, va_recv hK hPc (ci := 3) (q0 := 17) rfl rfl, fun U hU hW => ⟨rfl, by rw [hU], by rw [hU]; exact hPc, va_K.moved hW.alike hK, hDc.weaken (fun _ _ _ _ => trivial)⟩⟩ rfl rfl hl.1 rfl (lv_room (Nat.le_of_ble_eq_true rfl)) nd_Main_plain_5 ⟨Nat.zero_le _, Nat.zero_le _⟩) hS (fun q _ h => hFc q h) hFc (fun r_1 u t H1 locs ht hvm hw hB hz1 hk1 hS => ?_)
  obtain ⟨hP1, hK1, hD1⟩ := hB
  rw [ht] at hP1
  obtain ⟨trq_3, tbq_5⟩ := u
  dsimp only at hw hP1 hD1
  obtain ⟨w_2, w_4, w_6, hR_7⟩ := hw
  try rw [← w_2] at hM
  try rw [← w_4] at hM
  try rw [← w_6] at hM
  obtain ⟨hP, hD⟩ := va_join (wr := cw_Main cI cZ cO amn apl abd alk atr mn lt ++ cw_Board cI cZ cO abd apl bd ++ cw_Locks cI cZ cO alk lk) (w1 := cw_Plan cI cZ cO apl pl ++ cw_Trial cI cZ cO atr apl atb trq_3 ++ cw_Board cI cZ cO atb apl tbq_5) hP hD [2, 3, 4, 5, 6, 7, 8, 9, 10, 11, 12, 13, 14, 15, 16, 17, 18, 29, 30, 31, 32, 33, 34, 35, 36, 37, 38, 39, 40, 41, 42, 43, 44, 45, 46, 47, 48] [0, 1, 19, 20, 21, 22, 23, 24, 25, 26, 27, 28] rfl rfl (by decide) (by decide) hk1 hFc hP1 hD1
  have hP := hP.sub (ws' := cw_Main cI cZ cO amn apl abd alk atr mn lt ++ cw_Plan cI cZ cO apl pl ++ cw_Board cI cZ cO abd apl bd ++ cw_Locks cI cZ cO alk lk ++ cw_Trial cI cZ cO atr apl atb trq_3 ++ cw_Board cI cZ cO atb apl tbq_5) [0, 1, 12, 13, 14, 15, 16, 17, 18, 19, 20, 21, 22, 23, 24, 25, 26, 27, 28, 2, 3, 4, 5, 6, 7, 8, 9, 10, 11, 29, 30, 31, 32, 33, 34, 35, 36, 37, 38, 39, 40, 41, 42, 43, 44, 45, 46, 47, 48] rfl
  have hD := hD.sub (ws' := cw_Main cI cZ cO amn apl abd alk atr mn lt ++ cw_Plan cI cZ cO apl pl ++ cw_Board cI cZ cO abd apl bd ++ cw_Locks cI cZ cO alk lk ++ cw_Trial cI cZ cO atr apl atb trq_3 ++ cw_Board cI cZ cO atb apl tbq_5) [0, 1, 12, 13, 14, 15, 16, 17, 18, 19, 20, 21, 22, 23, 24, 25, 26, 27, 28, 2, 3, 4, 5, 6, 7, 8, 9, 10, 11, 29, 30, 31, 32, 33, 34, 35, 36, 37, 38, 39, 40, 41, 42, 43, 44, 45, 46, 47, 48] (by decide) rfl
  generalize H1 = H at hP hS ⊢
  exact W.iret (v := r_1) hx hb hr (fun t ht hW => ⟨⟨r_1, (trq_3, tbq_5), rfl, ⟨by rw [hT, ← hM], by rw [hT, ← hM], by rw [hT, ← hM], hR_7⟩, by rw [ht]; exact hP, va_K.moved hW.alike hK, hD⟩, hS.F ht⟩) hS.2.2 nd_Main_plain_8
end
