section
-- ===== PART A: goes FIRST, ahead of the names: the tables' words, and 'selects' of the private methods out of them =====
/-- a private method of a class that the tables say can be made, by its rows of tables_1 -/
def lw_okq (q : MethodName × Nat) : Prop := (q.1.cls ≠ "java/lang/invoke/MethodHandle" ∧ q.1.cls ≠ "java/lang/invoke/VarHandle") ∧ Cond.instantiable q.1.cls q.2 ∈ tables_1 ∧ Cond.privateMethod q.1 ∈ tables_1 ∧ Cond.instanceMethod q.1 ∈ tables_1
theorem lw_p0 : lw_okq (⟨"CeilingRows", "perform", "(III)I"⟩, 6) := ⟨⟨by decide +kernel, by decide +kernel⟩, List.mem_of_getElem? (i := 11) (by decide +kernel), List.mem_of_getElem? (i := 219) (by decide +kernel), List.mem_of_getElem? (i := 220) (by decide +kernel)⟩
theorem lw_p1 : lw_okq (⟨"CeilingRows", "startTask", "(I)I"⟩, 6) := ⟨⟨by decide +kernel, by decide +kernel⟩, List.mem_of_getElem? (i := 11) (by decide +kernel), List.mem_of_getElem? (i := 223) (by decide +kernel), List.mem_of_getElem? (i := 224) (by decide +kernel)⟩
theorem lw_p2 : lw_okq (⟨"CeilingRows", "runs", "(I)Z"⟩, 6) := ⟨⟨by decide +kernel, by decide +kernel⟩, List.mem_of_getElem? (i := 11) (by decide +kernel), List.mem_of_getElem? (i := 231) (by decide +kernel), List.mem_of_getElem? (i := 232) (by decide +kernel)⟩
theorem lw_p3 : lw_okq (⟨"CeilingRows", "sendEvent", "(I)I"⟩, 6) := ⟨⟨by decide +kernel, by decide +kernel⟩, List.mem_of_getElem? (i := 11) (by decide +kernel), List.mem_of_getElem? (i := 248) (by decide +kernel), List.mem_of_getElem? (i := 249) (by decide +kernel)⟩
theorem lw_p4 : lw_okq (⟨"CeilingRows", "takeResource", "(II)I"⟩, 6) := ⟨⟨by decide +kernel, by decide +kernel⟩, List.mem_of_getElem? (i := 11) (by decide +kernel), List.mem_of_getElem? (i := 252) (by decide +kernel), List.mem_of_getElem? (i := 253) (by decide +kernel)⟩
theorem lw_p5 : lw_okq (⟨"CeilingRows", "giveBackResource", "(II)I"⟩, 6) := ⟨⟨by decide +kernel, by decide +kernel⟩, List.mem_of_getElem? (i := 11) (by decide +kernel), List.mem_of_getElem? (i := 260) (by decide +kernel), List.mem_of_getElem? (i := 261) (by decide +kernel)⟩
theorem lw_p6 : lw_okq (⟨"CeilingRows", "endTask", "(I)I"⟩, 6) := ⟨⟨by decide +kernel, by decide +kernel⟩, List.mem_of_getElem? (i := 11) (by decide +kernel), List.mem_of_getElem? (i := 268) (by decide +kernel), List.mem_of_getElem? (i := 269) (by decide +kernel)⟩
theorem lw_p7 : lw_okq (⟨"CeilingRows", "waitForEvent", "(I)I"⟩, 6) := ⟨⟨by decide +kernel, by decide +kernel⟩, List.mem_of_getElem? (i := 11) (by decide +kernel), List.mem_of_getElem? (i := 282) (by decide +kernel), List.mem_of_getElem? (i := 283) (by decide +kernel)⟩
theorem lw_p8 : lw_okq (⟨"CeilingRows$Locks", "lastTakenBy", "(I)I"⟩, 4) := ⟨⟨by decide +kernel, by decide +kernel⟩, List.mem_of_getElem? (i := 95) (by decide +kernel), List.mem_of_getElem? (i := 317) (by decide +kernel), List.mem_of_getElem? (i := 318) (by decide +kernel)⟩
theorem lw_p9 : lw_okq (⟨"CeilingRows$Locks", "longestSpinnerFor", "(I)I"⟩, 4) := ⟨⟨by decide +kernel, by decide +kernel⟩, List.mem_of_getElem? (i := 95) (by decide +kernel), List.mem_of_getElem? (i := 325) (by decide +kernel), List.mem_of_getElem? (i := 326) (by decide +kernel)⟩
theorem lw_p10 : lw_okq (⟨"CeilingRows$Trial", "clear", "()V"⟩, 5) := ⟨⟨by decide +kernel, by decide +kernel⟩, List.mem_of_getElem? (i := 114) (by decide +kernel), List.mem_of_getElem? (i := 350) (by decide +kernel), List.mem_of_getElem? (i := 351) (by decide +kernel)⟩
theorem lw_p11 : lw_okq (⟨"CeilingRows$Trial", "startThoseDue", "(JI)V"⟩, 5) := ⟨⟨by decide +kernel, by decide +kernel⟩, List.mem_of_getElem? (i := 114) (by decide +kernel), List.mem_of_getElem? (i := 362) (by decide +kernel), List.mem_of_getElem? (i := 363) (by decide +kernel)⟩
theorem lw_p12 : lw_okq (⟨"CeilingRows$Trial", "haveTick", "(I)V"⟩, 5) := ⟨⟨by decide +kernel, by decide +kernel⟩, List.mem_of_getElem? (i := 114) (by decide +kernel), List.mem_of_getElem? (i := 369) (by decide +kernel), List.mem_of_getElem? (i := 370) (by decide +kernel)⟩
theorem lw_p13 : lw_okq (⟨"CeilingRows$Trial", "resourceAt", "(II)I"⟩, 5) := ⟨⟨by decide +kernel, by decide +kernel⟩, List.mem_of_getElem? (i := 114) (by decide +kernel), List.mem_of_getElem? (i := 373) (by decide +kernel), List.mem_of_getElem? (i := 374) (by decide +kernel)⟩
theorem lw_p14 : lw_okq (⟨"CeilingRows$Trial", "ticksWith", "(II)I"⟩, 5) := ⟨⟨by decide +kernel, by decide +kernel⟩, List.mem_of_getElem? (i := 114) (by decide +kernel), List.mem_of_getElem? (i := 378) (by decide +kernel), List.mem_of_getElem? (i := 379) (by decide +kernel)⟩
theorem lw_p15 : lw_okq (⟨"CeilingRows$Trial", "noteDelays", "(II)V"⟩, 5) := ⟨⟨by decide +kernel, by decide +kernel⟩, List.mem_of_getElem? (i := 114) (by decide +kernel), List.mem_of_getElem? (i := 386) (by decide +kernel), List.mem_of_getElem? (i := 387) (by decide +kernel)⟩
def lw_privs_1 : List (MethodName × Nat) := [(⟨"CeilingRows", "perform", "(III)I"⟩, 6), (⟨"CeilingRows", "startTask", "(I)I"⟩, 6), (⟨"CeilingRows", "runs", "(I)Z"⟩, 6), (⟨"CeilingRows", "sendEvent", "(I)I"⟩, 6), (⟨"CeilingRows", "takeResource", "(II)I"⟩, 6), (⟨"CeilingRows", "giveBackResource", "(II)I"⟩, 6), (⟨"CeilingRows", "endTask", "(I)I"⟩, 6), (⟨"CeilingRows", "waitForEvent", "(I)I"⟩, 6), (⟨"CeilingRows$Locks", "lastTakenBy", "(I)I"⟩, 4), (⟨"CeilingRows$Locks", "longestSpinnerFor", "(I)I"⟩, 4), (⟨"CeilingRows$Trial", "clear", "()V"⟩, 5), (⟨"CeilingRows$Trial", "startThoseDue", "(JI)V"⟩, 5), (⟨"CeilingRows$Trial", "haveTick", "(I)V"⟩, 5), (⟨"CeilingRows$Trial", "resourceAt", "(II)I"⟩, 5), (⟨"CeilingRows$Trial", "ticksWith", "(II)I"⟩, 5), (⟨"CeilingRows$Trial", "noteDelays", "(II)V"⟩, 5)]
theorem lw_r1 : ∀ q ∈ lw_privs_1, lw_okq q := List.forall_mem_cons.mpr ⟨lw_p0, List.forall_mem_cons.mpr ⟨lw_p1, List.forall_mem_cons.mpr ⟨lw_p2, List.forall_mem_cons.mpr ⟨lw_p3, List.forall_mem_cons.mpr ⟨lw_p4, List.forall_mem_cons.mpr ⟨lw_p5, List.forall_mem_cons.mpr ⟨lw_p6, List.forall_mem_cons.mpr ⟨lw_p7, List.forall_mem_cons.mpr ⟨lw_p8, List.forall_mem_cons.mpr ⟨lw_p9, List.forall_mem_cons.mpr ⟨lw_p10, List.forall_mem_cons.mpr ⟨lw_p11, List.forall_mem_cons.mpr ⟨lw_p12, List.forall_mem_cons.mpr ⟨lw_p13, List.forall_mem_cons.mpr ⟨lw_p14, List.forall_mem_cons.mpr ⟨lw_p15, fun _ h => absurd h List.not_mem_nil⟩⟩⟩⟩⟩⟩⟩⟩⟩⟩⟩⟩⟩⟩⟩⟩
theorem lw_p16 : lw_okq (⟨"CeilingRows$Trial", "ticksOf", "(I)I"⟩, 5) := ⟨⟨by decide +kernel, by decide +kernel⟩, List.mem_of_getElem? (i := 114) (by decide +kernel), List.mem_of_getElem? (i := 392) (by decide +kernel), List.mem_of_getElem? (i := 393) (by decide +kernel)⟩
theorem lw_p17 : lw_okq (⟨"CeilingRows$Trial", "countDelays", "(I)I"⟩, 5) := ⟨⟨by decide +kernel, by decide +kernel⟩, List.mem_of_getElem? (i := 114) (by decide +kernel), List.mem_of_getElem? (i := 397) (by decide +kernel), List.mem_of_getElem? (i := 398) (by decide +kernel)⟩
theorem lw_p18 : lw_okq (⟨"CeilingRowsModel", "isTask", "(I)Z"⟩, 22) := ⟨⟨by decide +kernel, by decide +kernel⟩, List.mem_of_getElem? (i := 408) (by decide +kernel), List.mem_of_getElem? (i := 494) (by decide +kernel), List.mem_of_getElem? (i := 495) (by decide +kernel)⟩
theorem lw_p19 : lw_okq (⟨"CeilingRowsModel", "isResource", "(I)Z"⟩, 22) := ⟨⟨by decide +kernel, by decide +kernel⟩, List.mem_of_getElem? (i := 408) (by decide +kernel), List.mem_of_getElem? (i := 498) (by decide +kernel), List.mem_of_getElem? (i := 499) (by decide +kernel)⟩
theorem lw_p20 : lw_okq (⟨"CeilingRowsModel", "ceilingOf", "(I)I"⟩, 22) := ⟨⟨by decide +kernel, by decide +kernel⟩, List.mem_of_getElem? (i := 408) (by decide +kernel), List.mem_of_getElem? (i := 507) (by decide +kernel), List.mem_of_getElem? (i := 508) (by decide +kernel)⟩
theorem lw_p21 : lw_okq (⟨"CeilingRowsModel", "acts", "(III)I"⟩, 22) := ⟨⟨by decide +kernel, by decide +kernel⟩, List.mem_of_getElem? (i := 408) (by decide +kernel), List.mem_of_getElem? (i := 516) (by decide +kernel), List.mem_of_getElem? (i := 517) (by decide +kernel)⟩
theorem lw_p22 : lw_okq (⟨"CeilingRowsModel", "ready", "(I)V"⟩, 22) := ⟨⟨by decide +kernel, by decide +kernel⟩, List.mem_of_getElem? (i := 408) (by decide +kernel), List.mem_of_getElem? (i := 520) (by decide +kernel), List.mem_of_getElem? (i := 521) (by decide +kernel)⟩
theorem lw_p23 : lw_okq (⟨"CeilingRowsModel", "runs", "(I)Z"⟩, 22) := ⟨⟨by decide +kernel, by decide +kernel⟩, List.mem_of_getElem? (i := 408) (by decide +kernel), List.mem_of_getElem? (i := 524) (by decide +kernel), List.mem_of_getElem? (i := 525) (by decide +kernel)⟩
theorem lw_p24 : lw_okq (⟨"CeilingRowsModel", "running", "(I)I"⟩, 22) := ⟨⟨by decide +kernel, by decide +kernel⟩, List.mem_of_getElem? (i := 408) (by decide +kernel), List.mem_of_getElem? (i := 528) (by decide +kernel), List.mem_of_getElem? (i := 529) (by decide +kernel)⟩
theorem lw_p25 : lw_okq (⟨"CeilingRowsModel", "rankNow", "(I)I"⟩, 22) := ⟨⟨by decide +kernel, by decide +kernel⟩, List.mem_of_getElem? (i := 408) (by decide +kernel), List.mem_of_getElem? (i := 532) (by decide +kernel), List.mem_of_getElem? (i := 533) (by decide +kernel)⟩
theorem lw_p26 : lw_okq (⟨"CeilingRowsModel", "last", "(I)I"⟩, 22) := ⟨⟨by decide +kernel, by decide +kernel⟩, List.mem_of_getElem? (i := 408) (by decide +kernel), List.mem_of_getElem? (i := 536) (by decide +kernel), List.mem_of_getElem? (i := 537) (by decide +kernel)⟩
theorem lw_p27 : lw_okq (⟨"CeilingRowsModel", "mayKeep", "(III)Z"⟩, 22) := ⟨⟨by decide +kernel, by decide +kernel⟩, List.mem_of_getElem? (i := 408) (by decide +kernel), List.mem_of_getElem? (i := 553) (by decide +kernel), List.mem_of_getElem? (i := 554) (by decide +kernel)⟩
theorem lw_p28 : lw_okq (⟨"CeilingRowsModel", "have", "(II)V"⟩, 22) := ⟨⟨by decide +kernel, by decide +kernel⟩, List.mem_of_getElem? (i := 408) (by decide +kernel), List.mem_of_getElem? (i := 565) (by decide +kernel), List.mem_of_getElem? (i := 566) (by decide +kernel)⟩
theorem lw_p29 : lw_okq (⟨"CeilingRowsModel", "lastLock", "(I)I"⟩, 22) := ⟨⟨by decide +kernel, by decide +kernel⟩, List.mem_of_getElem? (i := 408) (by decide +kernel), List.mem_of_getElem? (i := 569) (by decide +kernel), List.mem_of_getElem? (i := 570) (by decide +kernel)⟩
theorem lw_p30 : lw_okq (⟨"CeilingRowsModel", "trialRuns", "(I)I"⟩, 22) := ⟨⟨by decide +kernel, by decide +kernel⟩, List.mem_of_getElem? (i := 408) (by decide +kernel), List.mem_of_getElem? (i := 582) (by decide +kernel), List.mem_of_getElem? (i := 583) (by decide +kernel)⟩
theorem lw_p31 : lw_okq (⟨"CeilingRowsModel", "trialRank", "(I)I"⟩, 22) := ⟨⟨by decide +kernel, by decide +kernel⟩, List.mem_of_getElem? (i := 408) (by decide +kernel), List.mem_of_getElem? (i := 586) (by decide +kernel), List.mem_of_getElem? (i := 587) (by decide +kernel)⟩
def lw_privs_2 : List (MethodName × Nat) := [(⟨"CeilingRows$Trial", "ticksOf", "(I)I"⟩, 5), (⟨"CeilingRows$Trial", "countDelays", "(I)I"⟩, 5), (⟨"CeilingRowsModel", "isTask", "(I)Z"⟩, 22), (⟨"CeilingRowsModel", "isResource", "(I)Z"⟩, 22), (⟨"CeilingRowsModel", "ceilingOf", "(I)I"⟩, 22), (⟨"CeilingRowsModel", "acts", "(III)I"⟩, 22), (⟨"CeilingRowsModel", "ready", "(I)V"⟩, 22), (⟨"CeilingRowsModel", "runs", "(I)Z"⟩, 22), (⟨"CeilingRowsModel", "running", "(I)I"⟩, 22), (⟨"CeilingRowsModel", "rankNow", "(I)I"⟩, 22), (⟨"CeilingRowsModel", "last", "(I)I"⟩, 22), (⟨"CeilingRowsModel", "mayKeep", "(III)Z"⟩, 22), (⟨"CeilingRowsModel", "have", "(II)V"⟩, 22), (⟨"CeilingRowsModel", "lastLock", "(I)I"⟩, 22), (⟨"CeilingRowsModel", "trialRuns", "(I)I"⟩, 22), (⟨"CeilingRowsModel", "trialRank", "(I)I"⟩, 22)]
theorem lw_r2 : ∀ q ∈ lw_privs_2, lw_okq q := List.forall_mem_cons.mpr ⟨lw_p16, List.forall_mem_cons.mpr ⟨lw_p17, List.forall_mem_cons.mpr ⟨lw_p18, List.forall_mem_cons.mpr ⟨lw_p19, List.forall_mem_cons.mpr ⟨lw_p20, List.forall_mem_cons.mpr ⟨lw_p21, List.forall_mem_cons.mpr ⟨lw_p22, List.forall_mem_cons.mpr ⟨lw_p23, List.forall_mem_cons.mpr ⟨lw_p24, List.forall_mem_cons.mpr ⟨lw_p25, List.forall_mem_cons.mpr ⟨lw_p26, List.forall_mem_cons.mpr ⟨lw_p27, List.forall_mem_cons.mpr ⟨lw_p28, List.forall_mem_cons.mpr ⟨lw_p29, List.forall_mem_cons.mpr ⟨lw_p30, List.forall_mem_cons.mpr ⟨lw_p31, fun _ h => absurd h List.not_mem_nil⟩⟩⟩⟩⟩⟩⟩⟩⟩⟩⟩⟩⟩⟩⟩⟩
theorem lw_p32 : lw_okq (⟨"CeilingRowsModel", "tickOf", "(II)I"⟩, 22) := ⟨⟨by decide +kernel, by decide +kernel⟩, List.mem_of_getElem? (i := 408) (by decide +kernel), List.mem_of_getElem? (i := 590) (by decide +kernel), List.mem_of_getElem? (i := 591) (by decide +kernel)⟩
def lw_privs_3 : List (MethodName × Nat) := [(⟨"CeilingRowsModel", "tickOf", "(II)I"⟩, 22)]
theorem lw_r3 : ∀ q ∈ lw_privs_3, lw_okq q := List.forall_mem_cons.mpr ⟨lw_p32, fun _ h => absurd h List.not_mem_nil⟩
def lw_privs : List (MethodName × Nat) := lw_privs_1 ++ (lw_privs_2 ++ (lw_privs_3))
def lw_tbl : List Cond := k2_sels lw_privs ++ tables_1
theorem lw_privs_ok : ∀ q ∈ lw_privs, lw_okq q := by
  show ∀ q ∈ lw_privs_1 ++ (lw_privs_2 ++ (lw_privs_3)), lw_okq q
  exact List.forall_mem_append.mpr ⟨lw_r1, List.forall_mem_append.mpr ⟨lw_r2, lw_r3⟩⟩
/-! words by their places among the tables' words; what a call needs of them -/
def ng_tbl : List Cond := lw_tbl.filter goodWord
theorem ng_sub : ∀ w ∈ ng_tbl, w ∈ lw_tbl := fun _ h => (List.mem_filter.mp h).1
theorem ng_t {w : Cond} (i : Nat) (h : tables_1[i]? = some w) (hg : goodWord w = true) : w ∈ ng_tbl := List.mem_filter.mpr ⟨List.mem_append_right _ (List.mem_of_getElem? h), hg⟩
theorem ng_p {w : Cond} (i : Nat) (h : (k2_sels lw_privs)[i]? = some w) (hg : goodWord w = true) : w ∈ ng_tbl := List.mem_filter.mpr ⟨List.mem_append_left _ (List.mem_of_getElem? h), hg⟩
theorem ng_g : ∀ w ∈ ng_tbl, (w.onTables && w.keeps) = true ∨ ∃ ty, w = .arrayClass ty := fun _ h => good_of_word (List.mem_filter.mp h).2
theorem ng_pl {ws : List Cond} (ps : List Nat) (hp : ws = ps.filterMap (fun i => tables_1[i]?)) (hg : ws.all goodWord = true) : ∀ w ∈ ws, w ∈ ng_tbl := by
  intro w hw
  have h2 := List.all_eq_true.mp hg w hw
  rw [hp] at hw
  obtain ⟨i, -, hi⟩ := List.mem_filterMap.mp hw
  exact ng_t i hi h2
theorem ng_C {y : MethodName} {b : ByteArray} {n : Nat} {r : Option FieldType} (h5 : Cond.code y b n r ∈ ng_tbl) : GoodIn ng_tbl (Cond.code y b n r :: ng_tbl) := by
  intro w hw
  rcases List.mem_cons.mp hw with rfl | hw
  · exact ⟨h5, ng_g _ h5⟩
  · exact ⟨hw, ng_g _ hw⟩
theorem ng_V {own C : String} {idx : Nat} {y : MethodName} {b : ByteArray} {n : Nat} {r : Option FieldType} (h1 : Cond.methodLink own idx y ∈ ng_tbl) (h2 : Cond.instanceMethod y ∈ ng_tbl) (h3 : Cond.selects C y y ∈ ng_tbl) (h4 : Cond.initialized C ∈ ng_tbl) (h5 : Cond.code y b n r ∈ ng_tbl) : GoodIn ng_tbl (wsV own idx C y (Cond.code y b n r :: ng_tbl)) := by
  intro w hw
  rcases List.mem_append.mp hw with hw | hw
  · have hm : w ∈ ng_tbl := by
      rcases List.mem_cons.mp hw with rfl | hw
      · exact h1
      rcases List.mem_cons.mp hw with rfl | hw
      · exact h2
      rcases List.mem_cons.mp hw with rfl | hw
      · exact h3
      rcases List.mem_cons.mp hw with rfl | hw
      · exact h4
      exact absurd hw List.not_mem_nil
    exact ⟨hm, ng_g _ hm⟩
  · exact ng_C h5 w hw
theorem ng_S {own : String} {idx : Nat} {y : MethodName} {b : ByteArray} {n : Nat} {r : Option FieldType} (h1 : Cond.methodLink own idx y ∈ ng_tbl) (h2 : Cond.static y ∈ ng_tbl) (h4 : Cond.initialized y.cls ∈ ng_tbl) (h5 : Cond.code y b n r ∈ ng_tbl) : GoodIn ng_tbl (va_wsS own idx y (Cond.code y b n r :: ng_tbl)) := by
  intro w hw
  rcases List.mem_append.mp hw with hw | hw
  · have hm : w ∈ ng_tbl := by
      rcases List.mem_cons.mp hw with rfl | hw
      · exact h1
      rcases List.mem_cons.mp hw with rfl | hw
      · exact h2
      rcases List.mem_cons.mp hw with rfl | hw
      · exact h4
      exact absurd hw List.not_mem_nil
    exact ⟨hm, ng_g _ hm⟩
  · exact ng_C h5 w hw
def nf_Plan : u_T := fun k => match k with
  | 0 => ("CeilingRows$Plan", "taskCount", "I", false)
  | 1 => ("CeilingRows$Plan", "resourceCount", "I", false)
  | 2 => ("CeilingRows$Plan", "rankOf", "[I", true)
  | 3 => ("CeilingRows$Plan", "coreOf", "[I", true)
  | 4 => ("CeilingRows$Plan", "ceilingOf", "[I", true)
  | 5 => ("CeilingRows$Plan", "userCoreOf", "[I", true)
  | _ => ("CeilingRows$Plan", "lengthOf", "[[I", true)
def nt_Plan : Nat → FieldType := fun k => match k with
  | 0 => .int
  | 1 => .int
  | 2 => (.array .int)
  | 3 => (.array .int)
  | 4 => (.array .int)
  | 5 => (.array .int)
  | _ => (.array (.array .int))
theorem nno_Plan : ∀ a, a < 7 → ∀ b, b < 7 → a ≠ b → (nf_Plan a).2.1 ≠ (nf_Plan b).2.1 := by decide +kernel
theorem nto_Plan : ∀ k, k < 7 → parseFieldDescriptor (nf_Plan k).2.2.1 = some (nt_Plan k) := by decide +kernel
set_option maxRecDepth 20000 in
theorem nin_Plan : ∀ w ∈ u_ws "CeilingRows$Plan" nf_Plan 7, w ∈ ng_tbl := ng_pl [45, 47, 49, 51, 53, 55, 57] (by decide +kernel) (by decide +kernel)
def nf_Board : u_T := fun k => match k with
  | 0 => ("CeilingRows$Board", "plan", "LCeilingRows$Plan;", true)
  | 1 => ("CeilingRows$Board", "stateOf", "[I", true)
  | 2 => ("CeilingRows$Board", "readyOrderOf", "[I", true)
  | 3 => ("CeilingRows$Board", "readyOrder", "I", false)
  | 4 => ("CeilingRows$Board", "lastTakenBy", "[I", true)
  | 5 => ("CeilingRows$Board", "holderOf", "[I", true)
  | _ => ("CeilingRows$Board", "takenBefore", "[I", true)
def nt_Board : Nat → FieldType := fun k => match k with
  | 0 => (.object "CeilingRows$Plan")
  | 1 => (.array .int)
  | 2 => (.array .int)
  | 3 => .int
  | 4 => (.array .int)
  | 5 => (.array .int)
  | _ => (.array .int)
theorem nno_Board : ∀ a, a < 7 → ∀ b, b < 7 → a ≠ b → (nf_Board a).2.1 ≠ (nf_Board b).2.1 := by decide +kernel
theorem nto_Board : ∀ k, k < 7 → parseFieldDescriptor (nf_Board k).2.2.1 = some (nt_Board k) := by decide +kernel
set_option maxRecDepth 20000 in
theorem nin_Board : ∀ w ∈ u_ws "CeilingRows$Board" nf_Board 7, w ∈ ng_tbl := ng_pl [79, 81, 83, 85, 87, 89, 91] (by decide +kernel) (by decide +kernel)
def nf_Locks : u_T := fun k => match k with
  | 0 => ("CeilingRows$Locks", "ownerOf", "[I", true)
  | 1 => ("CeilingRows$Locks", "wantedBy", "[I", true)
  | 2 => ("CeilingRows$Locks", "spinOrderOf", "[I", true)
  | _ => ("CeilingRows$Locks", "spinOrder", "I", false)
def nt_Locks : Nat → FieldType := fun k => match k with
  | 0 => (.array .int)
  | 1 => (.array .int)
  | 2 => (.array .int)
  | _ => .int
theorem nno_Locks : ∀ a, a < 4 → ∀ b, b < 4 → a ≠ b → (nf_Locks a).2.1 ≠ (nf_Locks b).2.1 := by decide +kernel
theorem nto_Locks : ∀ k, k < 4 → parseFieldDescriptor (nf_Locks k).2.2.1 = some (nt_Locks k) := by decide +kernel
set_option maxRecDepth 20000 in
theorem nin_Locks : ∀ w ∈ u_ws "CeilingRows$Locks" nf_Locks 4, w ∈ ng_tbl := ng_pl [104, 106, 108, 110] (by decide +kernel) (by decide +kernel)
def nf_Trial : u_T := fun k => match k with
  | 0 => ("CeilingRows$Trial", "plan", "LCeilingRows$Plan;", true)
  | 1 => ("CeilingRows$Trial", "board", "LCeilingRows$Board;", true)
  | 2 => ("CeilingRows$Trial", "ticksHad", "[I", true)
  | 3 => ("CeilingRows$Trial", "delays", "[[I", true)
  | _ => ("CeilingRows$Trial", "endedCount", "I", false)
def nt_Trial : Nat → FieldType := fun k => match k with
  | 0 => (.object "CeilingRows$Plan")
  | 1 => (.object "CeilingRows$Board")
  | 2 => (.array .int)
  | 3 => (.array (.array .int))
  | _ => .int
theorem nno_Trial : ∀ a, a < 5 → ∀ b, b < 5 → a ≠ b → (nf_Trial a).2.1 ≠ (nf_Trial b).2.1 := by decide +kernel
theorem nto_Trial : ∀ k, k < 5 → parseFieldDescriptor (nf_Trial k).2.2.1 = some (nt_Trial k) := by decide +kernel
set_option maxRecDepth 20000 in
theorem nin_Trial : ∀ w ∈ u_ws "CeilingRows$Trial" nf_Trial 5, w ∈ ng_tbl := ng_pl [127, 129, 131, 133, 135] (by decide +kernel) (by decide +kernel)
def nf_Main : u_T := fun k => match k with
  | 0 => ("CeilingRows", "plan", "LCeilingRows$Plan;", true)
  | 1 => ("CeilingRows", "board", "LCeilingRows$Board;", true)
  | 2 => ("CeilingRows", "locks", "LCeilingRows$Locks;", true)
  | 3 => ("CeilingRows", "trial", "LCeilingRows$Trial;", true)
  | 4 => ("CeilingRows", "eventKept", "[Z", true)
  | _ => ("CeilingRows", "latestTime", "J", false)
def nt_Main : Nat → FieldType := fun k => match k with
  | 0 => (.object "CeilingRows$Plan")
  | 1 => (.object "CeilingRows$Board")
  | 2 => (.object "CeilingRows$Locks")
  | 3 => (.object "CeilingRows$Trial")
  | 4 => (.array .boolean)
  | _ => .long
theorem nno_Main : ∀ a, a < 6 → ∀ b, b < 6 → a ≠ b → (nf_Main a).2.1 ≠ (nf_Main b).2.1 := by decide +kernel
theorem nto_Main : ∀ k, k < 6 → parseFieldDescriptor (nf_Main k).2.2.1 = some (nt_Main k) := by decide +kernel
set_option maxRecDepth 20000 in
theorem nin_Main : ∀ w ∈ u_ws "CeilingRows" nf_Main 6, w ∈ ng_tbl := ng_pl [144, 146, 148, 150, 152, 154] (by decide +kernel) (by decide +kernel)
def nf_Ref : u_T := fun k => match k with
  | 0 => ("CeilingRowsModel", "tasks", "I", false)
  | 1 => ("CeilingRowsModel", "rank", "[I", true)
  | 2 => ("CeilingRowsModel", "core", "[I", true)
  | 3 => ("CeilingRowsModel", "state", "[I", true)
  | 4 => ("CeilingRowsModel", "since", "[I", true)
  | 5 => ("CeilingRowsModel", "readies", "I", false)
  | 6 => ("CeilingRowsModel", "kept", "[Z", true)
  | 7 => ("CeilingRowsModel", "resources", "I", false)
  | 8 => ("CeilingRowsModel", "length", "[J", true)
  | 9 => ("CeilingRowsModel", "holder", "[I", true)
  | 10 => ("CeilingRowsModel", "nth", "[I", true)
  | 11 => ("CeilingRowsModel", "latest", "J", false)
  | 12 => ("CeilingRowsModel", "lockOf", "[I", true)
  | 13 => ("CeilingRowsModel", "lockNth", "[I", true)
  | 14 => ("CeilingRowsModel", "spins", "[I", true)
  | 15 => ("CeilingRowsModel", "spinSince", "[I", true)
  | 16 => ("CeilingRowsModel", "locks", "I", false)
  | 17 => ("CeilingRowsModel", "trialState", "[I", true)
  | 18 => ("CeilingRowsModel", "trialSince", "[I", true)
  | 19 => ("CeilingRowsModel", "done", "[I", true)
  | 20 => ("CeilingRowsModel", "held", "[I", true)
  | _ => ("CeilingRowsModel", "met", "[Z", true)
def nt_Ref : Nat → FieldType := fun k => match k with
  | 0 => .int
  | 1 => (.array .int)
  | 2 => (.array .int)
  | 3 => (.array .int)
  | 4 => (.array .int)
  | 5 => .int
  | 6 => (.array .boolean)
  | 7 => .int
  | 8 => (.array .long)
  | 9 => (.array .int)
  | 10 => (.array .int)
  | 11 => .long
  | 12 => (.array .int)
  | 13 => (.array .int)
  | 14 => (.array .int)
  | 15 => (.array .int)
  | 16 => .int
  | 17 => (.array .int)
  | 18 => (.array .int)
  | 19 => (.array .int)
  | 20 => (.array .int)
  | _ => (.array .boolean)
theorem nno_Ref : ∀ a, a < 22 → ∀ b, b < 22 → a ≠ b → (nf_Ref a).2.1 ≠ (nf_Ref b).2.1 := by decide +kernel
theorem nto_Ref : ∀ k, k < 22 → parseFieldDescriptor (nf_Ref k).2.2.1 = some (nt_Ref k) := by decide +kernel
set_option maxRecDepth 20000 in
theorem nin_Ref : ∀ w ∈ u_ws "CeilingRowsModel" nf_Ref 22, w ∈ ng_tbl := ng_pl [435, 437, 439, 441, 443, 445, 447, 449, 451, 453, 455, 457, 459, 461, 463, 465, 467, 469, 471, 473, 475, 477] (by decide +kernel) (by decide +kernel)
abbrev vwCl : List vw_C := [("CeilingRows$Plan", nf_Plan, 7), ("CeilingRows$Board", nf_Board, 7), ("CeilingRows$Locks", nf_Locks, 4), ("CeilingRows$Trial", nf_Trial, 5), ("CeilingRows", nf_Main, 6), ("CeilingRowsModel", nf_Ref, 22)]
def ny_Main_init : MethodName := ⟨"CeilingRows", "<init>", "()V"⟩
def nw_Main_init : List Cond := .code ny_Main_init prog_1_method_1_code 1 none :: ng_tbl
def ny_Plan_init : MethodName := ⟨"CeilingRows$Plan", "<init>", "()V"⟩
def nw_Plan_init : List Cond := .code ny_Plan_init prog_4_method_1_code 1 none :: ng_tbl
def ny_Board_init : MethodName := ⟨"CeilingRows$Board", "<init>", "(LCeilingRows$Plan;)V"⟩
def nw_Board_init : List Cond := .code ny_Board_init prog_2_method_1_code 2 none :: ng_tbl
def ny_Locks_init : MethodName := ⟨"CeilingRows$Locks", "<init>", "()V"⟩
def nw_Locks_init : List Cond := .code ny_Locks_init prog_3_method_1_code 1 none :: ng_tbl
def ny_Trial_init : MethodName := ⟨"CeilingRows$Trial", "<init>", "(LCeilingRows$Plan;)V"⟩
def nw_Trial_init : List Cond := .code ny_Trial_init prog_5_method_1_code 2 none :: ng_tbl
def ny_Main_task : MethodName := ⟨"CeilingRows", "task", "(II)I"⟩
def nw_Main_task : List Cond := .code ny_Main_task prog_1_method_2_code 3 (some .int) :: ng_tbl
def ny_Main_isCore : MethodName := ⟨"CeilingRows", "isCore", "(I)Z"⟩
def nw_Main_isCore : List Cond := .code ny_Main_isCore prog_1_method_14_code 1 (some .boolean) :: ng_tbl
def ny_Plan_addTask : MethodName := ⟨"CeilingRows$Plan", "addTask", "(II)I"⟩
def nw_Plan_addTask : List Cond := .code ny_Plan_addTask prog_4_method_4_code 3 (some .int) :: ng_tbl
def ny_Main_resource : MethodName := ⟨"CeilingRows", "resource", "()I"⟩
def nw_Main_resource : List Cond := .code ny_Main_resource prog_1_method_3_code 1 (some .int) :: ng_tbl
def ny_Plan_addResource : MethodName := ⟨"CeilingRows$Plan", "addResource", "()I"⟩
def nw_Plan_addResource : List Cond := .code ny_Plan_addResource prog_4_method_5_code 1 (some .int) :: ng_tbl
def ny_Main_uses : MethodName := ⟨"CeilingRows", "uses", "(IIJ)I"⟩
def nw_Main_uses : List Cond := .code ny_Main_uses prog_1_method_4_code 7 (some .int) :: ng_tbl
def ny_Plan_hasTask : MethodName := ⟨"CeilingRows$Plan", "hasTask", "(I)Z"⟩
def nw_Plan_hasTask : List Cond := .code ny_Plan_hasTask prog_4_method_2_code 2 (some .boolean) :: ng_tbl
def ny_Plan_hasResource : MethodName := ⟨"CeilingRows$Plan", "hasResource", "(I)Z"⟩
def nw_Plan_hasResource : List Cond := .code ny_Plan_hasResource prog_4_method_3_code 2 (some .boolean) :: ng_tbl
def ny_Board_allSleepOn : MethodName := ⟨"CeilingRows$Board", "allSleepOn", "(I)Z"⟩
def nw_Board_allSleepOn : List Cond := .code ny_Board_allSleepOn prog_2_method_3_code 3 (some .boolean) :: ng_tbl
def ny_Plan_isUsedByAnotherCore : MethodName := ⟨"CeilingRows$Plan", "isUsedByAnotherCore", "(II)Z"⟩
def nw_Plan_isUsedByAnotherCore : List Cond := .code ny_Plan_isUsedByAnotherCore prog_4_method_7_code 3 (some .boolean) :: ng_tbl
def ny_Plan_isUsedBy : MethodName := ⟨"CeilingRows$Plan", "isUsedBy", "(II)Z"⟩
def nw_Plan_isUsedBy : List Cond := .code ny_Plan_isUsedBy prog_4_method_6_code 3 (some .boolean) :: ng_tbl
def ny_Plan_setUse : MethodName := ⟨"CeilingRows$Plan", "setUse", "(III)V"⟩
def nw_Plan_setUse : List Cond := .code ny_Plan_setUse prog_4_method_8_code 4 none :: ng_tbl
def ny_Main_ceiling : MethodName := ⟨"CeilingRows", "ceiling", "(I)I"⟩
def nw_Main_ceiling : List Cond := .code ny_Main_ceiling prog_1_method_5_code 2 (some .int) :: ng_tbl
def ny_Main_step : MethodName := ⟨"CeilingRows", "step", "(IIIJ)I"⟩
def nw_Main_step : List Cond := .code ny_Main_step prog_1_method_6_code 8 (some .int) :: ng_tbl
def ny_Main_perform : MethodName := ⟨"CeilingRows", "perform", "(III)I"⟩
def nw_Main_perform : List Cond := .code ny_Main_perform prog_1_method_16_code 4 (some .int) :: ng_tbl
def ny_Main_startTask : MethodName := ⟨"CeilingRows", "startTask", "(I)I"⟩
def nw_Main_startTask : List Cond := .code ny_Main_startTask prog_1_method_17_code 2 (some .int) :: ng_tbl
def ny_Board_makeReady : MethodName := ⟨"CeilingRows$Board", "makeReady", "(I)V"⟩
def nw_Board_makeReady : List Cond := .code ny_Board_makeReady prog_2_method_4_code 2 none :: ng_tbl
def ny_Main_runs : MethodName := ⟨"CeilingRows", "runs", "(I)Z"⟩
def nw_Main_runs : List Cond := .code ny_Main_runs prog_1_method_15_code 3 (some .boolean) :: ng_tbl
def ny_Locks_spins : MethodName := ⟨"CeilingRows$Locks", "spins", "(I)Z"⟩
def nw_Locks_spins : List Cond := .code ny_Locks_spins prog_3_method_2_code 2 (some .boolean) :: ng_tbl
def ny_Board_firstOn : MethodName := ⟨"CeilingRows$Board", "firstOn", "(I)I"⟩
def nw_Board_firstOn : List Cond := .code ny_Board_firstOn prog_2_method_7_code 7 (some .int) :: ng_tbl
def ny_Board_rankNow : MethodName := ⟨"CeilingRows$Board", "rankNow", "(I)I"⟩
def nw_Board_rankNow : List Cond := .code ny_Board_rankNow prog_2_method_6_code 4 (some .int) :: ng_tbl
def ny_Main_sendEvent : MethodName := ⟨"CeilingRows", "sendEvent", "(I)I"⟩
def nw_Main_sendEvent : List Cond := .code ny_Main_sendEvent prog_1_method_18_code 2 (some .int) :: ng_tbl
def ny_Main_takeResource : MethodName := ⟨"CeilingRows", "takeResource", "(II)I"⟩
def nw_Main_takeResource : List Cond := .code ny_Main_takeResource prog_1_method_19_code 3 (some .int) :: ng_tbl
def ny_Board_take : MethodName := ⟨"CeilingRows$Board", "take", "(II)V"⟩
def nw_Board_take : List Cond := .code ny_Board_take prog_2_method_8_code 3 none :: ng_tbl
def ny_Main_giveBackResource : MethodName := ⟨"CeilingRows", "giveBackResource", "(II)I"⟩
def nw_Main_giveBackResource : List Cond := .code ny_Main_giveBackResource prog_1_method_20_code 3 (some .int) :: ng_tbl
def ny_Board_giveBackLast : MethodName := ⟨"CeilingRows$Board", "giveBackLast", "(I)V"⟩
def nw_Board_giveBackLast : List Cond := .code ny_Board_giveBackLast prog_2_method_9_code 3 none :: ng_tbl
def ny_Main_endTask : MethodName := ⟨"CeilingRows", "endTask", "(I)I"⟩
def nw_Main_endTask : List Cond := .code ny_Main_endTask prog_1_method_21_code 3 (some .int) :: ng_tbl
def ny_Board_holdsAny : MethodName := ⟨"CeilingRows$Board", "holdsAny", "(I)Z"⟩
def nw_Board_holdsAny : List Cond := .code ny_Board_holdsAny prog_2_method_5_code 2 (some .boolean) :: ng_tbl
def ny_Board_putToSleep : MethodName := ⟨"CeilingRows$Board", "putToSleep", "(I)V"⟩
def nw_Board_putToSleep : List Cond := .code ny_Board_putToSleep prog_2_method_10_code 3 none :: ng_tbl
def ny_Main_waitForEvent : MethodName := ⟨"CeilingRows", "waitForEvent", "(I)I"⟩
def nw_Main_waitForEvent : List Cond := .code ny_Main_waitForEvent prog_1_method_22_code 2 (some .int) :: ng_tbl
def ny_Main_rank : MethodName := ⟨"CeilingRows", "rank", "(I)I"⟩
def nw_Main_rank : List Cond := .code ny_Main_rank prog_1_method_7_code 2 (some .int) :: ng_tbl
def ny_Main_holder : MethodName := ⟨"CeilingRows", "holder", "(I)I"⟩
def nw_Main_holder : List Cond := .code ny_Main_holder prog_1_method_8_code 2 (some .int) :: ng_tbl
def ny_Main_blocking : MethodName := ⟨"CeilingRows", "blocking", "(I)J"⟩
def nw_Main_blocking : List Cond := .code ny_Main_blocking prog_1_method_9_code 4 (some .long) :: ng_tbl
def ny_Plan_longestDelay : MethodName := ⟨"CeilingRows$Plan", "longestDelay", "(II)I"⟩
def nw_Plan_longestDelay : List Cond := .code ny_Plan_longestDelay prog_4_method_10_code 5 (some .int) :: ng_tbl
def ny_Plan_isBelow : MethodName := ⟨"CeilingRows$Plan", "isBelow", "(II)Z"⟩
def nw_Plan_isBelow : List Cond := .code ny_Plan_isBelow prog_4_method_9_code 3 (some .boolean) :: ng_tbl
def ny_Main_lock : MethodName := ⟨"CeilingRows", "lock", "(II)I"⟩
def nw_Main_lock : List Cond := .code ny_Main_lock prog_1_method_10_code 3 (some .int) :: ng_tbl
def ny_Locks_acquire : MethodName := ⟨"CeilingRows$Locks", "acquire", "(II)I"⟩
def nw_Locks_acquire : List Cond := .code ny_Locks_acquire prog_3_method_4_code 3 (some .int) :: ng_tbl
def ny_Locks_lastTakenBy : MethodName := ⟨"CeilingRows$Locks", "lastTakenBy", "(I)I"⟩
def nw_Locks_lastTakenBy : List Cond := .code ny_Locks_lastTakenBy prog_3_method_3_code 3 (some .int) :: ng_tbl
def ny_Locks_release : MethodName := ⟨"CeilingRows$Locks", "release", "(II)I"⟩
def nw_Locks_release : List Cond := .code ny_Locks_release prog_3_method_5_code 4 (some .int) :: ng_tbl
def ny_Locks_longestSpinnerFor : MethodName := ⟨"CeilingRows$Locks", "longestSpinnerFor", "(I)I"⟩
def nw_Locks_longestSpinnerFor : List Cond := .code ny_Locks_longestSpinnerFor prog_3_method_6_code 5 (some .int) :: ng_tbl
def ny_Main_ring : MethodName := ⟨"CeilingRows", "ring", "()Z"⟩
def nw_Main_ring : List Cond := .code ny_Main_ring prog_1_method_11_code 2 (some .boolean) :: ng_tbl
def ny_Locks_waitsForItself : MethodName := ⟨"CeilingRows$Locks", "waitsForItself", "(I)Z"⟩
def nw_Locks_waitsForItself : List Cond := .code ny_Locks_waitsForItself prog_3_method_7_code 4 (some .boolean) :: ng_tbl
def ny_Main_lower : MethodName := ⟨"CeilingRows", "lower", "(II)I"⟩
def nw_Main_lower : List Cond := .code ny_Main_lower prog_1_method_12_code 5 (some .int) :: ng_tbl
def ny_Main_plain : MethodName := ⟨"CeilingRows", "plain", "(J)I"⟩
def nw_Main_plain : List Cond := .code ny_Main_plain prog_1_method_13_code 3 (some .int) :: ng_tbl
def ny_Trial_mostDelays : MethodName := ⟨"CeilingRows$Trial", "mostDelays", "(J)I"⟩
def nw_Trial_mostDelays : List Cond := .code ny_Trial_mostDelays prog_5_method_2_code 6 (some .int) :: ng_tbl
def ny_Trial_clear : MethodName := ⟨"CeilingRows$Trial", "clear", "()V"⟩
def nw_Trial_clear : List Cond := .code ny_Trial_clear prog_5_method_3_code 2 none :: ng_tbl
def ny_Board_clear : MethodName := ⟨"CeilingRows$Board", "clear", "()V"⟩
def nw_Board_clear : List Cond := .code ny_Board_clear prog_2_method_2_code 1 none :: ng_tbl
def ny_Arrays_fill : MethodName := ⟨"java/util/Arrays", "fill", "([II)V"⟩
def nw_Arrays_fill : List Cond := .code ny_Arrays_fill prog_10_method_103_code 4 none :: ng_tbl
def ny_Trial_startThoseDue : MethodName := ⟨"CeilingRows$Trial", "startThoseDue", "(JI)V"⟩
def nw_Trial_startThoseDue : List Cond := .code ny_Trial_startThoseDue prog_5_method_4_code 7 none :: ng_tbl
def ny_Trial_haveTick : MethodName := ⟨"CeilingRows$Trial", "haveTick", "(I)V"⟩
def nw_Trial_haveTick : List Cond := .code ny_Trial_haveTick prog_5_method_5_code 3 none :: ng_tbl
def ny_Trial_resourceAt : MethodName := ⟨"CeilingRows$Trial", "resourceAt", "(II)I"⟩
def nw_Trial_resourceAt : List Cond := .code ny_Trial_resourceAt prog_5_method_10_code 6 (some .int) :: ng_tbl
def ny_Trial_ticksWith : MethodName := ⟨"CeilingRows$Trial", "ticksWith", "(II)I"⟩
def nw_Trial_ticksWith : List Cond := .code ny_Trial_ticksWith prog_5_method_8_code 3 (some .int) :: ng_tbl
def ny_Trial_noteDelays : MethodName := ⟨"CeilingRows$Trial", "noteDelays", "(II)V"⟩
def nw_Trial_noteDelays : List Cond := .code ny_Trial_noteDelays prog_5_method_6_code 4 none :: ng_tbl
def ny_Trial_ticksOf : MethodName := ⟨"CeilingRows$Trial", "ticksOf", "(I)I"⟩
def nw_Trial_ticksOf : List Cond := .code ny_Trial_ticksOf prog_5_method_9_code 4 (some .int) :: ng_tbl
def ny_Trial_countDelays : MethodName := ⟨"CeilingRows$Trial", "countDelays", "(I)I"⟩
def nw_Trial_countDelays : List Cond := .code ny_Trial_countDelays prog_5_method_7_code 4 (some .int) :: ng_tbl
def ny_Integer_bitCount : MethodName := ⟨"java/lang/Integer", "bitCount", "(I)I"⟩
def nw_Integer_bitCount : List Cond := .code ny_Integer_bitCount prog_8_method_49_code 1 (some .int) :: ng_tbl
def ny_Ref_init : MethodName := ⟨"CeilingRowsModel", "<init>", "()V"⟩
def nw_Ref_init : List Cond := .code ny_Ref_init prog_7_method_1_code 1 none :: ng_tbl
def ny_Ref_task : MethodName := ⟨"CeilingRowsModel", "task", "(II)I"⟩
def nw_Ref_task : List Cond := .code ny_Ref_task prog_7_method_4_code 3 (some .int) :: ng_tbl
def ny_Ref_resource : MethodName := ⟨"CeilingRowsModel", "resource", "()I"⟩
def nw_Ref_resource : List Cond := .code ny_Ref_resource prog_7_method_5_code 1 (some .int) :: ng_tbl
def ny_Ref_uses : MethodName := ⟨"CeilingRowsModel", "uses", "(IIJ)I"⟩
def nw_Ref_uses : List Cond := .code ny_Ref_uses prog_7_method_6_code 6 (some .int) :: ng_tbl
def ny_Ref_isTask : MethodName := ⟨"CeilingRowsModel", "isTask", "(I)Z"⟩
def nw_Ref_isTask : List Cond := .code ny_Ref_isTask prog_7_method_2_code 2 (some .boolean) :: ng_tbl
def ny_Ref_isResource : MethodName := ⟨"CeilingRowsModel", "isResource", "(I)Z"⟩
def nw_Ref_isResource : List Cond := .code ny_Ref_isResource prog_7_method_3_code 2 (some .boolean) :: ng_tbl
def ny_Ref_ceiling : MethodName := ⟨"CeilingRowsModel", "ceiling", "(I)I"⟩
def nw_Ref_ceiling : List Cond := .code ny_Ref_ceiling prog_7_method_8_code 2 (some .int) :: ng_tbl
def ny_Ref_ceilingOf : MethodName := ⟨"CeilingRowsModel", "ceilingOf", "(I)I"⟩
def nw_Ref_ceilingOf : List Cond := .code ny_Ref_ceilingOf prog_7_method_7_code 4 (some .int) :: ng_tbl
def ny_Ref_step : MethodName := ⟨"CeilingRowsModel", "step", "(IIIJ)I"⟩
def nw_Ref_step : List Cond := .code ny_Ref_step prog_7_method_15_code 7 (some .int) :: ng_tbl
def ny_Ref_acts : MethodName := ⟨"CeilingRowsModel", "acts", "(III)I"⟩
def nw_Ref_acts : List Cond := .code ny_Ref_acts prog_7_method_14_code 6 (some .int) :: ng_tbl
def ny_Ref_ready : MethodName := ⟨"CeilingRowsModel", "ready", "(I)V"⟩
def nw_Ref_ready : List Cond := .code ny_Ref_ready prog_7_method_12_code 2 none :: ng_tbl
def ny_Ref_runs : MethodName := ⟨"CeilingRowsModel", "runs", "(I)Z"⟩
def nw_Ref_runs : List Cond := .code ny_Ref_runs prog_7_method_11_code 2 (some .boolean) :: ng_tbl
def ny_Ref_running : MethodName := ⟨"CeilingRowsModel", "running", "(I)I"⟩
def nw_Ref_running : List Cond := .code ny_Ref_running prog_7_method_10_code 5 (some .int) :: ng_tbl
def ny_Ref_rankNow : MethodName := ⟨"CeilingRowsModel", "rankNow", "(I)I"⟩
def nw_Ref_rankNow : List Cond := .code ny_Ref_rankNow prog_7_method_9_code 4 (some .int) :: ng_tbl
def ny_Ref_last : MethodName := ⟨"CeilingRowsModel", "last", "(I)I"⟩
def nw_Ref_last : List Cond := .code ny_Ref_last prog_7_method_13_code 4 (some .int) :: ng_tbl
def ny_Ref_rank : MethodName := ⟨"CeilingRowsModel", "rank", "(I)I"⟩
def nw_Ref_rank : List Cond := .code ny_Ref_rank prog_7_method_16_code 2 (some .int) :: ng_tbl
def ny_Ref_holder : MethodName := ⟨"CeilingRowsModel", "holder", "(I)I"⟩
def nw_Ref_holder : List Cond := .code ny_Ref_holder prog_7_method_17_code 2 (some .int) :: ng_tbl
def ny_Ref_blocking : MethodName := ⟨"CeilingRowsModel", "blocking", "(I)J"⟩
def nw_Ref_blocking : List Cond := .code ny_Ref_blocking prog_7_method_19_code 6 (some .long) :: ng_tbl
def ny_Ref_mayKeep : MethodName := ⟨"CeilingRowsModel", "mayKeep", "(III)Z"⟩
def nw_Ref_mayKeep : List Cond := .code ny_Ref_mayKeep prog_7_method_18_code 4 (some .boolean) :: ng_tbl
def ny_Ref_lower : MethodName := ⟨"CeilingRowsModel", "lower", "(II)I"⟩
def nw_Ref_lower : List Cond := .code ny_Ref_lower prog_7_method_20_code 7 (some .int) :: ng_tbl
def ny_Ref_lock : MethodName := ⟨"CeilingRowsModel", "lock", "(II)I"⟩
def nw_Ref_lock : List Cond := .code ny_Ref_lock prog_7_method_23_code 5 (some .int) :: ng_tbl
def ny_Ref_have : MethodName := ⟨"CeilingRowsModel", "have", "(II)V"⟩
def nw_Ref_have : List Cond := .code ny_Ref_have prog_7_method_22_code 3 none :: ng_tbl
def ny_Ref_lastLock : MethodName := ⟨"CeilingRowsModel", "lastLock", "(I)I"⟩
def nw_Ref_lastLock : List Cond := .code ny_Ref_lastLock prog_7_method_21_code 4 (some .int) :: ng_tbl
def ny_Ref_ring : MethodName := ⟨"CeilingRowsModel", "ring", "()Z"⟩
def nw_Ref_ring : List Cond := .code ny_Ref_ring prog_7_method_24_code 5 (some .boolean) :: ng_tbl
def ny_Ref_plain : MethodName := ⟨"CeilingRowsModel", "plain", "(J)I"⟩
def nw_Ref_plain : List Cond := .code ny_Ref_plain prog_7_method_28_code 9 (some .int) :: ng_tbl
def ny_Ref_trialRuns : MethodName := ⟨"CeilingRowsModel", "trialRuns", "(I)I"⟩
def nw_Ref_trialRuns : List Cond := .code ny_Ref_trialRuns prog_7_method_27_code 5 (some .int) :: ng_tbl
def ny_Ref_trialRank : MethodName := ⟨"CeilingRowsModel", "trialRank", "(I)I"⟩
def nw_Ref_trialRank : List Cond := .code ny_Ref_trialRank prog_7_method_26_code 2 (some .int) :: ng_tbl
def ny_Ref_tickOf : MethodName := ⟨"CeilingRowsModel", "tickOf", "(II)I"⟩
def nw_Ref_tickOf : List Cond := .code ny_Ref_tickOf prog_7_method_25_code 6 (some .int) :: ng_tbl
end
section
/-! the pure side's words: a component's numbers (cell, place), stores, ranges -/
abbrev cr_S : Type := Nat → Nat → Int32
def cr_up (σ : cr_S) (k j : Nat) (x : Int32) : cr_S := fun k' => if k' = k then upd (σ k) j x else σ k'
theorem cr_lt {x y : Int32} (h : x < y) : x.toInt < y.toInt := Int32.lt_iff_toInt_lt.mp h
theorem cr_nlt {x y : Int32} (h : ¬ x < y) : y.toInt ≤ x.toInt := by
  rw [Int32.lt_iff_toInt_lt] at h; omega
theorem cr_le {x y : Int32} (h : x ≤ y) : x.toInt ≤ y.toInt := Int32.le_iff_toInt_le.mp h
theorem cr_nle {x y : Int32} (h : ¬ x ≤ y) : y.toInt < x.toInt := by
  rw [Int32.le_iff_toInt_le] at h; omega
theorem cr_eq {x y : Int32} (h : x = y) : x.toInt = y.toInt := by rw [h]
theorem cr_ne {x y : Int32} (h : ¬ x = y) : x.toInt ≠ y.toInt := fun e => h (Int32.toInt_inj.mp e)
theorem cr_nne {x y : Int32} (h : ¬ x ≠ y) : x.toInt = y.toInt := by
  rw [Decidable.not_not.mp h]
theorem cr_bmod {z : Int} (h : -2147483648 ≤ z ∧ z < 2147483648) : z.bmod (2 ^ 32) = z := by
  have : ((2 ^ 32 : Nat) : Int) = 4294967296 := by decide
  simp only [Int.bmod, this]
  split <;> omega
theorem cr_add {x y : Int32} (h : -2147483648 ≤ x.toInt + y.toInt ∧ x.toInt + y.toInt < 2147483648) : (x + y).toInt = x.toInt + y.toInt := by
  rw [Int32.toInt_add]; exact cr_bmod h
theorem cr_sub {x y : Int32} (h : -2147483648 ≤ x.toInt - y.toInt ∧ x.toInt - y.toInt < 2147483648) : (x - y).toInt = x.toInt - y.toInt := by
  rw [Int32.toInt_sub]; exact cr_bmod h
theorem cr_neg {x : Int32} (h : -2147483648 ≤ -x.toInt ∧ -x.toInt < 2147483648) : (-x).toInt = -x.toInt := by
  rw [Int32.toInt_neg]; exact cr_bmod h
theorem cr_ix {x : Int32} {n : Nat} (h : vp_in x n) : x.toNatClampNeg < n := Nat.not_le.mp fun q => h (Or.inr q)
def cr_rg (σ : cr_S) (k : Nat) (hi : Int) : Prop := ∀ j, 0 ≤ (σ k j).toInt ∧ (σ k j).toInt ≤ hi
def cr_rf (σ : cr_S) (k j : Nat) (hi : Int) : Prop := 0 ≤ (σ k j).toInt ∧ (σ k j).toInt ≤ hi
theorem cr_rg_up {σ : cr_S} {k k' j : Nat} {hi : Int} {x : Int32} (h : cr_rg σ k hi) (hx : k = k' → 0 ≤ x.toInt ∧ x.toInt ≤ hi) : cr_rg (cr_up σ k' j x) k hi := by
  intro i
  unfold cr_up
  by_cases e : k = k'
  · rw [if_pos e]
    unfold upd
    by_cases e2 : i = j
    · rw [if_pos e2]; exact hx e
    · rw [if_neg e2, ← e]; exact h i
  · rw [if_neg e]; exact h i
theorem cr_rf_up {σ : cr_S} {k k' i j : Nat} {hi : Int} {x : Int32} (h : cr_rf σ k i hi) (hx : k = k' → i = j → 0 ≤ x.toInt ∧ x.toInt ≤ hi) : cr_rf (cr_up σ k' j x) k i hi := by
  unfold cr_rf cr_up
  by_cases e : k = k'
  · rw [if_pos e]
    unfold upd
    by_cases e2 : i = j
    · rw [if_pos e2]; exact hx e e2
    · rw [if_neg e2, ← e]; exact h
  · rw [if_neg e]; exact h
/-- an array of rows: its n rows are the cells from o on -/
def cr_gr (a : Nat → Nat) (o n : Nat) : Nat → Option Nat := fun i => if i < n then some (a (o + i)) else none
theorem cr_getL {A B : va_W} {k : Nat} {q : Nat × va_E} (h : A[k]? = some q) : (A ++ B)[k]? = some q := by
  rw [List.getElem?_append_left (List.getElem?_eq_some_iff.mp h).1]; exact h
theorem cr_getR {A B : va_W} {o k : Nat} {q : Nat × va_E} (ho : A.length = o) (h : B[k]? = some q) : (A ++ B)[o + k]? = some q := by
  subst ho
  rw [List.getElem?_append_right (Nat.le_add_right _ _), Nat.add_sub_cancel_left]; exact h
theorem cr_setL {A A' B : va_W} {k : Nat} {q : Nat × va_E} (hk : k < A.length) (h : A.set k q = A') : (A ++ B).set k q = A' ++ B := by
  rw [List.set_append_left _ _ hk, h]
theorem cr_setR {A B B' : va_W} {o k : Nat} {q : Nat × va_E} (ho : A.length = o) (h : B.set k q = B') : (A ++ B).set (o + k) q = A ++ B' := by
  subst ho
  rw [List.set_append_right _ _ (Nat.le_add_right _ _), Nat.add_sub_cancel_left, h]
theorem cr_rfo {σ : cr_S} {k j : Nat} {hi : Int} (h : cr_rf σ k j hi) : 0 ≤ (σ k j).toInt ∧ (σ k j).toInt ≤ hi := h
theorem cr_rgo {σ : cr_S} {k : Nat} {hi : Int} (h : cr_rg σ k hi) (j : Nat) : 0 ≤ (σ k j).toInt ∧ (σ k j).toInt ≤ hi := h j
def cr_fl (f : Nat → Int32) (n : Nat) (x : Int32) : Nat → Int32 := fun j => if j < n then x else f j
def cr_fill (σ : cr_S) (k n : Nat) (x : Int32) : cr_S := fun k' => if k' = k then cr_fl (σ k) n x else σ k'
theorem cr_rg_fill {σ : cr_S} {k k' n : Nat} {hi : Int} {x : Int32} (h : cr_rg σ k hi) (hx : k = k' → 0 ≤ x.toInt ∧ x.toInt ≤ hi) : cr_rg (cr_fill σ k' n x) k hi := by
  intro i
  unfold cr_fill
  by_cases e : k = k'
  · rw [if_pos e]
    unfold cr_fl
    by_cases e2 : i < n
    · rw [if_pos e2]; exact hx e
    · rw [if_neg e2, ← e]; exact h i
  · rw [if_neg e]; exact h i
theorem cr_rf_fill {σ : cr_S} {k k' i n : Nat} {hi : Int} {x : Int32} (h : cr_rf σ k i hi) (hx : k = k' → i < n → 0 ≤ x.toInt ∧ x.toInt ≤ hi) : cr_rf (cr_fill σ k' n x) k i hi := by
  unfold cr_rf cr_fill
  by_cases e : k = k'
  · rw [if_pos e]
    unfold cr_fl
    by_cases e2 : i < n
    · rw [if_pos e2]; exact hx e e2
    · rw [if_neg e2, ← e]; exact h
  · rw [if_neg e]; exact h
def cr_max (x y : Int32) : Int32 := if x < y then y else x
def cr_min (x y : Int32) : Int32 := if y < x then y else x
theorem cr_max_t (x y : Int32) : (cr_max x y).toInt = x.toInt ∧ y.toInt ≤ x.toInt ∨ (cr_max x y).toInt = y.toInt ∧ x.toInt < y.toInt := by
  unfold cr_max
  by_cases h : x < y
  · rw [if_pos h]; exact Or.inr ⟨rfl, cr_lt h⟩
  · rw [if_neg h]; exact Or.inl ⟨rfl, cr_nlt h⟩
theorem cr_min_t (x y : Int32) : (cr_min x y).toInt = x.toInt ∧ x.toInt ≤ y.toInt ∨ (cr_min x y).toInt = y.toInt ∧ y.toInt < x.toInt := by
  unfold cr_min
  by_cases h : y < x
  · rw [if_pos h]; exact Or.inr ⟨rfl, cr_lt h⟩
  · rw [if_neg h]; exact Or.inl ⟨rfl, cr_nlt h⟩
/-! one cell given to a callee, and taken back -/
theorem cr_P1 {D : va_G} {cl : List vw_C} {ws : va_W} {H : Heap} {k : Nat} {q : Nat × va_E} (hP : va_P D cl ws H) (he : ws[k]? = some q) : va_P D cl [q] H := by
  intro i q' h
  have h0 : i < 1 := (List.getElem?_eq_some_iff.mp h).1
  rw [show i = 0 by omega] at h
  cases h
  exact hP k _ he
theorem cr_D1 {q : Nat × va_E} : va_D (fun _ => True) [q] := by
  refine ⟨fun i j p q h1 h2 _ => ?_, fun _ _ _ => trivial⟩
  have h3 := (List.getElem?_eq_some_iff.mp h1).1
  have h4 := (List.getElem?_eq_some_iff.mp h2).1
  simp only [List.length_cons, List.length_nil] at h3 h4
  omega
theorem cr_F1 {A0 : Nat → Prop} {ws : va_W} {H0 H : Heap} {locs : List Loc} {k : Nat} {q : Nat × va_E} (hD : va_D A0 ws) (hS : va_S A0 H0 H locs) (hA : ∀ q, H0.size ≤ q → A0 q) (he : ws[k]? = some q) : ∀ x, va_A [q] H.size x → A0 x :=
  va_free (wc := [q]) hD hS hA [k] (by rw [List.map_cons, he]; rfl)
theorem cr_Dw {A A0 : Nat → Prop} {ws : va_W} (h : va_D A ws) (hF : ∀ q, A q → A0 q) : va_D A0 ws := ⟨h.1, fun k q hk => hF _ (h.2 k q hk)⟩
theorem cr_join1 {A0 : Nat → Prop} {D : va_G} {cl : List vw_C} {ws : va_W} {H H1 : Heap} {k a : Nat} {e e' : va_E} (hP : va_P D cl ws H) (hD : va_D A0 ws) (he : ws[k]? = some (a, e))
    (hk : ∀ q : Nat, q < H.size → ¬ va_A [(a, e)] H.size q → H1[q]? = H[q]?) (hP1 : va_P D cl [(a, e')] H1) : va_P D cl (ws.set k (a, e')) H1 ∧ va_D A0 (ws.set k (a, e')) := by
  have hkl := (List.getElem?_eq_some_iff.mp he).1
  refine ⟨fun i q h => ?_, fun i j p q h1 h2 h3 => ?_, fun i q h => ?_⟩
  · by_cases hi : i = k
    · subst hi
      rw [List.getElem?_set_self hkl] at h
      cases h
      exact hP1 0 _ rfl
    · rw [List.getElem?_set_ne (Ne.symm hi)] at h
      have hq := hP i q h
      refine hq.kept (hk q.1 hq.lt ?_)
      rintro (⟨z, e9, h9⟩ | h9)
      · have h0 : z < 1 := (List.getElem?_eq_some_iff.mp h9).1
        rw [show z = 0 by omega] at h9
        have h8 : (a, e) = (q.1, e9) := Option.some.inj h9
        exact hi (hD.1 i k q (a, e) h he (by rw [Prod.mk.inj h8 |>.1]))
      · exact absurd hq.lt (by omega)
  · have g : ∀ (i : Nat) (p : Nat × va_E), (ws.set k (a, e'))[i]? = some p → ∃ p', ws[i]? = some p' ∧ p'.1 = p.1 := by
      intro i p h
      by_cases hi : i = k
      · subst hi
        rw [List.getElem?_set_self hkl] at h
        cases h
        exact ⟨_, he, rfl⟩
      · rw [List.getElem?_set_ne (Ne.symm hi)] at h
        exact ⟨p, h, rfl⟩
    obtain ⟨p', a1, a2⟩ := g i p h1
    obtain ⟨q', b1, b2⟩ := g j q h2
    exact hD.1 i j p' q' a1 b1 (by rw [a2, b2, h3])
  · by_cases hi : i = k
    · subst hi
      rw [List.getElem?_set_self hkl] at h
      cases h
      exact hD.2 i (a, e) he
    · rw [List.getElem?_set_ne (Ne.symm hi)] at h
      exact hD.2 i q h
section CRG
variable {p : Program} {l : Launch} {e : Env} {R : Room} {s : State} {m : MethodId} {args : Array Value} {below : List Frame} {meth : Method} {c : Code} {H : Heap} {locs : List Loc} {cells slots : Nat} {Q : State → Prop}
variable {cc : ByteArray} {pc : Nat} {ls : Array Slot} {rest : List Value} {D : va_G} {cl : List vw_C} {A : Nat → Prop} {a : Nat} {tys : List (ClassId × FieldType)} {ws : va_W} {H0 : Heap}
theorem ga_ald (hexec : p.tables.exec = Jvm.exec) (hb : c.code = cc) (hK : va_K D cl tys s) (hP : va_P D cl ws H) (q0 t0 : Nat) {cA : ClassId} {t : FieldType} {n o : Nat} {ar : Nat → Nat} (ha : ws[q0]? = some (a, .inl (cA, n, .inr (.inr (.inr (.inr (cr_gr ar o n))))))) (ht : tys[t0]? = some (cA, .array t)) {i : Int32} (hin : vp_in i n) (hlt : i.toNatClampNeg < n) (hdg : decode cc pc = .ok (.aaload, 1))
    (kk : W p l e R s m args below meth c H locs cells slots Q (F0 m (pc + 1) ls (.ref (ar (o + i.toNatClampNeg)) :: rest))) : W p l e R s m args below meth c H locs cells slots Q (F0 m pc ls (.int i :: .ref a :: rest)) := by
  have e : va_rf (cr_gr ar o n i.toNatClampNeg) = .ref (ar (o + i.toNatClampNeg)) := by
    unfold cr_gr
    rw [if_pos hlt]
    rfl
  exact W.aald (v := .ref (ar (o + i.toNatClampNeg))) (ty := .array t) hexec hb (hP q0 _ ha) ((hK.2 t0 _ ht).1 n (fun j => va_rf (cr_gr ar o n j))) rfl (fun q => by cases q) (by show ¬ (i < 0 ∨ (arrV _ _ _).slots.size ≤ _); rw [arrV_size]; exact hin) (by show (arrV _ _ _).slots[_]? = _; rw [arrV_read _ _ hlt, e]) rfl rfl hdg kk
end CRG
theorem cr_same {D : va_G} {cl : List vw_C} {tys : List (ClassId × FieldType)} {U : State} {c1 c2 : ClassId} {t : FieldType} {i j : Nat} (hK : va_K D cl tys U) (hi : tys[i]? = some (c1, t)) (hj : tys[j]? = some (c2, t)) (ht : (match t with | .object _ => false | _ => true) = true) : c2 = c1 := by
  have h1 := (hK.2 i _ hi).2
  have h2 := (hK.2 j _ hj).2
  cases t with
  | object C => simp at ht
  | _ => exact Option.some.inj (Eq.trans (Eq.symm h2) h1)
def cr_RPlan (σ : cr_S) : Prop := cr_rf σ 0 0 10 ∧ cr_rf σ 0 1 8 ∧ cr_rg σ 2 3
def cr_RBoard (σ : cr_S) : Prop := cr_rg σ 3 8 ∧ cr_rg σ 5 8
def cr_RLocks (σ : cr_S) : Prop := cr_rg σ 1 3 ∧ cr_rg σ 2 8
abbrev cw_Plan (cI cZ cO : ClassId) (a : Nat → Nat) (σ : cr_S) : va_W := [(a 0, .inr (0, [.int (σ 0 0), .int (σ 0 1), .ref (a 1), .ref (a 2), .ref (a 3), .ref (a 4), .ref (a 5)])), (a 1, .inl (cI, 11, .inl (σ 1))), (a 2, .inl (cI, 11, .inl (σ 2))), (a 3, .inl (cI, 9, .inl (σ 3))), (a 4, .inl (cI, 9, .inl (σ 4))), (a 5, .inl (cO, 11, .inr (.inr (.inr (.inr (cr_gr a 6 11)))))), (a 6, .inl (cI, 9, .inl (σ 6))), (a 7, .inl (cI, 9, .inl (σ 7))), (a 8, .inl (cI, 9, .inl (σ 8))), (a 9, .inl (cI, 9, .inl (σ 9))), (a 10, .inl (cI, 9, .inl (σ 10))), (a 11, .inl (cI, 9, .inl (σ 11))), (a 12, .inl (cI, 9, .inl (σ 12))), (a 13, .inl (cI, 9, .inl (σ 13))), (a 14, .inl (cI, 9, .inl (σ 14))), (a 15, .inl (cI, 9, .inl (σ 15))), (a 16, .inl (cI, 9, .inl (σ 16)))]
theorem cg_Plan_6 (cI cZ cO : ClassId) (a : Nat → Nat) (σ : cr_S) : ∀ (k : Nat), k < 11 → (cw_Plan cI cZ cO a σ)[6 + k]? = some (a (6 + k), .inl (cI, 9, .inl (σ (6 + k))))
  | 0, _ => rfl
  | 1, _ => rfl
  | 2, _ => rfl
  | 3, _ => rfl
  | 4, _ => rfl
  | 5, _ => rfl
  | 6, _ => rfl
  | 7, _ => rfl
  | 8, _ => rfl
  | 9, _ => rfl
  | 10, _ => rfl
  | k + 11, h => absurd h (by omega)
theorem cf_Plan_6 (cI cZ cO : ClassId) (a : Nat → Nat) (σ : cr_S) (x : Int32) : ∀ (k : Nat), k < 11 → (cw_Plan cI cZ cO a σ).set (6 + k) (a (6 + k), .inl (cI, 9, .inl (cr_fl (σ (6 + k)) 9 x))) = cw_Plan cI cZ cO a (cr_fill σ (6 + k) 9 x)
  | 0, _ => rfl
  | 1, _ => rfl
  | 2, _ => rfl
  | 3, _ => rfl
  | 4, _ => rfl
  | 5, _ => rfl
  | 6, _ => rfl
  | 7, _ => rfl
  | 8, _ => rfl
  | 9, _ => rfl
  | 10, _ => rfl
  | k + 11, h => absurd h (by omega)
theorem cs_Plan_6 (cI cZ cO : ClassId) (a : Nat → Nat) (σ : cr_S) (j : Nat) (x : Int32) : ∀ (k : Nat), k < 11 → (cw_Plan cI cZ cO a σ).set (6 + k) (a (6 + k), .inl (cI, 9, .inl (upd (σ (6 + k)) j x))) = cw_Plan cI cZ cO a (cr_up σ (6 + k) j x)
  | 0, _ => rfl
  | 1, _ => rfl
  | 2, _ => rfl
  | 3, _ => rfl
  | 4, _ => rfl
  | 5, _ => rfl
  | 6, _ => rfl
  | 7, _ => rfl
  | 8, _ => rfl
  | 9, _ => rfl
  | 10, _ => rfl
  | k + 11, h => absurd h (by omega)
abbrev cw_Board (cI cZ cO : ClassId) (a op : Nat → Nat) (σ : cr_S) : va_W := [(a 0, .inr (1, [.ref (op 0), .ref (a 1), .ref (a 2), .int (σ 0 0), .ref (a 3), .ref (a 4), .ref (a 5)])), (a 1, .inl (cI, 11, .inl (σ 1))), (a 2, .inl (cI, 11, .inl (σ 2))), (a 3, .inl (cI, 11, .inl (σ 3))), (a 4, .inl (cI, 9, .inl (σ 4))), (a 5, .inl (cI, 9, .inl (σ 5)))]
abbrev cw_Locks (cI cZ cO : ClassId) (a : Nat → Nat) (σ : cr_S) : va_W := [(a 0, .inr (2, [.ref (a 1), .ref (a 2), .ref (a 3), .int (σ 0 0)])), (a 1, .inl (cI, 9, .inl (σ 1))), (a 2, .inl (cI, 4, .inl (σ 2))), (a 3, .inl (cI, 4, .inl (σ 3)))]
abbrev cw_Trial (cI cZ cO : ClassId) (a op otb : Nat → Nat) (σ : cr_S) : va_W := [(a 0, .inr (3, [.ref (op 0), .ref (otb 0), .ref (a 1), .ref (a 2), .int (σ 0 0)])), (a 1, .inl (cI, 11, .inl (σ 1))), (a 2, .inl (cO, 11, .inr (.inr (.inr (.inr (cr_gr a 3 11)))))), (a 3, .inl (cI, 11, .inl (σ 3))), (a 4, .inl (cI, 11, .inl (σ 4))), (a 5, .inl (cI, 11, .inl (σ 5))), (a 6, .inl (cI, 11, .inl (σ 6))), (a 7, .inl (cI, 11, .inl (σ 7))), (a 8, .inl (cI, 11, .inl (σ 8))), (a 9, .inl (cI, 11, .inl (σ 9))), (a 10, .inl (cI, 11, .inl (σ 10))), (a 11, .inl (cI, 11, .inl (σ 11))), (a 12, .inl (cI, 11, .inl (σ 12))), (a 13, .inl (cI, 11, .inl (σ 13)))]
theorem cg_Trial_3 (cI cZ cO : ClassId) (a op otb : Nat → Nat) (σ : cr_S) : ∀ (k : Nat), k < 11 → (cw_Trial cI cZ cO a op otb σ)[3 + k]? = some (a (3 + k), .inl (cI, 11, .inl (σ (3 + k))))
  | 0, _ => rfl
  | 1, _ => rfl
  | 2, _ => rfl
  | 3, _ => rfl
  | 4, _ => rfl
  | 5, _ => rfl
  | 6, _ => rfl
  | 7, _ => rfl
  | 8, _ => rfl
  | 9, _ => rfl
  | 10, _ => rfl
  | k + 11, h => absurd h (by omega)
theorem cf_Trial_3 (cI cZ cO : ClassId) (a op otb : Nat → Nat) (σ : cr_S) (x : Int32) : ∀ (k : Nat), k < 11 → (cw_Trial cI cZ cO a op otb σ).set (3 + k) (a (3 + k), .inl (cI, 11, .inl (cr_fl (σ (3 + k)) 11 x))) = cw_Trial cI cZ cO a op otb (cr_fill σ (3 + k) 11 x)
  | 0, _ => rfl
  | 1, _ => rfl
  | 2, _ => rfl
  | 3, _ => rfl
  | 4, _ => rfl
  | 5, _ => rfl
  | 6, _ => rfl
  | 7, _ => rfl
  | 8, _ => rfl
  | 9, _ => rfl
  | 10, _ => rfl
  | k + 11, h => absurd h (by omega)
theorem cs_Trial_3 (cI cZ cO : ClassId) (a op otb : Nat → Nat) (σ : cr_S) (j : Nat) (x : Int32) : ∀ (k : Nat), k < 11 → (cw_Trial cI cZ cO a op otb σ).set (3 + k) (a (3 + k), .inl (cI, 11, .inl (upd (σ (3 + k)) j x))) = cw_Trial cI cZ cO a op otb (cr_up σ (3 + k) j x)
  | 0, _ => rfl
  | 1, _ => rfl
  | 2, _ => rfl
  | 3, _ => rfl
  | 4, _ => rfl
  | 5, _ => rfl
  | 6, _ => rfl
  | 7, _ => rfl
  | 8, _ => rfl
  | 9, _ => rfl
  | 10, _ => rfl
  | k + 11, h => absurd h (by omega)
abbrev cw_Main (cI cZ cO : ClassId) (a op ob ok ot : Nat → Nat) (σ : cr_S) (lt : Int64) : va_W := [(a 0, .inr (4, [.ref (op 0), .ref (ob 0), .ref (ok 0), .ref (ot 0), .ref (a 1), .long lt])), (a 1, .inl (cZ, 11, .inl (σ 1)))]
end
section
def md_Integer_bitCount  (x0 : Int32) : Int32 :=
  ((((((((x0 - ((x0.toUInt32 >>> ((1 : Int32).toUInt32 &&& Int32.toUInt32 31)).toInt32 &&& (1431655765 : Int32))) &&& (858993459 : Int32)) + (((x0 - ((x0.toUInt32 >>> ((1 : Int32).toUInt32 &&& Int32.toUInt32 31)).toInt32 &&& (1431655765 : Int32))).toUInt32 >>> ((2 : Int32).toUInt32 &&& Int32.toUInt32 31)).toInt32 &&& (858993459 : Int32))) + ((((x0 - ((x0.toUInt32 >>> ((1 : Int32).toUInt32 &&& Int32.toUInt32 31)).toInt32 &&& (1431655765 : Int32))) &&& (858993459 : Int32)) + (((x0 - ((x0.toUInt32 >>> ((1 : Int32).toUInt32 &&& Int32.toUInt32 31)).toInt32 &&& (1431655765 : Int32))).toUInt32 >>> ((2 : Int32).toUInt32 &&& Int32.toUInt32 31)).toInt32 &&& (858993459 : Int32))).toUInt32 >>> ((4 : Int32).toUInt32 &&& Int32.toUInt32 31)).toInt32) &&& (252645135 : Int32)) + ((((((x0 - ((x0.toUInt32 >>> ((1 : Int32).toUInt32 &&& Int32.toUInt32 31)).toInt32 &&& (1431655765 : Int32))) &&& (858993459 : Int32)) + (((x0 - ((x0.toUInt32 >>> ((1 : Int32).toUInt32 &&& Int32.toUInt32 31)).toInt32 &&& (1431655765 : Int32))).toUInt32 >>> ((2 : Int32).toUInt32 &&& Int32.toUInt32 31)).toInt32 &&& (858993459 : Int32))) + ((((x0 - ((x0.toUInt32 >>> ((1 : Int32).toUInt32 &&& Int32.toUInt32 31)).toInt32 &&& (1431655765 : Int32))) &&& (858993459 : Int32)) + (((x0 - ((x0.toUInt32 >>> ((1 : Int32).toUInt32 &&& Int32.toUInt32 31)).toInt32 &&& (1431655765 : Int32))).toUInt32 >>> ((2 : Int32).toUInt32 &&& Int32.toUInt32 31)).toInt32 &&& (858993459 : Int32))).toUInt32 >>> ((4 : Int32).toUInt32 &&& Int32.toUInt32 31)).toInt32) &&& (252645135 : Int32)).toUInt32 >>> ((8 : Int32).toUInt32 &&& Int32.toUInt32 31)).toInt32) + (((((((x0 - ((x0.toUInt32 >>> ((1 : Int32).toUInt32 &&& Int32.toUInt32 31)).toInt32 &&& (1431655765 : Int32))) &&& (858993459 : Int32)) + (((x0 - ((x0.toUInt32 >>> ((1 : Int32).toUInt32 &&& Int32.toUInt32 31)).toInt32 &&& (1431655765 : Int32))).toUInt32 >>> ((2 : Int32).toUInt32 &&& Int32.toUInt32 31)).toInt32 &&& (858993459 : Int32))) + ((((x0 - ((x0.toUInt32 >>> ((1 : Int32).toUInt32 &&& Int32.toUInt32 31)).toInt32 &&& (1431655765 : Int32))) &&& (858993459 : Int32)) + (((x0 - ((x0.toUInt32 >>> ((1 : Int32).toUInt32 &&& Int32.toUInt32 31)).toInt32 &&& (1431655765 : Int32))).toUInt32 >>> ((2 : Int32).toUInt32 &&& Int32.toUInt32 31)).toInt32 &&& (858993459 : Int32))).toUInt32 >>> ((4 : Int32).toUInt32 &&& Int32.toUInt32 31)).toInt32) &&& (252645135 : Int32)) + ((((((x0 - ((x0.toUInt32 >>> ((1 : Int32).toUInt32 &&& Int32.toUInt32 31)).toInt32 &&& (1431655765 : Int32))) &&& (858993459 : Int32)) + (((x0 - ((x0.toUInt32 >>> ((1 : Int32).toUInt32 &&& Int32.toUInt32 31)).toInt32 &&& (1431655765 : Int32))).toUInt32 >>> ((2 : Int32).toUInt32 &&& Int32.toUInt32 31)).toInt32 &&& (858993459 : Int32))) + ((((x0 - ((x0.toUInt32 >>> ((1 : Int32).toUInt32 &&& Int32.toUInt32 31)).toInt32 &&& (1431655765 : Int32))) &&& (858993459 : Int32)) + (((x0 - ((x0.toUInt32 >>> ((1 : Int32).toUInt32 &&& Int32.toUInt32 31)).toInt32 &&& (1431655765 : Int32))).toUInt32 >>> ((2 : Int32).toUInt32 &&& Int32.toUInt32 31)).toInt32 &&& (858993459 : Int32))).toUInt32 >>> ((4 : Int32).toUInt32 &&& Int32.toUInt32 31)).toInt32) &&& (252645135 : Int32)).toUInt32 >>> ((8 : Int32).toUInt32 &&& Int32.toUInt32 31)).toInt32).toUInt32 >>> ((16 : Int32).toUInt32 &&& Int32.toUInt32 31)).toInt32) &&& (63 : Int32))
def md_Plan_hasTask (pl : cr_S) (x1 : Int32) : Int32 :=
  (if x1 < (1 : Int32) then (0 : Int32) else (if (pl 0 0) < x1 then (0 : Int32) else (1 : Int32)))
def md_Plan_hasResource (pl : cr_S) (x1 : Int32) : Int32 :=
  (if x1 < (1 : Int32) then (0 : Int32) else (if (pl 0 1) < x1 then (0 : Int32) else (1 : Int32)))
def md_Plan_addTask (pl : cr_S) (x1 : Int32) (x2 : Int32) : Int32 × cr_S :=
  (((cr_up (cr_up (cr_up pl 0 0 ((pl 0 0) + (1 : Int32))) 1 ((cr_up pl 0 0 ((pl 0 0) + (1 : Int32))) 0 0).toNatClampNeg x1) 2 ((cr_up (cr_up pl 0 0 ((pl 0 0) + (1 : Int32))) 1 ((cr_up pl 0 0 ((pl 0 0) + (1 : Int32))) 0 0).toNatClampNeg x1) 0 0).toNatClampNeg x2) 0 0), (cr_up (cr_up (cr_up pl 0 0 ((pl 0 0) + (1 : Int32))) 1 ((cr_up pl 0 0 ((pl 0 0) + (1 : Int32))) 0 0).toNatClampNeg x1) 2 ((cr_up (cr_up pl 0 0 ((pl 0 0) + (1 : Int32))) 1 ((cr_up pl 0 0 ((pl 0 0) + (1 : Int32))) 0 0).toNatClampNeg x1) 0 0).toNatClampNeg x2))
def md_Plan_addResource (pl : cr_S) : Int32 × cr_S :=
  (((cr_up pl 0 1 ((pl 0 1) + (1 : Int32))) 0 1), (cr_up pl 0 1 ((pl 0 1) + (1 : Int32))))
def md_Plan_isUsedBy (pl : cr_S) (x1 : Int32) (x2 : Int32) : Int32 :=
  (if (pl (6 + x1.toNatClampNeg) x2.toNatClampNeg) ≤ 0 then (0 : Int32) else (1 : Int32))
def md_Plan_isUsedByAnotherCore (pl : cr_S) (x1 : Int32) (x2 : Int32) : Int32 :=
  (if (pl 4 x1.toNatClampNeg) = 0 then (0 : Int32) else (if (pl 4 x1.toNatClampNeg) = x2 then (0 : Int32) else (1 : Int32)))
def md_Plan_setUse (pl : cr_S) (x1 : Int32) (x2 : Int32) (x3 : Int32) : cr_S :=
  (cr_up (cr_up (cr_up pl (6 + x1.toNatClampNeg) x2.toNatClampNeg x3) 4 x2.toNatClampNeg ((cr_up pl (6 + x1.toNatClampNeg) x2.toNatClampNeg x3) 2 x1.toNatClampNeg)) 3 x2.toNatClampNeg (cr_max ((cr_up (cr_up pl (6 + x1.toNatClampNeg) x2.toNatClampNeg x3) 4 x2.toNatClampNeg ((cr_up pl (6 + x1.toNatClampNeg) x2.toNatClampNeg x3) 2 x1.toNatClampNeg)) 3 x2.toNatClampNeg) ((cr_up (cr_up pl (6 + x1.toNatClampNeg) x2.toNatClampNeg x3) 4 x2.toNatClampNeg ((cr_up pl (6 + x1.toNatClampNeg) x2.toNatClampNeg x3) 2 x1.toNatClampNeg)) 1 x1.toNatClampNeg)))
def md_Plan_isBelow (pl : cr_S) (x1 : Int32) (x2 : Int32) : Int32 :=
  (if (pl 2 x1.toNatClampNeg) = (pl 2 x2.toNatClampNeg) then (if (pl 1 x2.toNatClampNeg) ≤ (pl 1 x1.toNatClampNeg) then (0 : Int32) else (1 : Int32)) else (0 : Int32))
def lo_Plan_longestDelay_16 (pl : cr_S) (x1 : Int32) (x2 : Int32) : Nat → Int32 → Int32 → Int32
  | 0, _, _ => 0
  | n_16 + 1, v3_16, v4_16 =>
    (if (pl 0 1) < v4_16 then v3_16 else (if (pl 3 v4_16.toNatClampNeg) < (pl 1 x1.toNatClampNeg) then (lo_Plan_longestDelay_16 pl x1 x2 n_16 v3_16 (v4_16 + (1 : Int32))) else (lo_Plan_longestDelay_16 pl x1 x2 n_16 (cr_max v3_16 (pl (6 + x2.toNatClampNeg) v4_16.toNatClampNeg)) (v4_16 + (1 : Int32)))))
def md_Plan_longestDelay (pl : cr_S) (x1 : Int32) (x2 : Int32) : Int32 :=
  (if (md_Plan_isBelow pl x2 x1) = 0 then (0 : Int32) else (lo_Plan_longestDelay_16 pl x1 x2 9 (0 : Int32) (1 : Int32)))
def md_Board_clear (pl : cr_S) (bd : cr_S) : cr_S :=
  (cr_fill (cr_fill (cr_fill (cr_up (cr_fill (cr_fill bd 1 11 (0 : Int32)) 2 11 (0 : Int32)) 0 0 (0 : Int32)) 3 11 (0 : Int32)) 4 9 (0 : Int32)) 5 9 (0 : Int32))
def lo_Board_allSleepOn_2 (pl : cr_S) (bd : cr_S) (x1 : Int32) : Nat → Int32 → Int32
  | 0, _ => 0
  | n_2 + 1, v2_2 =>
    (if (pl 0 0) < v2_2 then (1 : Int32) else (if (pl 2 v2_2.toNatClampNeg) = x1 then (if (bd 1 v2_2.toNatClampNeg) = 0 then (lo_Board_allSleepOn_2 pl bd x1 n_2 (v2_2 + (1 : Int32))) else (0 : Int32)) else (lo_Board_allSleepOn_2 pl bd x1 n_2 (v2_2 + (1 : Int32)))))
def md_Board_allSleepOn (pl : cr_S) (bd : cr_S) (x1 : Int32) : Int32 :=
  (lo_Board_allSleepOn_2 pl bd x1 11 (1 : Int32))
def md_Board_makeReady (pl : cr_S) (bd : cr_S) (x1 : Int32) : cr_S :=
  (cr_up (cr_up (cr_up bd 1 x1.toNatClampNeg (1 : Int32)) 0 0 (((cr_up bd 1 x1.toNatClampNeg (1 : Int32)) 0 0) + (1 : Int32))) 2 x1.toNatClampNeg ((cr_up (cr_up bd 1 x1.toNatClampNeg (1 : Int32)) 0 0 (((cr_up bd 1 x1.toNatClampNeg (1 : Int32)) 0 0) + (1 : Int32))) 0 0))
def md_Board_holdsAny (pl : cr_S) (bd : cr_S) (x1 : Int32) : Int32 :=
  (if (bd 3 x1.toNatClampNeg) = 0 then (0 : Int32) else (1 : Int32))
def lo_Board_rankNow_12 (pl : cr_S) (bd : cr_S) (x1 : Int32) : Nat → Int32 → Int32 → Int32
  | 0, _, _ => 0
  | n_12 + 1, v2_12, v3_12 =>
    (if (pl 0 1) < v3_12 then v2_12 else (if (bd 4 v3_12.toNatClampNeg) = x1 then (lo_Board_rankNow_12 pl bd x1 n_12 (cr_max v2_12 (pl 3 v3_12.toNatClampNeg)) (v3_12 + (1 : Int32))) else (lo_Board_rankNow_12 pl bd x1 n_12 v2_12 (v3_12 + (1 : Int32)))))
def md_Board_rankNow (pl : cr_S) (bd : cr_S) (x1 : Int32) : Int32 :=
  (lo_Board_rankNow_12 pl bd x1 9 (pl 1 x1.toNatClampNeg) (1 : Int32))
def lo_Board_firstOn_7 (pl : cr_S) (bd : cr_S) (x1 : Int32) : Nat → Int32 → Int32 → Int32 → Int32
  | 0, _, _, _ => 0
  | n_7 + 1, v2_7, v3_7, v4_7 =>
    (if (pl 0 0) < v4_7 then v2_7 else (if (pl 2 v4_7.toNatClampNeg) = x1 then (if (bd 1 v4_7.toNatClampNeg) = (1 : Int32) then (if (bd 2 v2_7.toNatClampNeg) ≤ (bd 2 v4_7.toNatClampNeg) then (if v3_7 < (md_Board_rankNow pl bd v4_7) then (lo_Board_firstOn_7 pl bd x1 n_7 v4_7 (md_Board_rankNow pl bd v4_7) (v4_7 + (1 : Int32))) else (if (md_Board_rankNow pl bd v4_7) = v3_7 then (lo_Board_firstOn_7 pl bd x1 n_7 v2_7 v3_7 (v4_7 + (1 : Int32))) else (lo_Board_firstOn_7 pl bd x1 n_7 v2_7 v3_7 (v4_7 + (1 : Int32))))) else (if v3_7 < (md_Board_rankNow pl bd v4_7) then (lo_Board_firstOn_7 pl bd x1 n_7 v4_7 (md_Board_rankNow pl bd v4_7) (v4_7 + (1 : Int32))) else (if (md_Board_rankNow pl bd v4_7) = v3_7 then (lo_Board_firstOn_7 pl bd x1 n_7 v4_7 (md_Board_rankNow pl bd v4_7) (v4_7 + (1 : Int32))) else (lo_Board_firstOn_7 pl bd x1 n_7 v2_7 v3_7 (v4_7 + (1 : Int32)))))) else (lo_Board_firstOn_7 pl bd x1 n_7 v2_7 v3_7 (v4_7 + (1 : Int32)))) else (lo_Board_firstOn_7 pl bd x1 n_7 v2_7 v3_7 (v4_7 + (1 : Int32)))))
def md_Board_firstOn (pl : cr_S) (bd : cr_S) (x1 : Int32) : Int32 :=
  (lo_Board_firstOn_7 pl bd x1 11 (0 : Int32) (0 : Int32) (1 : Int32))
def md_Board_take (pl : cr_S) (bd : cr_S) (x1 : Int32) (x2 : Int32) : cr_S :=
  (cr_up (cr_up (cr_up bd 4 x2.toNatClampNeg x1) 5 x2.toNatClampNeg ((cr_up bd 4 x2.toNatClampNeg x1) 3 x1.toNatClampNeg)) 3 x1.toNatClampNeg x2)
def md_Board_giveBackLast (pl : cr_S) (bd : cr_S) (x1 : Int32) : cr_S :=
  (if (bd 3 x1.toNatClampNeg) = 0 then bd else (cr_up (cr_up (cr_up bd 3 x1.toNatClampNeg (bd 5 (bd 3 x1.toNatClampNeg).toNatClampNeg)) 5 (bd 3 x1.toNatClampNeg).toNatClampNeg (0 : Int32)) 4 (bd 3 x1.toNatClampNeg).toNatClampNeg (0 : Int32)))
def lo_Board_putToSleep_2 (pl : cr_S) (x1 : Int32) : Nat → cr_S → Int32 → cr_S
  | 0, bd_2, _ => bd_2
  | n_2 + 1, bd_2, v2_2 =>
    (if (8 : Int32) ≤ v2_2 then (cr_up bd_2 1 x1.toNatClampNeg (0 : Int32)) else (if (md_Board_holdsAny pl bd_2 x1) = 0 then (cr_up bd_2 1 x1.toNatClampNeg (0 : Int32)) else (lo_Board_putToSleep_2 pl x1 n_2 (md_Board_giveBackLast pl bd_2 x1) (v2_2 + (1 : Int32)))))
def md_Board_putToSleep (pl : cr_S) (bd : cr_S) (x1 : Int32) : cr_S :=
  (lo_Board_putToSleep_2 pl x1 9 bd (0 : Int32))
def md_Locks_spins (lk : cr_S) (x1 : Int32) : Int32 :=
  (if (lk 2 x1.toNatClampNeg) = 0 then (0 : Int32) else (1 : Int32))
def lo_Locks_lastTakenBy_3 (lk : cr_S) (x1 : Int32) : Nat → Int32 → Int32
  | 0, _ => 0
  | n_3 + 1, v2_3 =>
    (if v2_3 < (1 : Int32) then (0 : Int32) else (if (lk 1 v2_3.toNatClampNeg) = x1 then v2_3 else (lo_Locks_lastTakenBy_3 lk x1 n_3 (v2_3 + (-1 : Int32)))))
def md_Locks_lastTakenBy (lk : cr_S) (x1 : Int32) : Int32 :=
  (lo_Locks_lastTakenBy_3 lk x1 9 (8 : Int32))
def md_Locks_acquire (lk : cr_S) (x1 : Int32) (x2 : Int32) : Int32 × cr_S :=
  (if (md_Locks_lastTakenBy lk x1) < x2 then (if (lk 1 x2.toNatClampNeg) = 0 then ((1 : Int32), (cr_up lk 1 x2.toNatClampNeg x1)) else ((0 : Int32), (cr_up (cr_up (cr_up lk 2 x1.toNatClampNeg x2) 0 0 (((cr_up lk 2 x1.toNatClampNeg x2) 0 0) + (1 : Int32))) 3 x1.toNatClampNeg ((cr_up (cr_up lk 2 x1.toNatClampNeg x2) 0 0 (((cr_up lk 2 x1.toNatClampNeg x2) 0 0) + (1 : Int32))) 0 0)))) else ((-16 : Int32), lk))
def lo_Locks_longestSpinnerFor_4 (lk : cr_S) (x1 : Int32) : Nat → Int32 → Int32 → Int32
  | 0, _, _ => 0
  | n_4 + 1, v2_4, v3_4 =>
    (if (3 : Int32) < v3_4 then v2_4 else (if v2_4 = 0 then (if (lk 2 v3_4.toNatClampNeg) = x1 then (lo_Locks_longestSpinnerFor_4 lk x1 n_4 v3_4 (v3_4 + (1 : Int32))) else (lo_Locks_longestSpinnerFor_4 lk x1 n_4 v2_4 (v3_4 + (1 : Int32)))) else (if (lk 3 v2_4.toNatClampNeg) ≤ (lk 3 v3_4.toNatClampNeg) then (if (lk 2 v3_4.toNatClampNeg) = x1 then (lo_Locks_longestSpinnerFor_4 lk x1 n_4 v2_4 (v3_4 + (1 : Int32))) else (lo_Locks_longestSpinnerFor_4 lk x1 n_4 v2_4 (v3_4 + (1 : Int32)))) else (if (lk 2 v3_4.toNatClampNeg) = x1 then (lo_Locks_longestSpinnerFor_4 lk x1 n_4 v3_4 (v3_4 + (1 : Int32))) else (lo_Locks_longestSpinnerFor_4 lk x1 n_4 v2_4 (v3_4 + (1 : Int32)))))))
def md_Locks_longestSpinnerFor (lk : cr_S) (x1 : Int32) : Int32 :=
  (lo_Locks_longestSpinnerFor_4 lk x1 4 (0 : Int32) (1 : Int32))
def md_Locks_release (lk : cr_S) (x1 : Int32) (x2 : Int32) : Int32 × cr_S :=
  (if x2 = (md_Locks_lastTakenBy lk x1) then ((1 : Int32), (cr_up (cr_up lk 1 x2.toNatClampNeg (md_Locks_longestSpinnerFor lk x2)) 2 (md_Locks_longestSpinnerFor lk x2).toNatClampNeg (0 : Int32))) else ((-17 : Int32), lk))
def lo_Locks_waitsForItself_4 (lk : cr_S) (x1 : Int32) : Nat → Int32 → Int32 → Int32
  | 0, _, _ => 0
  | n_4 + 1, v2_4, v3_4 =>
    (if (3 : Int32) ≤ v3_4 then (0 : Int32) else (if (md_Locks_spins lk v2_4) = 0 then (0 : Int32) else (if (lk 1 (lk 2 v2_4.toNatClampNeg).toNatClampNeg) = x1 then (1 : Int32) else (lo_Locks_waitsForItself_4 lk x1 n_4 (lk 1 (lk 2 v2_4.toNatClampNeg).toNatClampNeg) (v3_4 + (1 : Int32))))))
def md_Locks_waitsForItself (lk : cr_S) (x1 : Int32) : Int32 :=
  (lo_Locks_waitsForItself_4 lk x1 4 x1 (0 : Int32))
def md_Trial_ticksWith (pl : cr_S) (tr : cr_S) (tb : cr_S) (x1 : Int32) (x2 : Int32) : Int32 :=
  (cr_min (pl (6 + x1.toNatClampNeg) x2.toNatClampNeg) (3 : Int32))
def lo_Trial_ticksOf_4 (pl : cr_S) (tr : cr_S) (tb : cr_S) (x1 : Int32) : Nat → Int32 → Int32 → Int32
  | 0, _, _ => 0
  | n_4 + 1, v2_4, v3_4 =>
    (if (pl 0 1) < v3_4 then v2_4 else (if (md_Plan_isUsedBy pl x1 v3_4) = 0 then (lo_Trial_ticksOf_4 pl tr tb x1 n_4 v2_4 (v3_4 + (1 : Int32))) else (lo_Trial_ticksOf_4 pl tr tb x1 n_4 (v2_4 + ((md_Trial_ticksWith pl tr tb x1 v3_4) + (1 : Int32))) (v3_4 + (1 : Int32)))))
def md_Trial_ticksOf (pl : cr_S) (tr : cr_S) (tb : cr_S) (x1 : Int32) : Int32 :=
  (lo_Trial_ticksOf_4 pl tr tb x1 9 (1 : Int32) (1 : Int32))
def lo_Trial_resourceAt_5 (pl : cr_S) (tr : cr_S) (tb : cr_S) (x1 : Int32) (x2 : Int32) : Nat → Int32 → Int32 → Int32
  | 0, _, _ => 0
  | n_5 + 1, v3_5, v4_5 =>
    (if (pl 0 1) < v4_5 then (0 : Int32) else (if (md_Plan_isUsedBy pl x1 v4_5) = 0 then (lo_Trial_resourceAt_5 pl tr tb x1 x2 n_5 v3_5 (v4_5 + (1 : Int32))) else (if x2 < v3_5 then (lo_Trial_resourceAt_5 pl tr tb x1 x2 n_5 ((v3_5 + (md_Trial_ticksWith pl tr tb x1 v4_5)) + (1 : Int32)) (v4_5 + (1 : Int32))) else (if (v3_5 + (md_Trial_ticksWith pl tr tb x1 v4_5)) ≤ x2 then (lo_Trial_resourceAt_5 pl tr tb x1 x2 n_5 ((v3_5 + (md_Trial_ticksWith pl tr tb x1 v4_5)) + (1 : Int32)) (v4_5 + (1 : Int32))) else v4_5))))
def md_Trial_resourceAt (pl : cr_S) (tr : cr_S) (tb : cr_S) (x1 : Int32) (x2 : Int32) : Int32 :=
  (lo_Trial_resourceAt_5 pl tr tb x1 x2 9 (1 : Int32) (1 : Int32))
def lo_Trial_noteDelays_2 (pl : cr_S) (tb : cr_S) (x1 : Int32) (x2 : Int32) : Nat → cr_S → Int32 → cr_S
  | 0, tr_2, _ => tr_2
  | n_2 + 1, tr_2, v3_2 =>
    (if (pl 0 0) < v3_2 then tr_2 else (if (tb 1 v3_2.toNatClampNeg) = (1 : Int32) then (if (md_Plan_isBelow pl x1 v3_2) = 0 then (lo_Trial_noteDelays_2 pl tb x1 x2 n_2 tr_2 (v3_2 + (1 : Int32))) else (lo_Trial_noteDelays_2 pl tb x1 x2 n_2 (cr_up tr_2 (3 + v3_2.toNatClampNeg) x1.toNatClampNeg ((tr_2 (3 + v3_2.toNatClampNeg) x1.toNatClampNeg) ||| ((1 : Int32) <<< (x2 &&& 31)))) (v3_2 + (1 : Int32)))) else (lo_Trial_noteDelays_2 pl tb x1 x2 n_2 tr_2 (v3_2 + (1 : Int32)))))
def md_Trial_noteDelays (pl : cr_S) (tr : cr_S) (tb : cr_S) (x1 : Int32) (x2 : Int32) : cr_S :=
  (lo_Trial_noteDelays_2 pl tb x1 x2 11 tr (1 : Int32))
def lo_Trial_countDelays_4 (pl : cr_S) (tr : cr_S) (tb : cr_S) (x1 : Int32) : Nat → Int32 → Int32 → Int32
  | 0, _, _ => 0
  | n_4 + 1, v2_4, v3_4 =>
    (if (pl 0 0) < v3_4 then v2_4 else (lo_Trial_countDelays_4 pl tr tb x1 n_4 (v2_4 + (md_Integer_bitCount  (tr (3 + x1.toNatClampNeg) v3_4.toNatClampNeg))) (v3_4 + (1 : Int32))))
def md_Trial_countDelays (pl : cr_S) (tr : cr_S) (tb : cr_S) (x1 : Int32) : Int32 :=
  (lo_Trial_countDelays_4 pl tr tb x1 11 (0 : Int32) (1 : Int32))
def lo_Trial_clear_22 (pl : cr_S)  : Nat → cr_S → cr_S → Int32 → cr_S × cr_S
  | 0, tr_22, tb_22, _ => (tr_22, tb_22)
  | n_22 + 1, tr_22, tb_22, v1_22 =>
    (if (pl 0 0) < v1_22 then (tr_22, tb_22) else (lo_Trial_clear_22 pl n_22 (cr_fill tr_22 (3 + v1_22.toNatClampNeg) 11 (0 : Int32)) tb_22 (v1_22 + (1 : Int32))))
def md_Trial_clear (pl : cr_S) (tr : cr_S) (tb : cr_S) : cr_S × cr_S :=
  (lo_Trial_clear_22 pl 11 (cr_fill (cr_up tr 0 0 (0 : Int32)) 1 11 (0 : Int32)) (md_Board_clear pl tb) (1 : Int32))
def lo_Trial_startThoseDue_3 (pl : cr_S) (tr : cr_S) (x1 : Int64) (x3 : Int32) : Nat → cr_S → Int32 → cr_S
  | 0, tb_3, _ => tb_3
  | n_3 + 1, tb_3, v4_3 =>
    (if (pl 0 0) < v4_3 then tb_3 else (if (lg_cmp ((x1.toUInt64 >>> (((3 : Int32) * (v4_3 - (1 : Int32))).toInt64.toUInt64 &&& Int64.toUInt64 63)).toInt64 &&& (7 : Int64)) x3.toInt64) = 0 then (lo_Trial_startThoseDue_3 pl tr x1 x3 n_3 (md_Board_makeReady pl tb_3 v4_3) (v4_3 + (1 : Int32))) else (lo_Trial_startThoseDue_3 pl tr x1 x3 n_3 tb_3 (v4_3 + (1 : Int32)))))
def md_Trial_startThoseDue (pl : cr_S) (tr : cr_S) (tb : cr_S) (x1 : Int64) (x3 : Int32) : cr_S :=
  (lo_Trial_startThoseDue_3 pl tr x1 x3 11 tb (1 : Int32))
def jn_Trial_haveTick_81 (pl : cr_S) (x1 : Int32) (tr_81 : cr_S) (tb_81 : cr_S) : cr_S × cr_S :=
  (if (tr_81 1 x1.toNatClampNeg) < (md_Trial_ticksOf pl tr_81 tb_81 x1) then (tr_81, tb_81) else ((cr_up tr_81 0 0 ((tr_81 0 0) + (1 : Int32))), (md_Board_putToSleep pl tb_81 x1)))
def jn_Trial_haveTick_44 (pl : cr_S) (x1 : Int32) (tr_44 : cr_S) (tb_44 : cr_S) (v2_44 : Int32) : cr_S × cr_S :=
  (if v2_44 = 0 then (jn_Trial_haveTick_81 pl x1 (cr_up tr_44 1 x1.toNatClampNeg ((tr_44 1 x1.toNatClampNeg) + (1 : Int32))) tb_44) else (if (md_Trial_resourceAt pl (cr_up tr_44 1 x1.toNatClampNeg ((tr_44 1 x1.toNatClampNeg) + (1 : Int32))) tb_44 x1 ((cr_up tr_44 1 x1.toNatClampNeg ((tr_44 1 x1.toNatClampNeg) + (1 : Int32))) 1 x1.toNatClampNeg)) = v2_44 then (jn_Trial_haveTick_81 pl x1 (cr_up tr_44 1 x1.toNatClampNeg ((tr_44 1 x1.toNatClampNeg) + (1 : Int32))) tb_44) else (jn_Trial_haveTick_81 pl x1 (cr_up tr_44 1 x1.toNatClampNeg ((tr_44 1 x1.toNatClampNeg) + (1 : Int32))) (md_Board_giveBackLast pl tb_44 x1))))
def md_Trial_haveTick (pl : cr_S) (tr : cr_S) (tb : cr_S) (x1 : Int32) : cr_S × cr_S :=
  (if (md_Trial_resourceAt pl tr tb x1 (tr 1 x1.toNatClampNeg)) = 0 then (jn_Trial_haveTick_44 pl x1 tr tb (md_Trial_resourceAt pl tr tb x1 (tr 1 x1.toNatClampNeg))) else (if (tb 4 (md_Trial_resourceAt pl tr tb x1 (tr 1 x1.toNatClampNeg)).toNatClampNeg) = x1 then (jn_Trial_haveTick_44 pl x1 (md_Trial_noteDelays pl tr tb x1 (md_Trial_resourceAt pl tr tb x1 (tr 1 x1.toNatClampNeg))) tb (md_Trial_resourceAt pl tr tb x1 (tr 1 x1.toNatClampNeg))) else (jn_Trial_haveTick_44 pl x1 (md_Trial_noteDelays pl tr (md_Board_take pl tb x1 (md_Trial_resourceAt pl tr tb x1 (tr 1 x1.toNatClampNeg))) x1 (md_Trial_resourceAt pl tr tb x1 (tr 1 x1.toNatClampNeg))) (md_Board_take pl tb x1 (md_Trial_resourceAt pl tr tb x1 (tr 1 x1.toNatClampNeg))) (md_Trial_resourceAt pl tr tb x1 (tr 1 x1.toNatClampNeg)))))
def lo_Trial_mostDelays_81 (pl : cr_S) (tr : cr_S) (tb : cr_S) (x1 : Int64) : Nat → Int32 → Int32 → Int32 × cr_S × cr_S
  | 0, _, _ => (0, tr, tb)
  | n_81 + 1, v3_81, v4_81 =>
    (if (pl 0 0) < v4_81 then (v3_81, tr, tb) else (lo_Trial_mostDelays_81 pl tr tb x1 n_81 (cr_max v3_81 (md_Trial_countDelays pl tr tb v4_81)) (v4_81 + (1 : Int32))))
def lo_Trial_mostDelays_36 (pl : cr_S) (x1 : Int64) (w3 : Int32) : Nat → cr_S → cr_S → Int32 → cr_S × cr_S
  | 0, tr_36, tb_36, _ => (tr_36, tb_36)
  | n_36 + 1, tr_36, tb_36, v4_36 =>
    (if (3 : Int32) < v4_36 then (tr_36, tb_36) else (if (md_Board_firstOn pl tb_36 v4_36) = 0 then (lo_Trial_mostDelays_36 pl x1 w3 n_36 tr_36 tb_36 (v4_36 + (1 : Int32))) else (lo_Trial_mostDelays_36 pl x1 w3 n_36 ((md_Trial_haveTick pl tr_36 tb_36 (md_Board_firstOn pl tb_36 v4_36)).1) ((md_Trial_haveTick pl tr_36 tb_36 (md_Board_firstOn pl tb_36 v4_36)).2) (v4_36 + (1 : Int32)))))
def lo_Trial_mostDelays_6 (pl : cr_S) (x1 : Int64) : Nat → cr_S → cr_S → Int32 → Int32 × cr_S × cr_S
  | 0, tr_6, tb_6, _ => (0, tr_6, tb_6)
  | n_6 + 1, tr_6, tb_6, v3_6 =>
    (if (338 : Int32) ≤ v3_6 then (lo_Trial_mostDelays_81 pl tr_6 tb_6 x1 11 (0 : Int32) (1 : Int32)) else (if (pl 0 0) ≤ (tr_6 0 0) then (lo_Trial_mostDelays_81 pl tr_6 tb_6 x1 11 (0 : Int32) (1 : Int32)) else (lo_Trial_mostDelays_6 pl x1 n_6 (lo_Trial_mostDelays_36 pl x1 v3_6 4 tr_6 (md_Trial_startThoseDue pl tr_6 tb_6 x1 v3_6) (1 : Int32)).1 (lo_Trial_mostDelays_36 pl x1 v3_6 4 tr_6 (md_Trial_startThoseDue pl tr_6 tb_6 x1 v3_6) (1 : Int32)).2 (v3_6 + (1 : Int32)))))
def md_Trial_mostDelays (pl : cr_S) (tr : cr_S) (tb : cr_S) (x1 : Int64) : Int32 × cr_S × cr_S :=
  (lo_Trial_mostDelays_6 pl x1 339 ((md_Trial_clear pl tr tb).1) ((md_Trial_clear pl tr tb).2) (0 : Int32))
def md_Main_isCore  (x0 : Int32) : Int32 :=
  (if x0 < (1 : Int32) then (0 : Int32) else (if (3 : Int32) < x0 then (0 : Int32) else (1 : Int32)))
def md_Main_runs (mn : cr_S) (lt : Int64) (pl : cr_S) (bd : cr_S) (lk : cr_S) (tr : cr_S) (tb : cr_S) (x1 : Int32) : Int32 :=
  (if (md_Locks_spins lk (pl 2 x1.toNatClampNeg)) = 0 then (if (md_Board_firstOn pl bd (pl 2 x1.toNatClampNeg)) = x1 then (1 : Int32) else (0 : Int32)) else (0 : Int32))
def md_Main_startTask (mn : cr_S) (lt : Int64) (pl : cr_S) (bd : cr_S) (lk : cr_S) (tr : cr_S) (tb : cr_S) (x1 : Int32) : Int32 × cr_S :=
  (if (bd 1 x1.toNatClampNeg) = 0 then (if (md_Main_runs mn lt pl (md_Board_makeReady pl bd x1) lk tr tb x1) = 0 then ((0 : Int32), (md_Board_makeReady pl bd x1)) else ((1 : Int32), (md_Board_makeReady pl bd x1))) else ((-3 : Int32), bd))
def md_Main_sendEvent (mn : cr_S) (lt : Int64) (pl : cr_S) (bd : cr_S) (lk : cr_S) (tr : cr_S) (tb : cr_S) (x1 : Int32) : Int32 × cr_S × Int64 × cr_S :=
  (if (bd 1 x1.toNatClampNeg) = 0 then ((-3 : Int32), mn, lt, bd) else (if (bd 1 x1.toNatClampNeg) = (2 : Int32) then (if (md_Main_runs mn lt pl (md_Board_makeReady pl bd x1) lk tr tb x1) = 0 then ((0 : Int32), mn, lt, (md_Board_makeReady pl bd x1)) else ((1 : Int32), mn, lt, (md_Board_makeReady pl bd x1))) else (if (md_Main_runs (cr_up mn 1 x1.toNatClampNeg (1 : Int32)) lt pl bd lk tr tb x1) = 0 then ((0 : Int32), (cr_up mn 1 x1.toNatClampNeg (1 : Int32)), lt, bd) else ((1 : Int32), (cr_up mn 1 x1.toNatClampNeg (1 : Int32)), lt, bd))))
def md_Main_takeResource (mn : cr_S) (lt : Int64) (pl : cr_S) (bd : cr_S) (lk : cr_S) (tr : cr_S) (tb : cr_S) (x1 : Int32) (x2 : Int32) : Int32 × cr_S :=
  (if (md_Plan_isUsedBy pl x1 x2) = 0 then ((-11 : Int32), bd) else (if (bd 4 x2.toNatClampNeg) = x1 then ((-12 : Int32), bd) else ((1 : Int32), (md_Board_take pl bd x1 x2))))
def md_Main_giveBackResource (mn : cr_S) (lt : Int64) (pl : cr_S) (bd : cr_S) (lk : cr_S) (tr : cr_S) (tb : cr_S) (x1 : Int32) (x2 : Int32) : Int32 × cr_S :=
  (if (bd 3 x1.toNatClampNeg) = x2 then ((1 : Int32), (md_Board_giveBackLast pl bd x1)) else ((-13 : Int32), bd))
def md_Main_endTask (mn : cr_S) (lt : Int64) (pl : cr_S) (bd : cr_S) (lk : cr_S) (tr : cr_S) (tb : cr_S) (x1 : Int32) : Int32 × cr_S × Int64 × cr_S :=
  (if (md_Board_holdsAny pl bd x1) = 0 then ((1 : Int32), (cr_up mn 1 x1.toNatClampNeg (0 : Int32)), lt, (md_Board_putToSleep pl bd x1)) else ((-14 : Int32), (cr_up mn 1 x1.toNatClampNeg (0 : Int32)), lt, (md_Board_putToSleep pl bd x1)))
def md_Main_waitForEvent (mn : cr_S) (lt : Int64) (pl : cr_S) (bd : cr_S) (lk : cr_S) (tr : cr_S) (tb : cr_S) (x1 : Int32) : Int32 × cr_S × Int64 × cr_S :=
  (if (md_Board_holdsAny pl bd x1) = 0 then (if (mn 1 x1.toNatClampNeg) = 0 then ((0 : Int32), mn, lt, (cr_up bd 1 x1.toNatClampNeg (2 : Int32))) else ((1 : Int32), (cr_up mn 1 x1.toNatClampNeg (0 : Int32)), lt, bd)) else ((-15 : Int32), mn, lt, bd))
def md_Main_task (mn : cr_S) (lt : Int64) (pl : cr_S) (bd : cr_S) (lk : cr_S) (tr : cr_S) (tb : cr_S) (x1 : Int32) (x2 : Int32) : Int32 × cr_S :=
  (if x1 < (1 : Int32) then ((-2 : Int32), pl) else (if (20 : Int32) < x1 then ((-2 : Int32), pl) else (if (md_Main_isCore  x2) = 0 then ((-2 : Int32), pl) else (if (pl 0 0) < (10 : Int32) then (((md_Plan_addTask pl x1 x2).1), ((md_Plan_addTask pl x1 x2).2)) else ((-4 : Int32), pl)))))
def md_Main_resource (mn : cr_S) (lt : Int64) (pl : cr_S) (bd : cr_S) (lk : cr_S) (tr : cr_S) (tb : cr_S) : Int32 × cr_S :=
  (if (pl 0 1) < (8 : Int32) then (((md_Plan_addResource pl).1), ((md_Plan_addResource pl).2)) else ((-4 : Int32), pl))
def md_Main_uses (mn : cr_S) (lt : Int64) (pl : cr_S) (bd : cr_S) (lk : cr_S) (tr : cr_S) (tb : cr_S) (x1 : Int32) (x2 : Int32) (x3 : Int64) : Int32 × cr_S :=
  (if (md_Plan_hasTask pl x1) = 0 then ((-1 : Int32), pl) else (if (md_Plan_hasResource pl x2) = 0 then ((-1 : Int32), pl) else (if (lg_cmp x3 (1 : Int64)) < 0 then ((-2 : Int32), pl) else (if (lg_cmp x3 (1000 : Int64)) ≤ 0 then (if (md_Board_allSleepOn pl bd (pl 2 x1.toNatClampNeg)) = 0 then ((-3 : Int32), pl) else (if (md_Plan_isUsedByAnotherCore pl x2 (pl 2 x1.toNatClampNeg)) = 0 then (if (md_Plan_isUsedBy pl x1 x2) = 0 then ((1 : Int32), (md_Plan_setUse pl x1 x2 x3.toInt32)) else ((0 : Int32), (md_Plan_setUse pl x1 x2 x3.toInt32))) else ((-3 : Int32), pl))) else ((-2 : Int32), pl)))))
def md_Main_ceiling (mn : cr_S) (lt : Int64) (pl : cr_S) (bd : cr_S) (lk : cr_S) (tr : cr_S) (tb : cr_S) (x1 : Int32) : Int32 :=
  (if (md_Plan_hasResource pl x1) = 0 then (-1 : Int32) else (pl 3 x1.toNatClampNeg))
def md_Main_perform (mn : cr_S) (lt : Int64) (pl : cr_S) (bd : cr_S) (lk : cr_S) (tr : cr_S) (tb : cr_S) (x1 : Int32) (x2 : Int32) (x3 : Int32) : Int32 × cr_S × Int64 × cr_S :=
  (if x2 = 0 then (((md_Main_startTask mn lt pl bd lk tr tb x1).1), mn, lt, ((md_Main_startTask mn lt pl bd lk tr tb x1).2)) else (if x2 = (5 : Int32) then (((md_Main_sendEvent mn lt pl bd lk tr tb x1).1), ((md_Main_sendEvent mn lt pl bd lk tr tb x1).2.1), ((md_Main_sendEvent mn lt pl bd lk tr tb x1).2.2.1), ((md_Main_sendEvent mn lt pl bd lk tr tb x1).2.2.2)) else (if (bd 1 x1.toNatClampNeg) = (1 : Int32) then (if (md_Main_runs mn lt pl bd lk tr tb x1) = 0 then ((0 : Int32), mn, lt, bd) else (if x2 = 1 then (((md_Main_takeResource mn lt pl bd lk tr tb x1 x3).1), mn, lt, ((md_Main_takeResource mn lt pl bd lk tr tb x1 x3).2)) else (if x2 = 2 then (((md_Main_giveBackResource mn lt pl bd lk tr tb x1 x3).1), mn, lt, ((md_Main_giveBackResource mn lt pl bd lk tr tb x1 x3).2)) else (if x2 = 3 then (((md_Main_endTask mn lt pl bd lk tr tb x1).1), ((md_Main_endTask mn lt pl bd lk tr tb x1).2.1), ((md_Main_endTask mn lt pl bd lk tr tb x1).2.2.1), ((md_Main_endTask mn lt pl bd lk tr tb x1).2.2.2)) else (((md_Main_waitForEvent mn lt pl bd lk tr tb x1).1), ((md_Main_waitForEvent mn lt pl bd lk tr tb x1).2.1), ((md_Main_waitForEvent mn lt pl bd lk tr tb x1).2.2.1), ((md_Main_waitForEvent mn lt pl bd lk tr tb x1).2.2.2)))))) else ((-3 : Int32), mn, lt, bd))))
def md_Main_step (mn : cr_S) (lt : Int64) (pl : cr_S) (bd : cr_S) (lk : cr_S) (tr : cr_S) (tb : cr_S) (x1 : Int32) (x2 : Int32) (x3 : Int32) (x4 : Int64) : Int32 × cr_S × Int64 × cr_S :=
  (if x2 = (1 : Int32) then (if (md_Plan_hasTask pl x1) = 0 then ((-1 : Int32), mn, lt, bd) else (if (md_Plan_hasResource pl x3) = 0 then ((-1 : Int32), mn, lt, bd) else (if x2 < 0 then ((-2 : Int32), mn, lt, bd) else (if (5 : Int32) < x2 then ((-2 : Int32), mn, lt, bd) else (if (lg_cmp x4 lt) < 0 then ((-2 : Int32), mn, lt, bd) else (if (lg_cmp x4 (1000000000 : Int64)) ≤ 0 then (if 0 ≤ ((md_Main_perform mn lt pl bd lk tr tb x1 x2 x3).1) then (((md_Main_perform mn lt pl bd lk tr tb x1 x2 x3).1), ((md_Main_perform mn lt pl bd lk tr tb x1 x2 x3).2.1), x4, ((md_Main_perform mn lt pl bd lk tr tb x1 x2 x3).2.2.2)) else (if ((md_Main_perform mn lt pl bd lk tr tb x1 x2 x3).1) = (-14 : Int32) then (((md_Main_perform mn lt pl bd lk tr tb x1 x2 x3).1), ((md_Main_perform mn lt pl bd lk tr tb x1 x2 x3).2.1), x4, ((md_Main_perform mn lt pl bd lk tr tb x1 x2 x3).2.2.2)) else (((md_Main_perform mn lt pl bd lk tr tb x1 x2 x3).1), ((md_Main_perform mn lt pl bd lk tr tb x1 x2 x3).2.1), ((md_Main_perform mn lt pl bd lk tr tb x1 x2 x3).2.2.1), ((md_Main_perform mn lt pl bd lk tr tb x1 x2 x3).2.2.2)))) else ((-2 : Int32), mn, lt, bd))))))) else (if x2 = (2 : Int32) then (if (md_Plan_hasTask pl x1) = 0 then ((-1 : Int32), mn, lt, bd) else (if (md_Plan_hasResource pl x3) = 0 then ((-1 : Int32), mn, lt, bd) else (if x2 < 0 then ((-2 : Int32), mn, lt, bd) else (if (5 : Int32) < x2 then ((-2 : Int32), mn, lt, bd) else (if (lg_cmp x4 lt) < 0 then ((-2 : Int32), mn, lt, bd) else (if (lg_cmp x4 (1000000000 : Int64)) ≤ 0 then (if 0 ≤ ((md_Main_perform mn lt pl bd lk tr tb x1 x2 x3).1) then (((md_Main_perform mn lt pl bd lk tr tb x1 x2 x3).1), ((md_Main_perform mn lt pl bd lk tr tb x1 x2 x3).2.1), x4, ((md_Main_perform mn lt pl bd lk tr tb x1 x2 x3).2.2.2)) else (if ((md_Main_perform mn lt pl bd lk tr tb x1 x2 x3).1) = (-14 : Int32) then (((md_Main_perform mn lt pl bd lk tr tb x1 x2 x3).1), ((md_Main_perform mn lt pl bd lk tr tb x1 x2 x3).2.1), x4, ((md_Main_perform mn lt pl bd lk tr tb x1 x2 x3).2.2.2)) else (((md_Main_perform mn lt pl bd lk tr tb x1 x2 x3).1), ((md_Main_perform mn lt pl bd lk tr tb x1 x2 x3).2.1), ((md_Main_perform mn lt pl bd lk tr tb x1 x2 x3).2.2.1), ((md_Main_perform mn lt pl bd lk tr tb x1 x2 x3).2.2.2)))) else ((-2 : Int32), mn, lt, bd))))))) else (if (md_Plan_hasTask pl x1) = 0 then ((-1 : Int32), mn, lt, bd) else (if x2 < 0 then ((-2 : Int32), mn, lt, bd) else (if (5 : Int32) < x2 then ((-2 : Int32), mn, lt, bd) else (if (lg_cmp x4 lt) < 0 then ((-2 : Int32), mn, lt, bd) else (if (lg_cmp x4 (1000000000 : Int64)) ≤ 0 then (if 0 ≤ ((md_Main_perform mn lt pl bd lk tr tb x1 x2 x3).1) then (((md_Main_perform mn lt pl bd lk tr tb x1 x2 x3).1), ((md_Main_perform mn lt pl bd lk tr tb x1 x2 x3).2.1), x4, ((md_Main_perform mn lt pl bd lk tr tb x1 x2 x3).2.2.2)) else (if ((md_Main_perform mn lt pl bd lk tr tb x1 x2 x3).1) = (-14 : Int32) then (((md_Main_perform mn lt pl bd lk tr tb x1 x2 x3).1), ((md_Main_perform mn lt pl bd lk tr tb x1 x2 x3).2.1), x4, ((md_Main_perform mn lt pl bd lk tr tb x1 x2 x3).2.2.2)) else (((md_Main_perform mn lt pl bd lk tr tb x1 x2 x3).1), ((md_Main_perform mn lt pl bd lk tr tb x1 x2 x3).2.1), ((md_Main_perform mn lt pl bd lk tr tb x1 x2 x3).2.2.1), ((md_Main_perform mn lt pl bd lk tr tb x1 x2 x3).2.2.2)))) else ((-2 : Int32), mn, lt, bd))))))))
def md_Main_rank (mn : cr_S) (lt : Int64) (pl : cr_S) (bd : cr_S) (lk : cr_S) (tr : cr_S) (tb : cr_S) (x1 : Int32) : Int32 :=
  (if (md_Plan_hasTask pl x1) = 0 then (-1 : Int32) else (md_Board_rankNow pl bd x1))
def md_Main_holder (mn : cr_S) (lt : Int64) (pl : cr_S) (bd : cr_S) (lk : cr_S) (tr : cr_S) (tb : cr_S) (x1 : Int32) : Int32 :=
  (if (md_Plan_hasResource pl x1) = 0 then (-1 : Int32) else (bd 4 x1.toNatClampNeg))
def lo_Main_blocking_19 (mn : cr_S) (lt : Int64) (pl : cr_S) (bd : cr_S) (lk : cr_S) (tr : cr_S) (tb : cr_S) (x1 : Int32) : Nat → Int32 → Int32 → Int64
  | 0, _, _ => 0
  | n_19 + 1, v2_19, v3_19 =>
    (if (pl 0 0) < v3_19 then v2_19.toInt64 else (lo_Main_blocking_19 mn lt pl bd lk tr tb x1 n_19 (cr_max v2_19 (md_Plan_longestDelay pl x1 v3_19)) (v3_19 + (1 : Int32))))
def md_Main_blocking (mn : cr_S) (lt : Int64) (pl : cr_S) (bd : cr_S) (lk : cr_S) (tr : cr_S) (tb : cr_S) (x1 : Int32) : Int64 :=
  (if (md_Plan_hasTask pl x1) = 0 then (-1 : Int64) else (lo_Main_blocking_19 mn lt pl bd lk tr tb x1 11 (0 : Int32) (1 : Int32)))
def md_Main_lock (mn : cr_S) (lt : Int64) (pl : cr_S) (bd : cr_S) (lk : cr_S) (tr : cr_S) (tb : cr_S) (x1 : Int32) (x2 : Int32) : Int32 × cr_S :=
  (if (md_Main_isCore  x1) = 0 then ((-1 : Int32), lk) else (if x2 = 0 then ((-2 : Int32), lk) else (if x2 < (-8 : Int32) then ((-2 : Int32), lk) else (if x2 ≤ (8 : Int32) then (if (md_Locks_spins lk x1) = 0 then (if x2 ≤ 0 then (((md_Locks_release lk x1 (-x2)).1), ((md_Locks_release lk x1 (-x2)).2)) else (((md_Locks_acquire lk x1 x2).1), ((md_Locks_acquire lk x1 x2).2))) else ((-3 : Int32), lk)) else ((-2 : Int32), lk)))))
def lo_Main_ring_2 (mn : cr_S) (lt : Int64) (pl : cr_S) (bd : cr_S) (lk : cr_S) (tr : cr_S) (tb : cr_S)  : Nat → Int32 → Int32
  | 0, _ => 0
  | n_2 + 1, v1_2 =>
    (if (3 : Int32) < v1_2 then (0 : Int32) else (if (md_Locks_waitsForItself lk v1_2) = 0 then (lo_Main_ring_2 mn lt pl bd lk tr tb n_2 (v1_2 + (1 : Int32))) else (1 : Int32)))
def md_Main_ring (mn : cr_S) (lt : Int64) (pl : cr_S) (bd : cr_S) (lk : cr_S) (tr : cr_S) (tb : cr_S) : Int32 :=
  (lo_Main_ring_2 mn lt pl bd lk tr tb 4 (1 : Int32))
def lo_Main_lower_18 (mn : cr_S) (lt : Int64) (pl : cr_S) (bd : cr_S) (lk : cr_S) (tr : cr_S) (tb : cr_S) (x1 : Int32) (x2 : Int32) : Nat → Int32 → Int32 → Int32
  | 0, _, _ => 0
  | n_18 + 1, v3_18, v4_18 =>
    (if (pl 0 0) < v4_18 then (0 : Int32) else (if (md_Plan_longestDelay pl x1 v4_18) ≤ 0 then (lo_Main_lower_18 mn lt pl bd lk tr tb x1 x2 n_18 v3_18 (v4_18 + (1 : Int32))) else (if v3_18 = x2 then v4_18 else (lo_Main_lower_18 mn lt pl bd lk tr tb x1 x2 n_18 (v3_18 + (1 : Int32)) (v4_18 + (1 : Int32))))))
def md_Main_lower (mn : cr_S) (lt : Int64) (pl : cr_S) (bd : cr_S) (lk : cr_S) (tr : cr_S) (tb : cr_S) (x1 : Int32) (x2 : Int32) : Int32 :=
  (if (md_Plan_hasTask pl x1) = 0 then (-1 : Int32) else (lo_Main_lower_18 mn lt pl bd lk tr tb x1 x2 11 (0 : Int32) (1 : Int32)))
def md_Main_plain (mn : cr_S) (lt : Int64) (pl : cr_S) (bd : cr_S) (lk : cr_S) (tr : cr_S) (tb : cr_S) (x1 : Int64) : Int32 × cr_S × cr_S :=
  (((md_Trial_mostDelays pl tr tb x1).1), ((md_Trial_mostDelays pl tr tb x1).2.1), ((md_Trial_mostDelays pl tr tb x1).2.2))
def cr_rh (σ : cr_S) (k : Nat) (lo hi : Int) : Prop := ∀ j, lo ≤ (σ k j).toInt ∧ (σ k j).toInt ≤ hi
theorem cr_rho {σ : cr_S} {k : Nat} {lo hi : Int} (h : cr_rh σ k lo hi) (j : Nat) : lo ≤ (σ k j).toInt ∧ (σ k j).toInt ≤ hi := h j
theorem cr_rh_up {σ : cr_S} {k k' j : Nat} {lo hi : Int} {x : Int32} (h : cr_rh σ k lo hi) (hx : k = k' → lo ≤ x.toInt ∧ x.toInt ≤ hi) : cr_rh (cr_up σ k' j x) k lo hi := by
  intro i
  unfold cr_up
  by_cases e : k = k'
  · rw [if_pos e]
    unfold upd
    by_cases e2 : i = j
    · rw [if_pos e2]; exact hx e
    · rw [if_neg e2, ← e]; exact h i
  · rw [if_neg e]; exact h i
def cr_RRef (σ : cr_S) : Prop := cr_rf σ 0 0 10 ∧ cr_rf σ 0 2 8 ∧ cr_rg σ 2 3 ∧ cr_rg σ 9 3 ∧ cr_rg σ 11 8 ∧ cr_rh σ 16 (-1) 8
def md_Ref_isTask (rf : cr_S) (lat : Int64) (ln : (Nat → Int64)) (x1 : Int32) : Int32 :=
  (if x1 < (1 : Int32) then (0 : Int32) else (if (rf 0 0) < x1 then (0 : Int32) else (1 : Int32)))
def md_Ref_isResource (rf : cr_S) (lat : Int64) (ln : (Nat → Int64)) (x1 : Int32) : Int32 :=
  (if x1 < (1 : Int32) then (0 : Int32) else (if (rf 0 2) < x1 then (0 : Int32) else (1 : Int32)))
def md_Ref_task (rf : cr_S) (lat : Int64) (ln : (Nat → Int64)) (x1 : Int32) (x2 : Int32) : Int32 × cr_S :=
  (if x1 < (1 : Int32) then ((-2 : Int32), rf) else (if (20 : Int32) < x1 then ((-2 : Int32), rf) else (if x2 < (1 : Int32) then ((-2 : Int32), rf) else (if x2 ≤ (3 : Int32) then (if (rf 0 0) = (10 : Int32) then ((-4 : Int32), rf) else (((cr_up (cr_up (cr_up rf 0 0 ((rf 0 0) + (1 : Int32))) 1 ((cr_up rf 0 0 ((rf 0 0) + (1 : Int32))) 0 0).toNatClampNeg x1) 2 ((cr_up (cr_up rf 0 0 ((rf 0 0) + (1 : Int32))) 1 ((cr_up rf 0 0 ((rf 0 0) + (1 : Int32))) 0 0).toNatClampNeg x1) 0 0).toNatClampNeg x2) 0 0), (cr_up (cr_up (cr_up rf 0 0 ((rf 0 0) + (1 : Int32))) 1 ((cr_up rf 0 0 ((rf 0 0) + (1 : Int32))) 0 0).toNatClampNeg x1) 2 ((cr_up (cr_up rf 0 0 ((rf 0 0) + (1 : Int32))) 1 ((cr_up rf 0 0 ((rf 0 0) + (1 : Int32))) 0 0).toNatClampNeg x1) 0 0).toNatClampNeg x2))) else ((-2 : Int32), rf)))))
def md_Ref_resource (rf : cr_S) (lat : Int64) (ln : (Nat → Int64)) : Int32 × cr_S :=
  (if (rf 0 2) = (8 : Int32) then ((-4 : Int32), rf) else (((cr_up rf 0 2 ((rf 0 2) + (1 : Int32))) 0 2), (cr_up rf 0 2 ((rf 0 2) + (1 : Int32)))))
def lo_Ref_uses_38 (rf : cr_S) (lat : Int64) (ln : (Nat → Int64)) (x1 : Int32) (x2 : Int32) (x3 : Int64) : Nat → Int32 → Int32 × (Nat → Int64)
  | 0, _ => (0, ln)
  | n_38 + 1, v5_38 =>
    (if (rf 0 0) < v5_38 then (if (lg_cmp (ln (((9 : Int32) * x1) + x2).toNatClampNeg) (0 : Int64)) ≤ 0 then ((1 : Int32), (vp_updL ln (((9 : Int32) * x1) + x2).toNatClampNeg x3)) else ((0 : Int32), (vp_updL ln (((9 : Int32) * x1) + x2).toNatClampNeg x3))) else (if (rf 2 v5_38.toNatClampNeg) = (rf 2 x1.toNatClampNeg) then (if (rf 3 v5_38.toNatClampNeg) = 0 then (if (rf 2 v5_38.toNatClampNeg) = (rf 2 x1.toNatClampNeg) then (lo_Ref_uses_38 rf lat ln x1 x2 x3 n_38 (v5_38 + (1 : Int32))) else (if (lg_cmp (ln (((9 : Int32) * v5_38) + x2).toNatClampNeg) (0 : Int64)) ≤ 0 then (lo_Ref_uses_38 rf lat ln x1 x2 x3 n_38 (v5_38 + (1 : Int32))) else ((-3 : Int32), ln))) else ((-3 : Int32), ln)) else (if (rf 2 v5_38.toNatClampNeg) = (rf 2 x1.toNatClampNeg) then (lo_Ref_uses_38 rf lat ln x1 x2 x3 n_38 (v5_38 + (1 : Int32))) else (if (lg_cmp (ln (((9 : Int32) * v5_38) + x2).toNatClampNeg) (0 : Int64)) ≤ 0 then (lo_Ref_uses_38 rf lat ln x1 x2 x3 n_38 (v5_38 + (1 : Int32))) else ((-3 : Int32), ln)))))
def md_Ref_uses (rf : cr_S) (lat : Int64) (ln : (Nat → Int64)) (x1 : Int32) (x2 : Int32) (x3 : Int64) : Int32 × (Nat → Int64) :=
  (if (md_Ref_isTask rf lat ln x1) = 0 then ((-1 : Int32), ln) else (if (md_Ref_isResource rf lat ln x2) = 0 then ((-1 : Int32), ln) else (if (lg_cmp x3 (1 : Int64)) < 0 then ((-2 : Int32), ln) else (if (lg_cmp x3 (1000 : Int64)) ≤ 0 then (lo_Ref_uses_38 rf lat ln x1 x2 x3 11 (1 : Int32)) else ((-2 : Int32), ln)))))
def lo_Ref_ceilingOf_4 (rf : cr_S) (lat : Int64) (ln : (Nat → Int64)) (x1 : Int32) : Nat → Int32 → Int32 → Int32
  | 0, _, _ => 0
  | n_4 + 1, v2_4, v3_4 =>
    (if (rf 0 0) < v3_4 then v2_4 else (if (lg_cmp (ln (((9 : Int32) * v3_4) + x1).toNatClampNeg) (0 : Int64)) ≤ 0 then (lo_Ref_ceilingOf_4 rf lat ln x1 n_4 v2_4 (v3_4 + (1 : Int32))) else (if (rf 1 v3_4.toNatClampNeg) ≤ v2_4 then (lo_Ref_ceilingOf_4 rf lat ln x1 n_4 v2_4 (v3_4 + (1 : Int32))) else (lo_Ref_ceilingOf_4 rf lat ln x1 n_4 (rf 1 v3_4.toNatClampNeg) (v3_4 + (1 : Int32))))))
def md_Ref_ceilingOf (rf : cr_S) (lat : Int64) (ln : (Nat → Int64)) (x1 : Int32) : Int32 :=
  (lo_Ref_ceilingOf_4 rf lat ln x1 11 (0 : Int32) (1 : Int32))
def md_Ref_ceiling (rf : cr_S) (lat : Int64) (ln : (Nat → Int64)) (x1 : Int32) : Int32 :=
  (if (md_Ref_isResource rf lat ln x1) = 0 then (-1 : Int32) else (md_Ref_ceilingOf rf lat ln x1))
def lo_Ref_rankNow_9 (rf : cr_S) (lat : Int64) (ln : (Nat → Int64)) (x1 : Int32) : Nat → Int32 → Int32 → Int32
  | 0, _, _ => 0
  | n_9 + 1, v2_9, v3_9 =>
    (if (rf 0 2) < v3_9 then v2_9 else (if (rf 7 v3_9.toNatClampNeg) = x1 then (if (md_Ref_ceilingOf rf lat ln v3_9) ≤ v2_9 then (lo_Ref_rankNow_9 rf lat ln x1 n_9 v2_9 (v3_9 + (1 : Int32))) else (lo_Ref_rankNow_9 rf lat ln x1 n_9 (md_Ref_ceilingOf rf lat ln v3_9) (v3_9 + (1 : Int32)))) else (lo_Ref_rankNow_9 rf lat ln x1 n_9 v2_9 (v3_9 + (1 : Int32)))))
def md_Ref_rankNow (rf : cr_S) (lat : Int64) (ln : (Nat → Int64)) (x1 : Int32) : Int32 :=
  (lo_Ref_rankNow_9 rf lat ln x1 9 (rf 1 x1.toNatClampNeg) (1 : Int32))
def lo_Ref_running_4 (rf : cr_S) (lat : Int64) (ln : (Nat → Int64)) (x1 : Int32) : Nat → Int32 → Int32 → Int32
  | 0, _, _ => 0
  | n_4 + 1, v2_4, v3_4 =>
    (if (rf 0 0) < v3_4 then v2_4 else (if (rf 11 x1.toNatClampNeg) = 0 then (if (rf 2 v3_4.toNatClampNeg) = x1 then (if (rf 3 v3_4.toNatClampNeg) = (1 : Int32) then (if v2_4 = 0 then (lo_Ref_running_4 rf lat ln x1 n_4 v3_4 (v3_4 + (1 : Int32))) else (if 0 < ((md_Ref_rankNow rf lat ln v3_4) - (md_Ref_rankNow rf lat ln v2_4)) then (lo_Ref_running_4 rf lat ln x1 n_4 v3_4 (v3_4 + (1 : Int32))) else (if ((md_Ref_rankNow rf lat ln v3_4) - (md_Ref_rankNow rf lat ln v2_4)) = 0 then (if (rf 4 v2_4.toNatClampNeg) ≤ (rf 4 v3_4.toNatClampNeg) then (lo_Ref_running_4 rf lat ln x1 n_4 v2_4 (v3_4 + (1 : Int32))) else (lo_Ref_running_4 rf lat ln x1 n_4 v3_4 (v3_4 + (1 : Int32)))) else (lo_Ref_running_4 rf lat ln x1 n_4 v2_4 (v3_4 + (1 : Int32)))))) else (lo_Ref_running_4 rf lat ln x1 n_4 v2_4 (v3_4 + (1 : Int32)))) else (lo_Ref_running_4 rf lat ln x1 n_4 v2_4 (v3_4 + (1 : Int32)))) else v2_4))
def md_Ref_running (rf : cr_S) (lat : Int64) (ln : (Nat → Int64)) (x1 : Int32) : Int32 :=
  (lo_Ref_running_4 rf lat ln x1 11 (0 : Int32) (1 : Int32))
def md_Ref_runs (rf : cr_S) (lat : Int64) (ln : (Nat → Int64)) (x1 : Int32) : Int32 :=
  (if (md_Ref_running rf lat ln (rf 2 x1.toNatClampNeg)) = x1 then (1 : Int32) else (0 : Int32))
def md_Ref_ready (rf : cr_S) (lat : Int64) (ln : (Nat → Int64)) (x1 : Int32) : cr_S :=
  (cr_up (cr_up (cr_up rf 3 x1.toNatClampNeg (1 : Int32)) 0 1 (((cr_up rf 3 x1.toNatClampNeg (1 : Int32)) 0 1) + (1 : Int32))) 4 x1.toNatClampNeg ((cr_up (cr_up rf 3 x1.toNatClampNeg (1 : Int32)) 0 1 (((cr_up rf 3 x1.toNatClampNeg (1 : Int32)) 0 1) + (1 : Int32))) 0 1))
def lo_Ref_last_4 (rf : cr_S) (lat : Int64) (ln : (Nat → Int64)) (x1 : Int32) : Nat → Int32 → Int32 → Int32
  | 0, _, _ => 0
  | n_4 + 1, v2_4, v3_4 =>
    (if (rf 0 2) < v3_4 then v2_4 else (if (rf 7 v3_4.toNatClampNeg) = x1 then (if v2_4 = 0 then (lo_Ref_last_4 rf lat ln x1 n_4 v3_4 (v3_4 + (1 : Int32))) else (if (rf 8 v3_4.toNatClampNeg) ≤ (rf 8 v2_4.toNatClampNeg) then (lo_Ref_last_4 rf lat ln x1 n_4 v2_4 (v3_4 + (1 : Int32))) else (lo_Ref_last_4 rf lat ln x1 n_4 v3_4 (v3_4 + (1 : Int32))))) else (lo_Ref_last_4 rf lat ln x1 n_4 v2_4 (v3_4 + (1 : Int32)))))
def md_Ref_last (rf : cr_S) (lat : Int64) (ln : (Nat → Int64)) (x1 : Int32) : Int32 :=
  (lo_Ref_last_4 rf lat ln x1 9 (0 : Int32) (1 : Int32))
def md_Ref_rank (rf : cr_S) (lat : Int64) (ln : (Nat → Int64)) (x1 : Int32) : Int32 :=
  (if (md_Ref_isTask rf lat ln x1) = 0 then (-1 : Int32) else (md_Ref_rankNow rf lat ln x1))
def md_Ref_holder (rf : cr_S) (lat : Int64) (ln : (Nat → Int64)) (x1 : Int32) : Int32 :=
  (if (md_Ref_isResource rf lat ln x1) = 0 then (-1 : Int32) else (rf 7 x1.toNatClampNeg))
def md_Ref_mayKeep (rf : cr_S) (lat : Int64) (ln : (Nat → Int64)) (x1 : Int32) (x2 : Int32) (x3 : Int32) : Int32 :=
  (if (rf 2 x1.toNatClampNeg) = (rf 2 x2.toNatClampNeg) then (if (rf 1 x2.toNatClampNeg) ≤ (rf 1 x1.toNatClampNeg) then (0 : Int32) else (if (lg_cmp (ln (((9 : Int32) * x1) + x3).toNatClampNeg) (0 : Int64)) ≤ 0 then (0 : Int32) else (if (md_Ref_ceilingOf rf lat ln x3) < (rf 1 x2.toNatClampNeg) then (0 : Int32) else (1 : Int32)))) else (0 : Int32))
def lo_Ref_blocking_29 (rf : cr_S) (lat : Int64) (ln : (Nat → Int64)) (x1 : Int32) (w4 : Int32) : Nat → Int64 → Int32 → Int64
  | 0, v2_29, _ => v2_29
  | n_29 + 1, v2_29, v5_29 =>
    (if (rf 0 2) < v5_29 then v2_29 else (if (md_Ref_mayKeep rf lat ln w4 x1 v5_29) = 0 then (lo_Ref_blocking_29 rf lat ln x1 w4 n_29 v2_29 (v5_29 + (1 : Int32))) else (if (lg_cmp (ln (((9 : Int32) * w4) + v5_29).toNatClampNeg) v2_29) ≤ 0 then (lo_Ref_blocking_29 rf lat ln x1 w4 n_29 v2_29 (v5_29 + (1 : Int32))) else (lo_Ref_blocking_29 rf lat ln x1 w4 n_29 (ln (((9 : Int32) * w4) + v5_29).toNatClampNeg) (v5_29 + (1 : Int32))))))
def lo_Ref_blocking_17 (rf : cr_S) (lat : Int64) (ln : (Nat → Int64)) (x1 : Int32) : Nat → Int64 → Int32 → Int64
  | 0, _, _ => 0
  | n_17 + 1, v2_17, v4_17 =>
    (if (rf 0 0) < v4_17 then v2_17 else (lo_Ref_blocking_17 rf lat ln x1 n_17 (lo_Ref_blocking_29 rf lat ln x1 v4_17 9 v2_17 (1 : Int32)) (v4_17 + (1 : Int32))))
def md_Ref_blocking (rf : cr_S) (lat : Int64) (ln : (Nat → Int64)) (x1 : Int32) : Int64 :=
  (if (md_Ref_isTask rf lat ln x1) = 0 then (-1 : Int64) else (lo_Ref_blocking_17 rf lat ln x1 11 (0 : Int64) (1 : Int32)))
def lo_Ref_lower_34 (rf : cr_S) (lat : Int64) (ln : (Nat → Int64)) (x1 : Int32) (x2 : Int32) (w3 : Int32) (w4 : Int32) : Nat → Int32 → Int32 → Int32
  | 0, v5_34, _ => v5_34
  | n_34 + 1, v5_34, v6_34 =>
    (if (rf 0 2) < v6_34 then v5_34 else (if v5_34 = 0 then (if (md_Ref_mayKeep rf lat ln w4 x1 v6_34) = 0 then (lo_Ref_lower_34 rf lat ln x1 x2 w3 w4 n_34 (0 : Int32) (v6_34 + (1 : Int32))) else (lo_Ref_lower_34 rf lat ln x1 x2 w3 w4 n_34 (1 : Int32) (v6_34 + (1 : Int32)))) else (lo_Ref_lower_34 rf lat ln x1 x2 w3 w4 n_34 (1 : Int32) (v6_34 + (1 : Int32)))))
def lo_Ref_lower_15 (rf : cr_S) (lat : Int64) (ln : (Nat → Int64)) (x1 : Int32) (x2 : Int32) : Nat → Int32 → Int32 → Int32
  | 0, _, _ => 0
  | n_15 + 1, v3_15, v4_15 =>
    (if (rf 0 0) < v4_15 then (0 : Int32) else (if x2 < 0 then (0 : Int32) else (if (lo_Ref_lower_34 rf lat ln x1 x2 v3_15 v4_15 9 (0 : Int32) (1 : Int32)) = 0 then (lo_Ref_lower_15 rf lat ln x1 x2 n_15 v3_15 (v4_15 + (1 : Int32))) else (if v3_15 = 0 then v4_15 else (lo_Ref_lower_15 rf lat ln x1 x2 n_15 (v3_15 + (-1 : Int32)) (v4_15 + (1 : Int32)))))))
def md_Ref_lower (rf : cr_S) (lat : Int64) (ln : (Nat → Int64)) (x1 : Int32) (x2 : Int32) : Int32 :=
  (if (md_Ref_isTask rf lat ln x1) = 0 then (-1 : Int32) else (lo_Ref_lower_15 rf lat ln x1 x2 11 x2 (1 : Int32)))
def lo_Ref_lastLock_4 (rf : cr_S) (lat : Int64) (ln : (Nat → Int64)) (x1 : Int32) : Nat → Int32 → Int32 → Int32
  | 0, _, _ => 0
  | n_4 + 1, v2_4, v3_4 =>
    (if (9 : Int32) ≤ v3_4 then v2_4 else (if (rf 9 v3_4.toNatClampNeg) = x1 then (if v2_4 = 0 then (lo_Ref_lastLock_4 rf lat ln x1 n_4 v3_4 (v3_4 + (1 : Int32))) else (if (rf 10 v3_4.toNatClampNeg) ≤ (rf 10 v2_4.toNatClampNeg) then (lo_Ref_lastLock_4 rf lat ln x1 n_4 v2_4 (v3_4 + (1 : Int32))) else (lo_Ref_lastLock_4 rf lat ln x1 n_4 v3_4 (v3_4 + (1 : Int32))))) else (lo_Ref_lastLock_4 rf lat ln x1 n_4 v2_4 (v3_4 + (1 : Int32)))))
def md_Ref_lastLock (rf : cr_S) (lat : Int64) (ln : (Nat → Int64)) (x1 : Int32) : Int32 :=
  (lo_Ref_lastLock_4 rf lat ln x1 9 (0 : Int32) (1 : Int32))
def md_Ref_have (rf : cr_S) (lat : Int64) (ln : (Nat → Int64)) (x1 : Int32) (x2 : Int32) : cr_S :=
  (cr_up (cr_up (cr_up rf 0 3 ((rf 0 3) + (1 : Int32))) 9 x2.toNatClampNeg x1) 10 x2.toNatClampNeg ((cr_up (cr_up rf 0 3 ((rf 0 3) + (1 : Int32))) 9 x2.toNatClampNeg x1) 0 3))
def lo_Ref_ring_14 (rf : cr_S) (lat : Int64) (ln : (Nat → Int64))  (w2 : Int32) : Nat → Int32 → Int32 → Int32 → Int32
  | 0, v1_14, _, _ => v1_14
  | n_14 + 1, v1_14, v3_14, v4_14 =>
    (if (3 : Int32) ≤ v4_14 then v1_14 else (if (rf 11 v3_14.toNatClampNeg) ≤ 0 then (if v1_14 = 0 then (if (0 : Int32) = w2 then (lo_Ref_ring_14 rf lat ln w2 n_14 (1 : Int32) (0 : Int32) (v4_14 + (1 : Int32))) else (lo_Ref_ring_14 rf lat ln w2 n_14 (0 : Int32) (0 : Int32) (v4_14 + (1 : Int32)))) else (lo_Ref_ring_14 rf lat ln w2 n_14 (1 : Int32) (0 : Int32) (v4_14 + (1 : Int32)))) else (if v1_14 = 0 then (if (rf 9 (rf 11 v3_14.toNatClampNeg).toNatClampNeg) = w2 then (lo_Ref_ring_14 rf lat ln w2 n_14 (1 : Int32) (rf 9 (rf 11 v3_14.toNatClampNeg).toNatClampNeg) (v4_14 + (1 : Int32))) else (lo_Ref_ring_14 rf lat ln w2 n_14 (0 : Int32) (rf 9 (rf 11 v3_14.toNatClampNeg).toNatClampNeg) (v4_14 + (1 : Int32)))) else (lo_Ref_ring_14 rf lat ln w2 n_14 (1 : Int32) (rf 9 (rf 11 v3_14.toNatClampNeg).toNatClampNeg) (v4_14 + (1 : Int32))))))
def lo_Ref_ring_4 (rf : cr_S) (lat : Int64) (ln : (Nat → Int64))  : Nat → Int32 → Int32 → Int32
  | 0, _, _ => 0
  | n_4 + 1, v1_4, v2_4 =>
    (if (4 : Int32) ≤ v2_4 then v1_4 else (lo_Ref_ring_4 rf lat ln n_4 (lo_Ref_ring_14 rf lat ln v2_4 4 v1_4 v2_4 (0 : Int32)) (v2_4 + (1 : Int32))))
def md_Ref_ring (rf : cr_S) (lat : Int64) (ln : (Nat → Int64)) : Int32 :=
  (lo_Ref_ring_4 rf lat ln 4 (0 : Int32) (1 : Int32))
def lo_Ref_acts_241 (lat : Int64) (ln : (Nat → Int64)) (x1 : Int32) (x2 : Int32) (x3 : Int32) (w4 : Int32) : Nat → cr_S → Int32 → Int32 × cr_S
  | 0, rf_241, _ => (0, rf_241)
  | n_241 + 1, rf_241, v5_241 =>
    (if (rf_241 0 2) < v5_241 then (if w4 ≤ 0 then ((1 : Int32), rf_241) else ((-14 : Int32), rf_241)) else (if (rf_241 7 v5_241.toNatClampNeg) = x1 then (lo_Ref_acts_241 lat ln x1 x2 x3 w4 n_241 (cr_up rf_241 7 v5_241.toNatClampNeg (0 : Int32)) (v5_241 + (1 : Int32))) else (lo_Ref_acts_241 lat ln x1 x2 x3 w4 n_241 (cr_up rf_241 7 v5_241.toNatClampNeg (rf_241 7 v5_241.toNatClampNeg)) (v5_241 + (1 : Int32)))))
def md_Ref_acts (rf : cr_S) (lat : Int64) (ln : (Nat → Int64)) (x1 : Int32) (x2 : Int32) (x3 : Int32) : Int32 × cr_S :=
  (if x2 = 0 then (if (rf 3 x1.toNatClampNeg) = 0 then (if (md_Ref_runs (md_Ref_ready rf lat ln x1) lat ln x1) = 0 then ((0 : Int32), (md_Ref_ready rf lat ln x1)) else ((1 : Int32), (md_Ref_ready rf lat ln x1))) else ((-3 : Int32), rf)) else (if (rf 3 x1.toNatClampNeg) = 0 then ((-3 : Int32), rf) else (if x2 = (5 : Int32) then (if (rf 3 x1.toNatClampNeg) = (2 : Int32) then (if (md_Ref_runs (md_Ref_ready rf lat ln x1) lat ln x1) = 0 then ((0 : Int32), (md_Ref_ready rf lat ln x1)) else ((1 : Int32), (md_Ref_ready rf lat ln x1))) else (if (md_Ref_runs (cr_up rf 5 x1.toNatClampNeg (1 : Int32)) lat ln x1) = 0 then ((0 : Int32), (cr_up rf 5 x1.toNatClampNeg (1 : Int32))) else ((1 : Int32), (cr_up rf 5 x1.toNatClampNeg (1 : Int32))))) else (if (rf 3 x1.toNatClampNeg) = (2 : Int32) then ((-3 : Int32), rf) else (if (md_Ref_runs rf lat ln x1) = 0 then ((0 : Int32), rf) else (if x2 = (1 : Int32) then (if (lg_cmp (ln (((9 : Int32) * x1) + x3).toNatClampNeg) (0 : Int64)) = 0 then ((-11 : Int32), rf) else (if (rf 7 x3.toNatClampNeg) = x1 then ((-12 : Int32), rf) else (if (md_Ref_last rf lat ln x1) = 0 then ((1 : Int32), (cr_up (cr_up rf 7 x3.toNatClampNeg x1) 8 x3.toNatClampNeg (1 : Int32))) else ((1 : Int32), (cr_up (cr_up rf 7 x3.toNatClampNeg x1) 8 x3.toNatClampNeg (((cr_up rf 7 x3.toNatClampNeg x1) 8 (md_Ref_last rf lat ln x1).toNatClampNeg) + (1 : Int32))))))) else (if x2 = (2 : Int32) then (if (md_Ref_last rf lat ln x1) = 0 then ((-13 : Int32), rf) else (if (md_Ref_last rf lat ln x1) = x3 then ((1 : Int32), (cr_up rf 7 x3.toNatClampNeg (0 : Int32))) else ((-13 : Int32), rf))) else (if x2 = (3 : Int32) then (lo_Ref_acts_241 lat ln x1 x2 x3 (md_Ref_last rf lat ln x1) 9 (cr_up (cr_up rf 3 x1.toNatClampNeg (0 : Int32)) 5 x1.toNatClampNeg (0 : Int32)) (1 : Int32)) else (if (md_Ref_last rf lat ln x1) ≤ 0 then (if (rf 5 x1.toNatClampNeg) = 0 then ((0 : Int32), (cr_up rf 3 x1.toNatClampNeg (2 : Int32))) else ((1 : Int32), (cr_up rf 5 x1.toNatClampNeg (0 : Int32)))) else ((-15 : Int32), rf))))))))))
def md_Ref_step (rf : cr_S) (lat : Int64) (ln : (Nat → Int64)) (x1 : Int32) (x2 : Int32) (x3 : Int32) (x4 : Int64) : Int32 × cr_S × Int64 :=
  (if (md_Ref_isTask rf lat ln x1) = 0 then ((-1 : Int32), rf, lat) else (if x2 = (1 : Int32) then (if (md_Ref_isResource rf lat ln x3) = 0 then ((-1 : Int32), rf, lat) else (if x2 < 0 then ((-2 : Int32), rf, lat) else (if (5 : Int32) < x2 then ((-2 : Int32), rf, lat) else (if (lg_cmp x4 lat) < 0 then ((-2 : Int32), rf, lat) else (if (lg_cmp x4 (0 : Int64)) < 0 then ((-2 : Int32), rf, lat) else (if (lg_cmp x4 (1000000000 : Int64)) ≤ 0 then (if 0 ≤ ((md_Ref_acts rf lat ln x1 x2 x3).1) then (((md_Ref_acts rf lat ln x1 x2 x3).1), ((md_Ref_acts rf lat ln x1 x2 x3).2), x4) else (if ((md_Ref_acts rf lat ln x1 x2 x3).1) = (-14 : Int32) then (((md_Ref_acts rf lat ln x1 x2 x3).1), ((md_Ref_acts rf lat ln x1 x2 x3).2), x4) else (((md_Ref_acts rf lat ln x1 x2 x3).1), ((md_Ref_acts rf lat ln x1 x2 x3).2), lat))) else ((-2 : Int32), rf, lat))))))) else (if x2 = (2 : Int32) then (if (md_Ref_isResource rf lat ln x3) = 0 then ((-1 : Int32), rf, lat) else (if x2 < 0 then ((-2 : Int32), rf, lat) else (if (5 : Int32) < x2 then ((-2 : Int32), rf, lat) else (if (lg_cmp x4 lat) < 0 then ((-2 : Int32), rf, lat) else (if (lg_cmp x4 (0 : Int64)) < 0 then ((-2 : Int32), rf, lat) else (if (lg_cmp x4 (1000000000 : Int64)) ≤ 0 then (if 0 ≤ ((md_Ref_acts rf lat ln x1 x2 x3).1) then (((md_Ref_acts rf lat ln x1 x2 x3).1), ((md_Ref_acts rf lat ln x1 x2 x3).2), x4) else (if ((md_Ref_acts rf lat ln x1 x2 x3).1) = (-14 : Int32) then (((md_Ref_acts rf lat ln x1 x2 x3).1), ((md_Ref_acts rf lat ln x1 x2 x3).2), x4) else (((md_Ref_acts rf lat ln x1 x2 x3).1), ((md_Ref_acts rf lat ln x1 x2 x3).2), lat))) else ((-2 : Int32), rf, lat))))))) else (if x2 < 0 then ((-2 : Int32), rf, lat) else (if (5 : Int32) < x2 then ((-2 : Int32), rf, lat) else (if (lg_cmp x4 lat) < 0 then ((-2 : Int32), rf, lat) else (if (lg_cmp x4 (0 : Int64)) < 0 then ((-2 : Int32), rf, lat) else (if (lg_cmp x4 (1000000000 : Int64)) ≤ 0 then (if 0 ≤ ((md_Ref_acts rf lat ln x1 x2 x3).1) then (((md_Ref_acts rf lat ln x1 x2 x3).1), ((md_Ref_acts rf lat ln x1 x2 x3).2), x4) else (if ((md_Ref_acts rf lat ln x1 x2 x3).1) = (-14 : Int32) then (((md_Ref_acts rf lat ln x1 x2 x3).1), ((md_Ref_acts rf lat ln x1 x2 x3).2), x4) else (((md_Ref_acts rf lat ln x1 x2 x3).1), ((md_Ref_acts rf lat ln x1 x2 x3).2), lat))) else ((-2 : Int32), rf, lat)))))))))
def lo_Ref_lock_146 (rf : cr_S) (lat : Int64) (ln : (Nat → Int64)) (x1 : Int32) (x2 : Int32) : Nat → Int32 → Int32 → Int32 × cr_S
  | 0, _, _ => (0, rf)
  | n_146 + 1, v3_146, v4_146 =>
    (if (4 : Int32) ≤ v4_146 then (if v3_146 ≤ 0 then ((1 : Int32), rf) else ((1 : Int32), (md_Ref_have (cr_up rf 11 v3_146.toNatClampNeg (0 : Int32)) lat ln v3_146 (-x2)))) else (if (rf 11 v4_146.toNatClampNeg) = (-x2) then (if v3_146 = 0 then (lo_Ref_lock_146 rf lat ln x1 x2 n_146 v4_146 (v4_146 + (1 : Int32))) else (if (rf 12 v3_146.toNatClampNeg) ≤ (rf 12 v4_146.toNatClampNeg) then (lo_Ref_lock_146 rf lat ln x1 x2 n_146 v3_146 (v4_146 + (1 : Int32))) else (lo_Ref_lock_146 rf lat ln x1 x2 n_146 v4_146 (v4_146 + (1 : Int32))))) else (lo_Ref_lock_146 rf lat ln x1 x2 n_146 v3_146 (v4_146 + (1 : Int32)))))
def lo_Ref_lock_49 (rf : cr_S) (lat : Int64) (ln : (Nat → Int64)) (x1 : Int32) (x2 : Int32) : Nat → Int32 → Int32 × cr_S
  | 0, _ => (0, rf)
  | n_49 + 1, v3_49 =>
    (if (9 : Int32) ≤ v3_49 then (if (rf 9 x2.toNatClampNeg) ≤ 0 then ((1 : Int32), (md_Ref_have rf lat ln x1 x2)) else ((0 : Int32), (cr_up (cr_up (cr_up rf 0 3 ((rf 0 3) + (1 : Int32))) 11 x1.toNatClampNeg x2) 12 x1.toNatClampNeg ((cr_up (cr_up rf 0 3 ((rf 0 3) + (1 : Int32))) 11 x1.toNatClampNeg x2) 0 3)))) else (if (rf 9 v3_49.toNatClampNeg) = x1 then ((-16 : Int32), rf) else (lo_Ref_lock_49 rf lat ln x1 x2 n_49 (v3_49 + (1 : Int32)))))
def md_Ref_lock (rf : cr_S) (lat : Int64) (ln : (Nat → Int64)) (x1 : Int32) (x2 : Int32) : Int32 × cr_S :=
  (if x1 < (1 : Int32) then ((-1 : Int32), rf) else (if x1 ≤ (3 : Int32) then (if x2 < (-8 : Int32) then ((-2 : Int32), rf) else (if (8 : Int32) < x2 then ((-2 : Int32), rf) else (if x2 = 0 then ((-2 : Int32), rf) else (if (rf 11 x1.toNatClampNeg) ≤ 0 then (if x2 ≤ 0 then (if (md_Ref_lastLock rf lat ln x1) = (-x2) then (lo_Ref_lock_146 (cr_up rf 9 (-x2).toNatClampNeg (0 : Int32)) lat ln x1 x2 4 (0 : Int32) (1 : Int32)) else ((-17 : Int32), rf)) else (lo_Ref_lock_49 rf lat ln x1 x2 9 x2)) else ((-3 : Int32), rf))))) else ((-1 : Int32), rf)))
def lo_Ref_tickOf_14 (rf : cr_S) (lat : Int64) (ln : (Nat → Int64)) (x1 : Int32) (x2 : Int32) : Nat → Int32 → Int32 → Int32
  | 0, _, _ => 0
  | n_14 + 1, v3_14, v4_14 =>
    (if (rf 0 2) < v4_14 then (-1 : Int32) else (if (lg_cmp (ln (((9 : Int32) * x1) + v4_14).toNatClampNeg) (0 : Int64)) = 0 then (lo_Ref_tickOf_14 rf lat ln x1 x2 n_14 v3_14 (v4_14 + (1 : Int32))) else (if 0 ≤ (lg_cmp (ln (((9 : Int32) * x1) + v4_14).toNatClampNeg) (3 : Int64)) then (if (3 : Int32) ≤ v3_14 then (if v3_14 = (3 : Int32) then (0 : Int32) else (lo_Ref_tickOf_14 rf lat ln x1 x2 n_14 (v3_14 - ((3 : Int32) + (1 : Int32))) (v4_14 + (1 : Int32)))) else v4_14) else (if (ln (((9 : Int32) * x1) + v4_14).toNatClampNeg).toInt32 ≤ v3_14 then (if v3_14 = (ln (((9 : Int32) * x1) + v4_14).toNatClampNeg).toInt32 then (0 : Int32) else (lo_Ref_tickOf_14 rf lat ln x1 x2 n_14 (v3_14 - ((ln (((9 : Int32) * x1) + v4_14).toNatClampNeg).toInt32 + (1 : Int32))) (v4_14 + (1 : Int32)))) else v4_14))))
def md_Ref_tickOf (rf : cr_S) (lat : Int64) (ln : (Nat → Int64)) (x1 : Int32) (x2 : Int32) : Int32 :=
  (if x2 = 0 then (0 : Int32) else (lo_Ref_tickOf_14 rf lat ln x1 x2 9 (x2 + (-1 : Int32)) (1 : Int32)))
def md_Ref_trialRank (rf : cr_S) (lat : Int64) (ln : (Nat → Int64)) (x1 : Int32) : Int32 :=
  (if (rf 16 x1.toNatClampNeg) ≤ 0 then (rf 1 x1.toNatClampNeg) else (if (md_Ref_ceilingOf rf lat ln (rf 16 x1.toNatClampNeg)) ≤ (rf 1 x1.toNatClampNeg) then (rf 1 x1.toNatClampNeg) else (md_Ref_ceilingOf rf lat ln (rf 16 x1.toNatClampNeg))))
def lo_Ref_trialRuns_4 (rf : cr_S) (lat : Int64) (ln : (Nat → Int64)) (x1 : Int32) : Nat → Int32 → Int32 → Int32
  | 0, _, _ => 0
  | n_4 + 1, v2_4, v3_4 =>
    (if (rf 0 0) < v3_4 then v2_4 else (if (rf 2 v3_4.toNatClampNeg) = x1 then (if (rf 13 v3_4.toNatClampNeg) = (1 : Int32) then (if v2_4 = 0 then (lo_Ref_trialRuns_4 rf lat ln x1 n_4 v3_4 (v3_4 + (1 : Int32))) else (if 0 < ((md_Ref_trialRank rf lat ln v3_4) - (md_Ref_trialRank rf lat ln v2_4)) then (lo_Ref_trialRuns_4 rf lat ln x1 n_4 v3_4 (v3_4 + (1 : Int32))) else (if ((md_Ref_trialRank rf lat ln v3_4) - (md_Ref_trialRank rf lat ln v2_4)) = 0 then (if (rf 14 v2_4.toNatClampNeg) ≤ (rf 14 v3_4.toNatClampNeg) then (lo_Ref_trialRuns_4 rf lat ln x1 n_4 v2_4 (v3_4 + (1 : Int32))) else (lo_Ref_trialRuns_4 rf lat ln x1 n_4 v3_4 (v3_4 + (1 : Int32)))) else (lo_Ref_trialRuns_4 rf lat ln x1 n_4 v2_4 (v3_4 + (1 : Int32)))))) else (lo_Ref_trialRuns_4 rf lat ln x1 n_4 v2_4 (v3_4 + (1 : Int32)))) else (lo_Ref_trialRuns_4 rf lat ln x1 n_4 v2_4 (v3_4 + (1 : Int32)))))
def md_Ref_trialRuns (rf : cr_S) (lat : Int64) (ln : (Nat → Int64)) (x1 : Int32) : Int32 :=
  (lo_Ref_trialRuns_4 rf lat ln x1 11 (0 : Int32) (1 : Int32))
def lo_Ref_plain_359 (rf : cr_S) (lat : Int64) (ln : (Nat → Int64)) (x1 : Int64) (w4 : Int32) (w5 : Int32) : Nat → Int32 → Int32 → Int32
  | 0, v6_359, _ => v6_359
  | n_359 + 1, v6_359, v7_359 =>
    (if (99 : Int32) ≤ v7_359 then v6_359 else (if (rf 17 (((99 : Int32) * w5) + v7_359).toNatClampNeg) = 0 then (lo_Ref_plain_359 rf lat ln x1 w4 w5 n_359 v6_359 (v7_359 + (1 : Int32))) else (lo_Ref_plain_359 rf lat ln x1 w4 w5 n_359 (v6_359 + (1 : Int32)) (v7_359 + (1 : Int32)))))
def lo_Ref_plain_344 (rf : cr_S) (lat : Int64) (ln : (Nat → Int64)) (x1 : Int64) : Nat → Int32 → Int32 → Int32 × cr_S
  | 0, _, _ => (0, rf)
  | n_344 + 1, v4_344, v5_344 =>
    (if (rf 0 0) < v5_344 then (v4_344, rf) else (if (lo_Ref_plain_359 rf lat ln x1 v4_344 v5_344 100 (0 : Int32) (0 : Int32)) ≤ v4_344 then (lo_Ref_plain_344 rf lat ln x1 n_344 v4_344 (v5_344 + (1 : Int32))) else (lo_Ref_plain_344 rf lat ln x1 n_344 (lo_Ref_plain_359 rf lat ln x1 v4_344 v5_344 100 (0 : Int32) (0 : Int32)) (v5_344 + (1 : Int32)))))
def lo_Ref_plain_183 (lat : Int64) (ln : (Nat → Int64)) (x1 : Int64) (w3 : Int32) (w4 : Int32) (w5 : Int32) (w6 : Int32) (w7 : Int32) : Nat → cr_S → Int32 → cr_S
  | 0, rf_183, _ => rf_183
  | n_183 + 1, rf_183, v8_183 =>
    (if (rf_183 0 0) < v8_183 then rf_183 else (if w7 ≤ 0 then rf_183 else (if (rf_183 2 v8_183.toNatClampNeg) = w5 then (if (rf_183 1 v8_183.toNatClampNeg) ≤ (rf_183 1 w6.toNatClampNeg) then (lo_Ref_plain_183 lat ln x1 w3 w4 w5 w6 w7 n_183 rf_183 (v8_183 + (1 : Int32))) else (if (rf_183 13 v8_183.toNatClampNeg) = (1 : Int32) then (lo_Ref_plain_183 lat ln x1 w3 w4 w5 w6 w7 n_183 (cr_up rf_183 17 ((((99 : Int32) * v8_183) + ((9 : Int32) * w6)) + w7).toNatClampNeg (1 : Int32)) (v8_183 + (1 : Int32))) else (lo_Ref_plain_183 lat ln x1 w3 w4 w5 w6 w7 n_183 rf_183 (v8_183 + (1 : Int32))))) else (lo_Ref_plain_183 lat ln x1 w3 w4 w5 w6 w7 n_183 rf_183 (v8_183 + (1 : Int32))))))
def lo_Ref_plain_134 (lat : Int64) (ln : (Nat → Int64)) (x1 : Int64) (w3 : Int32) (w4 : Int32) : Nat → cr_S → Int32 → cr_S
  | 0, rf_134, _ => rf_134
  | n_134 + 1, rf_134, v5_134 =>
    (if (4 : Int32) ≤ v5_134 then rf_134 else (if (md_Ref_trialRuns rf_134 lat ln v5_134) = 0 then (lo_Ref_plain_134 lat ln x1 w3 w4 n_134 rf_134 (v5_134 + (1 : Int32))) else (if (md_Ref_tickOf (cr_up (lo_Ref_plain_183 lat ln x1 w3 w4 v5_134 (md_Ref_trialRuns rf_134 lat ln v5_134) (md_Ref_tickOf rf_134 lat ln (md_Ref_trialRuns rf_134 lat ln v5_134) (rf_134 15 (md_Ref_trialRuns rf_134 lat ln v5_134).toNatClampNeg)) 11 (cr_up rf_134 16 (md_Ref_trialRuns rf_134 lat ln v5_134).toNatClampNeg (md_Ref_tickOf rf_134 lat ln (md_Ref_trialRuns rf_134 lat ln v5_134) (rf_134 15 (md_Ref_trialRuns rf_134 lat ln v5_134).toNatClampNeg))) (1 : Int32)) 15 (md_Ref_trialRuns rf_134 lat ln v5_134).toNatClampNeg (((lo_Ref_plain_183 lat ln x1 w3 w4 v5_134 (md_Ref_trialRuns rf_134 lat ln v5_134) (md_Ref_tickOf rf_134 lat ln (md_Ref_trialRuns rf_134 lat ln v5_134) (rf_134 15 (md_Ref_trialRuns rf_134 lat ln v5_134).toNatClampNeg)) 11 (cr_up rf_134 16 (md_Ref_trialRuns rf_134 lat ln v5_134).toNatClampNeg (md_Ref_tickOf rf_134 lat ln (md_Ref_trialRuns rf_134 lat ln v5_134) (rf_134 15 (md_Ref_trialRuns rf_134 lat ln v5_134).toNatClampNeg))) (1 : Int32)) 15 (md_Ref_trialRuns rf_134 lat ln v5_134).toNatClampNeg) + (1 : Int32))) lat ln (md_Ref_trialRuns rf_134 lat ln v5_134) ((cr_up (lo_Ref_plain_183 lat ln x1 w3 w4 v5_134 (md_Ref_trialRuns rf_134 lat ln v5_134) (md_Ref_tickOf rf_134 lat ln (md_Ref_trialRuns rf_134 lat ln v5_134) (rf_134 15 (md_Ref_trialRuns rf_134 lat ln v5_134).toNatClampNeg)) 11 (cr_up rf_134 16 (md_Ref_trialRuns rf_134 lat ln v5_134).toNatClampNeg (md_Ref_tickOf rf_134 lat ln (md_Ref_trialRuns rf_134 lat ln v5_134) (rf_134 15 (md_Ref_trialRuns rf_134 lat ln v5_134).toNatClampNeg))) (1 : Int32)) 15 (md_Ref_trialRuns rf_134 lat ln v5_134).toNatClampNeg (((lo_Ref_plain_183 lat ln x1 w3 w4 v5_134 (md_Ref_trialRuns rf_134 lat ln v5_134) (md_Ref_tickOf rf_134 lat ln (md_Ref_trialRuns rf_134 lat ln v5_134) (rf_134 15 (md_Ref_trialRuns rf_134 lat ln v5_134).toNatClampNeg)) 11 (cr_up rf_134 16 (md_Ref_trialRuns rf_134 lat ln v5_134).toNatClampNeg (md_Ref_tickOf rf_134 lat ln (md_Ref_trialRuns rf_134 lat ln v5_134) (rf_134 15 (md_Ref_trialRuns rf_134 lat ln v5_134).toNatClampNeg))) (1 : Int32)) 15 (md_Ref_trialRuns rf_134 lat ln v5_134).toNatClampNeg) + (1 : Int32))) 15 (md_Ref_trialRuns rf_134 lat ln v5_134).toNatClampNeg)) = (md_Ref_tickOf rf_134 lat ln (md_Ref_trialRuns rf_134 lat ln v5_134) (rf_134 15 (md_Ref_trialRuns rf_134 lat ln v5_134).toNatClampNeg)) then (if 0 ≤ (md_Ref_tickOf (cr_up (lo_Ref_plain_183 lat ln x1 w3 w4 v5_134 (md_Ref_trialRuns rf_134 lat ln v5_134) (md_Ref_tickOf rf_134 lat ln (md_Ref_trialRuns rf_134 lat ln v5_134) (rf_134 15 (md_Ref_trialRuns rf_134 lat ln v5_134).toNatClampNeg)) 11 (cr_up rf_134 16 (md_Ref_trialRuns rf_134 lat ln v5_134).toNatClampNeg (md_Ref_tickOf rf_134 lat ln (md_Ref_trialRuns rf_134 lat ln v5_134) (rf_134 15 (md_Ref_trialRuns rf_134 lat ln v5_134).toNatClampNeg))) (1 : Int32)) 15 (md_Ref_trialRuns rf_134 lat ln v5_134).toNatClampNeg (((lo_Ref_plain_183 lat ln x1 w3 w4 v5_134 (md_Ref_trialRuns rf_134 lat ln v5_134) (md_Ref_tickOf rf_134 lat ln (md_Ref_trialRuns rf_134 lat ln v5_134) (rf_134 15 (md_Ref_trialRuns rf_134 lat ln v5_134).toNatClampNeg)) 11 (cr_up rf_134 16 (md_Ref_trialRuns rf_134 lat ln v5_134).toNatClampNeg (md_Ref_tickOf rf_134 lat ln (md_Ref_trialRuns rf_134 lat ln v5_134) (rf_134 15 (md_Ref_trialRuns rf_134 lat ln v5_134).toNatClampNeg))) (1 : Int32)) 15 (md_Ref_trialRuns rf_134 lat ln v5_134).toNatClampNeg) + (1 : Int32))) lat ln (md_Ref_trialRuns rf_134 lat ln v5_134) ((cr_up (lo_Ref_plain_183 lat ln x1 w3 w4 v5_134 (md_Ref_trialRuns rf_134 lat ln v5_134) (md_Ref_tickOf rf_134 lat ln (md_Ref_trialRuns rf_134 lat ln v5_134) (rf_134 15 (md_Ref_trialRuns rf_134 lat ln v5_134).toNatClampNeg)) 11 (cr_up rf_134 16 (md_Ref_trialRuns rf_134 lat ln v5_134).toNatClampNeg (md_Ref_tickOf rf_134 lat ln (md_Ref_trialRuns rf_134 lat ln v5_134) (rf_134 15 (md_Ref_trialRuns rf_134 lat ln v5_134).toNatClampNeg))) (1 : Int32)) 15 (md_Ref_trialRuns rf_134 lat ln v5_134).toNatClampNeg (((lo_Ref_plain_183 lat ln x1 w3 w4 v5_134 (md_Ref_trialRuns rf_134 lat ln v5_134) (md_Ref_tickOf rf_134 lat ln (md_Ref_trialRuns rf_134 lat ln v5_134) (rf_134 15 (md_Ref_trialRuns rf_134 lat ln v5_134).toNatClampNeg)) 11 (cr_up rf_134 16 (md_Ref_trialRuns rf_134 lat ln v5_134).toNatClampNeg (md_Ref_tickOf rf_134 lat ln (md_Ref_trialRuns rf_134 lat ln v5_134) (rf_134 15 (md_Ref_trialRuns rf_134 lat ln v5_134).toNatClampNeg))) (1 : Int32)) 15 (md_Ref_trialRuns rf_134 lat ln v5_134).toNatClampNeg) + (1 : Int32))) 15 (md_Ref_trialRuns rf_134 lat ln v5_134).toNatClampNeg)) then (lo_Ref_plain_134 lat ln x1 w3 w4 n_134 (cr_up (cr_up (cr_up (lo_Ref_plain_183 lat ln x1 w3 w4 v5_134 (md_Ref_trialRuns rf_134 lat ln v5_134) (md_Ref_tickOf rf_134 lat ln (md_Ref_trialRuns rf_134 lat ln v5_134) (rf_134 15 (md_Ref_trialRuns rf_134 lat ln v5_134).toNatClampNeg)) 11 (cr_up rf_134 16 (md_Ref_trialRuns rf_134 lat ln v5_134).toNatClampNeg (md_Ref_tickOf rf_134 lat ln (md_Ref_trialRuns rf_134 lat ln v5_134) (rf_134 15 (md_Ref_trialRuns rf_134 lat ln v5_134).toNatClampNeg))) (1 : Int32)) 15 (md_Ref_trialRuns rf_134 lat ln v5_134).toNatClampNeg (((lo_Ref_plain_183 lat ln x1 w3 w4 v5_134 (md_Ref_trialRuns rf_134 lat ln v5_134) (md_Ref_tickOf rf_134 lat ln (md_Ref_trialRuns rf_134 lat ln v5_134) (rf_134 15 (md_Ref_trialRuns rf_134 lat ln v5_134).toNatClampNeg)) 11 (cr_up rf_134 16 (md_Ref_trialRuns rf_134 lat ln v5_134).toNatClampNeg (md_Ref_tickOf rf_134 lat ln (md_Ref_trialRuns rf_134 lat ln v5_134) (rf_134 15 (md_Ref_trialRuns rf_134 lat ln v5_134).toNatClampNeg))) (1 : Int32)) 15 (md_Ref_trialRuns rf_134 lat ln v5_134).toNatClampNeg) + (1 : Int32))) 16 (md_Ref_trialRuns rf_134 lat ln v5_134).toNatClampNeg (md_Ref_tickOf rf_134 lat ln (md_Ref_trialRuns rf_134 lat ln v5_134) (rf_134 15 (md_Ref_trialRuns rf_134 lat ln v5_134).toNatClampNeg))) 13 (md_Ref_trialRuns rf_134 lat ln v5_134).toNatClampNeg (1 : Int32)) (v5_134 + (1 : Int32))) else (lo_Ref_plain_134 lat ln x1 w3 w4 n_134 (cr_up (cr_up (cr_up (lo_Ref_plain_183 lat ln x1 w3 w4 v5_134 (md_Ref_trialRuns rf_134 lat ln v5_134) (md_Ref_tickOf rf_134 lat ln (md_Ref_trialRuns rf_134 lat ln v5_134) (rf_134 15 (md_Ref_trialRuns rf_134 lat ln v5_134).toNatClampNeg)) 11 (cr_up rf_134 16 (md_Ref_trialRuns rf_134 lat ln v5_134).toNatClampNeg (md_Ref_tickOf rf_134 lat ln (md_Ref_trialRuns rf_134 lat ln v5_134) (rf_134 15 (md_Ref_trialRuns rf_134 lat ln v5_134).toNatClampNeg))) (1 : Int32)) 15 (md_Ref_trialRuns rf_134 lat ln v5_134).toNatClampNeg (((lo_Ref_plain_183 lat ln x1 w3 w4 v5_134 (md_Ref_trialRuns rf_134 lat ln v5_134) (md_Ref_tickOf rf_134 lat ln (md_Ref_trialRuns rf_134 lat ln v5_134) (rf_134 15 (md_Ref_trialRuns rf_134 lat ln v5_134).toNatClampNeg)) 11 (cr_up rf_134 16 (md_Ref_trialRuns rf_134 lat ln v5_134).toNatClampNeg (md_Ref_tickOf rf_134 lat ln (md_Ref_trialRuns rf_134 lat ln v5_134) (rf_134 15 (md_Ref_trialRuns rf_134 lat ln v5_134).toNatClampNeg))) (1 : Int32)) 15 (md_Ref_trialRuns rf_134 lat ln v5_134).toNatClampNeg) + (1 : Int32))) 16 (md_Ref_trialRuns rf_134 lat ln v5_134).toNatClampNeg (md_Ref_tickOf rf_134 lat ln (md_Ref_trialRuns rf_134 lat ln v5_134) (rf_134 15 (md_Ref_trialRuns rf_134 lat ln v5_134).toNatClampNeg))) 13 (md_Ref_trialRuns rf_134 lat ln v5_134).toNatClampNeg (2 : Int32)) (v5_134 + (1 : Int32)))) else (if 0 ≤ (md_Ref_tickOf (cr_up (lo_Ref_plain_183 lat ln x1 w3 w4 v5_134 (md_Ref_trialRuns rf_134 lat ln v5_134) (md_Ref_tickOf rf_134 lat ln (md_Ref_trialRuns rf_134 lat ln v5_134) (rf_134 15 (md_Ref_trialRuns rf_134 lat ln v5_134).toNatClampNeg)) 11 (cr_up rf_134 16 (md_Ref_trialRuns rf_134 lat ln v5_134).toNatClampNeg (md_Ref_tickOf rf_134 lat ln (md_Ref_trialRuns rf_134 lat ln v5_134) (rf_134 15 (md_Ref_trialRuns rf_134 lat ln v5_134).toNatClampNeg))) (1 : Int32)) 15 (md_Ref_trialRuns rf_134 lat ln v5_134).toNatClampNeg (((lo_Ref_plain_183 lat ln x1 w3 w4 v5_134 (md_Ref_trialRuns rf_134 lat ln v5_134) (md_Ref_tickOf rf_134 lat ln (md_Ref_trialRuns rf_134 lat ln v5_134) (rf_134 15 (md_Ref_trialRuns rf_134 lat ln v5_134).toNatClampNeg)) 11 (cr_up rf_134 16 (md_Ref_trialRuns rf_134 lat ln v5_134).toNatClampNeg (md_Ref_tickOf rf_134 lat ln (md_Ref_trialRuns rf_134 lat ln v5_134) (rf_134 15 (md_Ref_trialRuns rf_134 lat ln v5_134).toNatClampNeg))) (1 : Int32)) 15 (md_Ref_trialRuns rf_134 lat ln v5_134).toNatClampNeg) + (1 : Int32))) lat ln (md_Ref_trialRuns rf_134 lat ln v5_134) ((cr_up (lo_Ref_plain_183 lat ln x1 w3 w4 v5_134 (md_Ref_trialRuns rf_134 lat ln v5_134) (md_Ref_tickOf rf_134 lat ln (md_Ref_trialRuns rf_134 lat ln v5_134) (rf_134 15 (md_Ref_trialRuns rf_134 lat ln v5_134).toNatClampNeg)) 11 (cr_up rf_134 16 (md_Ref_trialRuns rf_134 lat ln v5_134).toNatClampNeg (md_Ref_tickOf rf_134 lat ln (md_Ref_trialRuns rf_134 lat ln v5_134) (rf_134 15 (md_Ref_trialRuns rf_134 lat ln v5_134).toNatClampNeg))) (1 : Int32)) 15 (md_Ref_trialRuns rf_134 lat ln v5_134).toNatClampNeg (((lo_Ref_plain_183 lat ln x1 w3 w4 v5_134 (md_Ref_trialRuns rf_134 lat ln v5_134) (md_Ref_tickOf rf_134 lat ln (md_Ref_trialRuns rf_134 lat ln v5_134) (rf_134 15 (md_Ref_trialRuns rf_134 lat ln v5_134).toNatClampNeg)) 11 (cr_up rf_134 16 (md_Ref_trialRuns rf_134 lat ln v5_134).toNatClampNeg (md_Ref_tickOf rf_134 lat ln (md_Ref_trialRuns rf_134 lat ln v5_134) (rf_134 15 (md_Ref_trialRuns rf_134 lat ln v5_134).toNatClampNeg))) (1 : Int32)) 15 (md_Ref_trialRuns rf_134 lat ln v5_134).toNatClampNeg) + (1 : Int32))) 15 (md_Ref_trialRuns rf_134 lat ln v5_134).toNatClampNeg)) then (lo_Ref_plain_134 lat ln x1 w3 w4 n_134 (cr_up (cr_up (cr_up (lo_Ref_plain_183 lat ln x1 w3 w4 v5_134 (md_Ref_trialRuns rf_134 lat ln v5_134) (md_Ref_tickOf rf_134 lat ln (md_Ref_trialRuns rf_134 lat ln v5_134) (rf_134 15 (md_Ref_trialRuns rf_134 lat ln v5_134).toNatClampNeg)) 11 (cr_up rf_134 16 (md_Ref_trialRuns rf_134 lat ln v5_134).toNatClampNeg (md_Ref_tickOf rf_134 lat ln (md_Ref_trialRuns rf_134 lat ln v5_134) (rf_134 15 (md_Ref_trialRuns rf_134 lat ln v5_134).toNatClampNeg))) (1 : Int32)) 15 (md_Ref_trialRuns rf_134 lat ln v5_134).toNatClampNeg (((lo_Ref_plain_183 lat ln x1 w3 w4 v5_134 (md_Ref_trialRuns rf_134 lat ln v5_134) (md_Ref_tickOf rf_134 lat ln (md_Ref_trialRuns rf_134 lat ln v5_134) (rf_134 15 (md_Ref_trialRuns rf_134 lat ln v5_134).toNatClampNeg)) 11 (cr_up rf_134 16 (md_Ref_trialRuns rf_134 lat ln v5_134).toNatClampNeg (md_Ref_tickOf rf_134 lat ln (md_Ref_trialRuns rf_134 lat ln v5_134) (rf_134 15 (md_Ref_trialRuns rf_134 lat ln v5_134).toNatClampNeg))) (1 : Int32)) 15 (md_Ref_trialRuns rf_134 lat ln v5_134).toNatClampNeg) + (1 : Int32))) 16 (md_Ref_trialRuns rf_134 lat ln v5_134).toNatClampNeg (0 : Int32)) 13 (md_Ref_trialRuns rf_134 lat ln v5_134).toNatClampNeg (1 : Int32)) (v5_134 + (1 : Int32))) else (lo_Ref_plain_134 lat ln x1 w3 w4 n_134 (cr_up (cr_up (cr_up (lo_Ref_plain_183 lat ln x1 w3 w4 v5_134 (md_Ref_trialRuns rf_134 lat ln v5_134) (md_Ref_tickOf rf_134 lat ln (md_Ref_trialRuns rf_134 lat ln v5_134) (rf_134 15 (md_Ref_trialRuns rf_134 lat ln v5_134).toNatClampNeg)) 11 (cr_up rf_134 16 (md_Ref_trialRuns rf_134 lat ln v5_134).toNatClampNeg (md_Ref_tickOf rf_134 lat ln (md_Ref_trialRuns rf_134 lat ln v5_134) (rf_134 15 (md_Ref_trialRuns rf_134 lat ln v5_134).toNatClampNeg))) (1 : Int32)) 15 (md_Ref_trialRuns rf_134 lat ln v5_134).toNatClampNeg (((lo_Ref_plain_183 lat ln x1 w3 w4 v5_134 (md_Ref_trialRuns rf_134 lat ln v5_134) (md_Ref_tickOf rf_134 lat ln (md_Ref_trialRuns rf_134 lat ln v5_134) (rf_134 15 (md_Ref_trialRuns rf_134 lat ln v5_134).toNatClampNeg)) 11 (cr_up rf_134 16 (md_Ref_trialRuns rf_134 lat ln v5_134).toNatClampNeg (md_Ref_tickOf rf_134 lat ln (md_Ref_trialRuns rf_134 lat ln v5_134) (rf_134 15 (md_Ref_trialRuns rf_134 lat ln v5_134).toNatClampNeg))) (1 : Int32)) 15 (md_Ref_trialRuns rf_134 lat ln v5_134).toNatClampNeg) + (1 : Int32))) 16 (md_Ref_trialRuns rf_134 lat ln v5_134).toNatClampNeg (0 : Int32)) 13 (md_Ref_trialRuns rf_134 lat ln v5_134).toNatClampNeg (2 : Int32)) (v5_134 + (1 : Int32)))))))
def lo_Ref_plain_75 (lat : Int64) (ln : (Nat → Int64)) (x1 : Int64) (w4 : Int32) : Nat → cr_S → Int32 → Int32 → cr_S × Int32
  | 0, rf_75, v3_75, _ => (rf_75, v3_75)
  | n_75 + 1, rf_75, v3_75, v5_75 =>
    (if (rf_75 0 0) < v5_75 then (rf_75, v3_75) else (if (lg_cmp ((x1 >>> (((3 : Int32) * (v5_75 - (1 : Int32))).toInt64 &&& 63)) &&& (7 : Int64)) w4.toInt64) = 0 then (lo_Ref_plain_75 lat ln x1 w4 n_75 (cr_up (cr_up rf_75 13 v5_75.toNatClampNeg (1 : Int32)) 14 v5_75.toNatClampNeg (v3_75 + (1 : Int32))) (v3_75 + (1 : Int32)) (v5_75 + (1 : Int32))) else (lo_Ref_plain_75 lat ln x1 w4 n_75 rf_75 v3_75 (v5_75 + (1 : Int32)))))
def lo_Ref_plain_64 (lat : Int64) (ln : (Nat → Int64)) (x1 : Int64) : Nat → cr_S → Int32 → Int32 → Int32 × cr_S
  | 0, rf_64, _, _ => (0, rf_64)
  | n_64 + 1, rf_64, v3_64, v4_64 =>
    (if (400 : Int32) ≤ v4_64 then (lo_Ref_plain_344 rf_64 lat ln x1 11 (0 : Int32) (1 : Int32)) else (lo_Ref_plain_64 lat ln x1 n_64 (lo_Ref_plain_134 lat ln x1 (lo_Ref_plain_75 lat ln x1 v4_64 11 rf_64 v3_64 (1 : Int32)).2 v4_64 4 (lo_Ref_plain_75 lat ln x1 v4_64 11 rf_64 v3_64 (1 : Int32)).1 (1 : Int32)) (lo_Ref_plain_75 lat ln x1 v4_64 11 rf_64 v3_64 (1 : Int32)).2 (v4_64 + (1 : Int32))))
def lo_Ref_plain_24 (lat : Int64) (ln : (Nat → Int64)) (x1 : Int64) : Nat → cr_S → Int32 → Int32 × cr_S
  | 0, rf_24, _ => (0, rf_24)
  | n_24 + 1, rf_24, v3_24 =>
    (if (rf_24 0 0) < v3_24 then (lo_Ref_plain_64 lat ln x1 401 rf_24 (0 : Int32) (0 : Int32)) else (lo_Ref_plain_24 lat ln x1 n_24 (cr_up (cr_up (cr_up rf_24 13 v3_24.toNatClampNeg (0 : Int32)) 15 v3_24.toNatClampNeg (0 : Int32)) 16 v3_24.toNatClampNeg (0 : Int32)) (v3_24 + (1 : Int32))))
def lo_Ref_plain_2 (lat : Int64) (ln : (Nat → Int64)) (x1 : Int64) : Nat → cr_S → Int32 → Int32 × cr_S
  | 0, rf_2, _ => (0, rf_2)
  | n_2 + 1, rf_2, v3_2 =>
    (if (1089 : Int32) ≤ v3_2 then (lo_Ref_plain_24 lat ln x1 11 rf_2 (1 : Int32)) else (lo_Ref_plain_2 lat ln x1 n_2 (cr_up rf_2 17 v3_2.toNatClampNeg (0 : Int32)) (v3_2 + (1 : Int32))))
def md_Ref_plain (rf : cr_S) (lat : Int64) (ln : (Nat → Int64)) (x1 : Int64) : Int32 × cr_S :=
  (lo_Ref_plain_2 lat ln x1 1090 rf (0 : Int32))
end
section
/-! the pure side: counters, loops, the locks -/
theorem pu_ix {x : Int32} {k : Nat} (h : x.toInt = (k : Int)) : x.toNatClampNeg = k := by
  show x.toInt.toNat = k
  omega
theorem pu_lt {x y : Int32} : x < y ↔ x.toInt < y.toInt := Int32.lt_iff_toInt_lt
theorem pu_le {x y : Int32} : x ≤ y ↔ x.toInt ≤ y.toInt := Int32.le_iff_toInt_le
theorem pu_eq {x y : Int32} : x = y ↔ x.toInt = y.toInt := Int32.toInt_inj.symm
theorem pu_up_same (σ : cr_S) (k j : Nat) (x : Int32) : cr_up σ k j x k j = x := by simp [cr_up, upd]
theorem pu_up_cell (σ : cr_S) {k k' : Nat} (j : Nat) (x : Int32) (h : k' ≠ k) : cr_up σ k j x k' = σ k' := by simp [cr_up, h]
theorem pu_up_place (σ : cr_S) (k : Nat) {j j' : Nat} (x : Int32) (h : j' ≠ j) : cr_up σ k j x k j' = σ k j' := by simp [cr_up, upd, h]
theorem pu_up_fn (σ : cr_S) (k j : Nat) (x : Int32) : cr_up σ k j x k = upd (σ k) j x := by simp [cr_up]
/-- the locks of both sides: owners and wishes are the same, ranges, the core 0 wishes nothing -/
def ps_L0 (lk rf : cr_S) : Prop := lk 1 = rf 9 ∧ lk 2 = rf 11 ∧ cr_rg lk 1 3 ∧ cr_rg lk 2 8 ∧ lk 2 0 = 0
def ps_nx (lk : cr_S) (a : Int32) : Int32 := if lk 2 a.toNatClampNeg = 0 then 0 else lk 1 (lk 2 a.toNatClampNeg).toNatClampNeg
theorem ps_nxR {lk rf : cr_S} (h : ps_L0 lk rf) (a : Int32) : (if rf 11 a.toNatClampNeg ≤ 0 then (0 : Int32) else rf 9 (rf 11 a.toNatClampNeg).toNatClampNeg) = ps_nx lk a := by
  obtain ⟨h1, h2, h3, h4, h5⟩ := h
  unfold ps_nx
  rw [← h1, ← h2]
  have := h4 a.toNatClampNeg
  have k0 : (0 : Int32).toInt = 0 := by decide
  by_cases e : lk 2 a.toNatClampNeg = 0
  · rw [if_pos e, if_pos (by rw [e]; decide)]
  · rw [if_neg e, if_neg (by rw [pu_le]; rw [pu_eq] at e; omega)]
end
section
/-! ring: both sides walk the same chain -/
theorem ps_nx0 {lk rf : cr_S} (h : ps_L0 lk rf) : ps_nx lk 0 = 0 := by
  unfold ps_nx
  rw [if_pos]
  exact h.2.2.2.2
theorem ps_wZ {lk rf : cr_S} (h : ps_L0 lk rf) (c : Int32) : ∀ (n : Nat) (k : Int32), lo_Locks_waitsForItself_4 lk c n 0 k = 0
  | 0, k => rfl
  | n + 1, k => by
    rw [lo_Locks_waitsForItself_4]
    by_cases e : (3 : Int32) ≤ k
    · rw [if_pos e]
    · rw [if_neg e, if_pos]
      unfold md_Locks_spins
      rw [if_pos]
      exact h.2.2.2.2
theorem ps_wS {lk rf : cr_S} (h : ps_L0 lk rf) {c : Int32} (hc : c ≠ 0) (n : Nat) (a k : Int32) (hk : ¬ (3 : Int32) ≤ k) : lo_Locks_waitsForItself_4 lk c (n + 1) a k = if ps_nx lk a = c then 1 else lo_Locks_waitsForItself_4 lk c n (ps_nx lk a) (k + 1) := by
  rw [lo_Locks_waitsForItself_4, if_neg hk]
  unfold md_Locks_spins
  by_cases e : lk 2 a.toNatClampNeg = 0
  · have e1 : ps_nx lk a = 0 := by unfold ps_nx; rw [if_pos e]
    rw [if_pos e, if_pos rfl, e1, if_neg (fun q => hc q.symm), ps_wZ h]
  · have e1 : ps_nx lk a = lk 1 (lk 2 a.toNatClampNeg).toNatClampNeg := by unfold ps_nx; rw [if_neg e]
    rw [if_neg e, if_neg (by decide), e1]
def ps_ch (lk : cr_S) (c : Int32) : Prop := ps_nx lk c = c ∨ ps_nx lk (ps_nx lk c) = c ∨ ps_nx lk (ps_nx lk (ps_nx lk c)) = c
theorem ps_waits {lk rf : cr_S} (h : ps_L0 lk rf) {c : Int32} (hc : c ≠ 0) : (ps_ch lk c → md_Locks_waitsForItself lk c = 1) ∧ (¬ ps_ch lk c → md_Locks_waitsForItself lk c = 0) := by
  unfold md_Locks_waitsForItself ps_ch
  rw [ps_wS h hc 3 c 0 (by decide), ps_wS h hc 2 _ _ (by decide), ps_wS h hc 1 _ _ (by decide)]
  rw [lo_Locks_waitsForItself_4, if_pos (show (3 : Int32) ≤ 0 + 1 + 1 + 1 by decide)]
  by_cases e1 : ps_nx lk c = c
  · rw [if_pos e1]; exact ⟨fun _ => rfl, fun q => absurd (Or.inl e1) q⟩
  · rw [if_neg e1]
    by_cases e2 : ps_nx lk (ps_nx lk c) = c
    · rw [if_pos e2]; exact ⟨fun _ => rfl, fun q => absurd (Or.inr (Or.inl e2)) q⟩
    · rw [if_neg e2]
      by_cases e3 : ps_nx lk (ps_nx lk (ps_nx lk c)) = c
      · rw [if_pos e3]; exact ⟨fun _ => rfl, fun q => absurd (Or.inr (Or.inr e3)) q⟩
      · rw [if_neg e3]
        refine ⟨fun q => ?_, fun _ => rfl⟩
        rcases q with q | q | q
        · exact absurd q e1
        · exact absurd q e2
        · exact absurd q e3
theorem ps_rS {lk rf : cr_S} (h : ps_L0 lk rf) (lat : Int64) (ln : Nat → Int64) (c : Int32) (n : Nat) (v a k : Int32) (hk : ¬ (3 : Int32) ≤ k) : lo_Ref_ring_14 rf lat ln c (n + 1) v a k = lo_Ref_ring_14 rf lat ln c n (if v = 0 then (if ps_nx lk a = c then 1 else 0) else 1) (ps_nx lk a) (k + 1) := by
  rw [lo_Ref_ring_14, if_neg hk, ← ps_nxR h a]
  by_cases e : rf 11 a.toNatClampNeg ≤ 0
  · rw [if_pos e, if_pos e]
    by_cases ev : v = 0
    · rw [if_pos ev, if_pos ev]
      by_cases ec : (0 : Int32) = c
      · rw [if_pos ec, if_pos ec]
      · rw [if_neg ec, if_neg ec]
    · rw [if_neg ev, if_neg ev]
  · rw [if_neg e, if_neg e]
    by_cases ev : v = 0
    · rw [if_pos ev, if_pos ev]
      by_cases ec : rf 9 (rf 11 a.toNatClampNeg).toNatClampNeg = c
      · rw [if_pos ec, if_pos ec]
      · rw [if_neg ec, if_neg ec]
    · rw [if_neg ev, if_neg ev]
theorem ps_ref14 {lk rf : cr_S} (h : ps_L0 lk rf) (lat : Int64) (ln : Nat → Int64) (c v : Int32) : (v ≠ 0 ∨ ps_ch lk c → lo_Ref_ring_14 rf lat ln c 4 v c 0 = 1) ∧ (v = 0 → ¬ ps_ch lk c → lo_Ref_ring_14 rf lat ln c 4 v c 0 = 0) := by
  unfold ps_ch
  rw [ps_rS h lat ln c 3 v c 0 (by decide), ps_rS h lat ln c 2 _ _ _ (by decide), ps_rS h lat ln c 1 _ _ _ (by decide)]
  rw [lo_Ref_ring_14, if_pos (by decide)]
  have k1 : ¬ (1 : Int32) = 0 := by decide
  by_cases ev : v = 0
  · by_cases e1 : ps_nx lk c = c
    · simp [ev, e1, k1]
    · by_cases e2 : ps_nx lk (ps_nx lk c) = c
      · simp [ev, e1, e2, k1]
      · by_cases e3 : ps_nx lk (ps_nx lk (ps_nx lk c)) = c
        · simp [ev, e1, e2, e3]
        · simp [ev, e1, e2, e3]
  · simp [ev, k1]
theorem ps_ring {lk rf : cr_S} (h : ps_L0 lk rf) (mn : cr_S) (lt : Int64) (pl bd tr tb : cr_S) (lat : Int64) (ln : Nat → Int64) : md_Main_ring mn lt pl bd lk tr tb = md_Ref_ring rf lat ln := by
  have a1 := ps_waits h (c := 1) (by decide)
  have a2 := ps_waits h (c := (1 : Int32) + 1) (by decide)
  have a3 := ps_waits h (c := (1 : Int32) + 1 + 1) (by decide)
  have b1 := fun v => ps_ref14 h lat ln 1 v
  have b2 := fun v => ps_ref14 h lat ln ((1 : Int32) + 1) v
  have b3 := fun v => ps_ref14 h lat ln ((1 : Int32) + 1 + 1) v
  have k1 : ¬ (1 : Int32) = 0 := by decide
  have E : ∀ (n : Nat) (v : Int32), ¬ (3 : Int32) < v → lo_Main_ring_2 mn lt pl bd lk tr tb (n + 1) v = if md_Locks_waitsForItself lk v = 0 then lo_Main_ring_2 mn lt pl bd lk tr tb n (v + 1) else 1 := fun n v hv => by rw [lo_Main_ring_2, if_neg hv]
  have F : ∀ (n : Nat) (w v : Int32), ¬ (4 : Int32) ≤ v → lo_Ref_ring_4 rf lat ln (n + 1) w v = lo_Ref_ring_4 rf lat ln n (lo_Ref_ring_14 rf lat ln v 4 w v 0) (v + 1) := fun n w v hv => by rw [lo_Ref_ring_4, if_neg hv]
  have E4 : lo_Main_ring_2 mn lt pl bd lk tr tb 1 (1 + 1 + 1 + 1) = 0 := by rw [lo_Main_ring_2, if_pos (by decide)]
  have F4 : ∀ w : Int32, lo_Ref_ring_4 rf lat ln 1 w (1 + 1 + 1 + 1) = w := fun w => by rw [lo_Ref_ring_4, if_pos (by decide)]
  unfold md_Main_ring md_Ref_ring
  rw [E 3 1 (by decide), E 2 _ (by decide), E 1 _ (by decide), E4, F 3 0 1 (by decide), F 2 _ _ (by decide), F 1 _ _ (by decide), F4]
  by_cases e1 : ps_ch lk 1
  · rw [a1.1 e1, if_neg k1, (b1 0).1 (Or.inr e1), (b2 1).1 (Or.inl k1), (b3 1).1 (Or.inl k1)]
  · rw [a1.2 e1, if_pos rfl, (b1 0).2 rfl e1]
    by_cases e2 : ps_ch lk ((1 : Int32) + 1)
    · rw [a2.1 e2, if_neg k1, (b2 0).1 (Or.inr e2), (b3 1).1 (Or.inl k1)]
    · rw [a2.2 e2, if_pos rfl, (b2 0).2 rfl e2]
      by_cases e3 : ps_ch lk ((1 : Int32) + 1 + 1)
      · rw [a3.1 e3, if_neg k1, (b3 0).1 (Or.inr e3)]
      · rw [a3.2 e3, if_pos rfl, (b3 0).2 rfl e3]
end
section
/-! locks: the greatest that a core holds, by both sides' loops -/
def ps_top (f : Nat → Int32) (c : Int32) (t : Nat) : Prop := (t = 0 ∧ ∀ n, 1 ≤ n → n ≤ 8 → f n ≠ c) ∨ (1 ≤ t ∧ t ≤ 8 ∧ f t = c ∧ ∀ n, t < n → n ≤ 8 → f n ≠ c)
theorem ps_top_u {f : Nat → Int32} {c : Int32} {t u : Nat} (h : ps_top f c t) (g : ps_top f c u) : t = u := by
  rcases h with ⟨h0, h1⟩ | ⟨h0, h1, h2, h3⟩ <;> rcases g with ⟨g0, g1⟩ | ⟨g0, g1, g2, g3⟩
  · omega
  · exact absurd g2 (h1 u g0 g1)
  · exact absurd h2 (g1 t h0 h1)
  · rcases Nat.lt_trichotomy t u with q | q | q
    · exact absurd g2 (h3 u q g1)
    · exact q
    · exact absurd h2 (g3 t q h1)
theorem ps_nI_t {k : Nat} (h : k < 100000) : (nI k).toInt = (k : Int) := nI_toInt (by omega)
theorem ps_nI_c {k : Nat} (h : k < 100000) : (nI k).toNatClampNeg = k := nI_clamp (by omega)
theorem ps_last (lk : cr_S) (c : Int32) : ∀ (d k : Nat), k ≤ 8 → k < d → (∀ n, k < n → n ≤ 8 → lk 1 n ≠ c) → ∃ t, t ≤ 8 ∧ lo_Locks_lastTakenBy_3 lk c d (nI k) = nI t ∧ ps_top (lk 1) c t
  | 0, k, _, h, _ => absurd h (by omega)
  | d + 1, k, h8, hd, hn => by
    have k1 : (1 : Int32).toInt = 1 := by decide
    have kt := ps_nI_t (k := k) (by omega)
    rw [lo_Locks_lastTakenBy_3, ps_nI_c (by omega)]
    by_cases e : k = 0
    · subst e
      refine ⟨0, by omega, ?_, Or.inl ⟨rfl, fun n a b => hn n (by omega) b⟩⟩
      rw [if_pos (by rw [pu_lt]; omega)]
      rfl
    · rw [if_neg (by rw [pu_lt]; omega)]
      by_cases e2 : lk 1 k = c
      · rw [if_pos e2]
        exact ⟨k, h8, rfl, Or.inr ⟨by omega, h8, e2, hn⟩⟩
      · rw [if_neg e2, show nI k + (-1) = nI (k - 1) from sb_m1 (by omega)]
        exact ps_last lk c d (k - 1) (by omega) (by omega) (fun n a b => by
          rcases Nat.lt_or_ge k n with q | q
          · exact hn n q b
          · rw [show n = k by omega]; exact e2)
theorem ps_lastM (lk : cr_S) (c : Int32) : ∃ t, t ≤ 8 ∧ md_Locks_lastTakenBy lk c = nI t ∧ ps_top (lk 1) c t :=
  ps_last lk c 9 8 (by omega) (by omega) (fun n a b => absurd b (by omega))
/-- among the locks of one core the reference's numbers rise with the lock's own -/
def ps_rise (rf : cr_S) : Prop := ∀ n m : Nat, 1 ≤ n → n < m → m ≤ 8 → rf 9 n = rf 9 m → rf 9 n ≠ 0 → (rf 10 n).toInt < (rf 10 m).toInt
theorem ps_lastR0 (rf : cr_S) (lat : Int64) (ln : Nat → Int64) {c : Int32} (hc : c ≠ 0) (hr : ps_rise rf) : ∀ (d k b : Nat), 1 ≤ k → k ≤ 9 → 9 < d + k → ((b = 0 ∧ ∀ n, 1 ≤ n → n < k → rf 9 n ≠ c) ∨ (1 ≤ b ∧ b < k ∧ rf 9 b = c ∧ ∀ n, b < n → n < k → rf 9 n ≠ c)) → ∃ t, t ≤ 8 ∧ lo_Ref_lastLock_4 rf lat ln c d (nI b) (nI k) = nI t ∧ ps_top (rf 9) c t
  | 0, k, b, _, h, h2, _ => absurd h2 (by omega)
  | d + 1, k, b, h1, h9, hd, hb => by
    have k9 : (9 : Int32).toInt = 9 := by decide
    have k0 : (0 : Int32).toInt = 0 := by decide
    have kt := ps_nI_t (k := k) (by omega)
    have bl : b ≤ 8 := by rcases hb with q | q <;> omega
    have bt := ps_nI_t (k := b) (by omega)
    rw [lo_Ref_lastLock_4, ps_nI_c (k := k) (by omega), ps_nI_c (k := b) (by omega)]
    by_cases e : k = 9
    · rw [if_pos (by rw [pu_le]; omega)]
      refine ⟨b, bl, rfl, ?_⟩
      rcases hb with ⟨q1, q2⟩ | ⟨q1, q2, q3, q4⟩
      · exact Or.inl ⟨q1, fun n a z => q2 n a (by omega)⟩
      · exact Or.inr ⟨q1, bl, q3, fun n a z => q4 n a (by omega)⟩
    · rw [if_neg (by rw [pu_le]; omega), show nI k + 1 = nI (k + 1) from nI_1 k]
      by_cases e2 : rf 9 k = c
      · have new : ∃ t, t ≤ 8 ∧ lo_Ref_lastLock_4 rf lat ln c d (nI k) (nI (k + 1)) = nI t ∧ ps_top (rf 9) c t := ps_lastR0 rf lat ln hc hr d (k + 1) k (by omega) (by omega) (by omega) (Or.inr ⟨h1, by omega, e2, fun n a z => absurd z (by omega)⟩)
        rw [if_pos e2]
        rcases hb with ⟨q1, q2⟩ | ⟨q1, q2, q3, q4⟩
        · rw [if_pos (by rw [pu_eq]; omega)]
          exact new
        · rw [if_neg (by rw [pu_eq]; omega), if_neg]
          · exact new
          · have := hr b k q1 q2 (by omega) (by rw [q3, e2]) (by rw [q3]; exact hc)
            rw [pu_le]; omega
      · rw [if_neg e2]
        refine ps_lastR0 rf lat ln hc hr d (k + 1) b (by omega) (by omega) (by omega) ?_
        rcases hb with ⟨q1, q2⟩ | ⟨q1, q2, q3, q4⟩
        · refine Or.inl ⟨q1, fun n a z => ?_⟩
          rcases Nat.lt_or_ge n k with w | w
          · exact q2 n a w
          · rw [show n = k by omega]; exact e2
        · refine Or.inr ⟨q1, by omega, q3, fun n a z => ?_⟩
          rcases Nat.lt_or_ge n k with w | w
          · exact q4 n a w
          · rw [show n = k by omega]; exact e2
theorem ps_lastR (rf : cr_S) (lat : Int64) (ln : Nat → Int64) {c : Int32} (hc : c ≠ 0) (hr : ps_rise rf) : ∃ t, t ≤ 8 ∧ md_Ref_lastLock rf lat ln c = nI t ∧ ps_top (rf 9) c t :=
  ps_lastR0 rf lat ln hc hr 9 1 0 (by omega) (by omega) (by omega) (Or.inl ⟨rfl, fun n a z => absurd z (by omega)⟩)
theorem ps_lastE {lk rf : cr_S} (h : lk 1 = rf 9) (lat : Int64) (ln : Nat → Int64) {c : Int32} (hc : c ≠ 0) (hr : ps_rise rf) : md_Locks_lastTakenBy lk c = md_Ref_lastLock rf lat ln c := by
  obtain ⟨t, _, e, ht⟩ := ps_lastM lk c
  obtain ⟨u, _, e', hu⟩ := ps_lastR rf lat ln hc hr
  rw [h] at ht
  rw [e, e', ps_top_u ht hu]
/-- the reference's search from n upwards -/
theorem ps_l49 (rf : cr_S) (lat : Int64) (ln : Nat → Int64) (c : Int32) (x : Int32) : ∀ (d k : Nat), 1 ≤ k → k ≤ 9 → 9 < d + k → ((∃ m, k ≤ m ∧ m ≤ 8 ∧ rf 9 m = c) → lo_Ref_lock_49 rf lat ln c x d (nI k) = (-16, rf)) ∧ ((∀ m, k ≤ m → m ≤ 8 → rf 9 m ≠ c) → lo_Ref_lock_49 rf lat ln c x d (nI k) = lo_Ref_lock_49 rf lat ln c x 1 (nI 9))
  | 0, k, _, h, h2 => absurd h2 (by omega)
  | d + 1, k, h1, h9, hd => by
    have k9 : (9 : Int32).toInt = 9 := by decide
    have kt := ps_nI_t (k := k) (by omega)
    have t9 := ps_nI_t (k := 9) (by omega)
    by_cases e : k = 9
    · subst e
      refine ⟨fun ⟨m, a, b, _⟩ => absurd b (by omega), fun _ => ?_⟩
      have q9 : (9 : Int32) ≤ nI 9 := by rw [pu_le]; omega
      rw [lo_Ref_lock_49, if_pos q9, lo_Ref_lock_49, if_pos q9]
    · have st : lo_Ref_lock_49 rf lat ln c x (d + 1) (nI k) = if rf 9 k = c then (-16, rf) else lo_Ref_lock_49 rf lat ln c x d (nI (k + 1)) := by
        rw [lo_Ref_lock_49, if_neg (by rw [pu_le]; omega), ps_nI_c (k := k) (by omega), show nI k + 1 = nI (k + 1) from nI_1 k]
      rw [st]
      have ih := ps_l49 rf lat ln c x d (k + 1) (by omega) (by omega) (by omega)
      by_cases e2 : rf 9 k = c
      · rw [if_pos e2]
        exact ⟨fun _ => rfl, fun q => absurd e2 (q k (Nat.le_refl k) (by omega))⟩
      · rw [if_neg e2]
        refine ⟨fun ⟨m, a, b, g⟩ => ih.1 ⟨m, ?_, b, g⟩, fun q => ih.2 (fun m a b => q m (by omega) b)⟩
        rcases Nat.lt_or_ge k m with w | w
        · omega
        · exact absurd (show rf 9 k = c by rw [show k = m by omega]; exact g) e2
end
section
/-! locks: the relation, and the core that spins the longest -/
def ps_SO (lk rf : cr_S) : Prop := ∀ c d : Nat, 1 ≤ c → c ≤ 3 → 1 ≤ d → d ≤ 3 → lk 2 c ≠ 0 → lk 2 d ≠ 0 → ((lk 3 c).toInt < (lk 3 d).toInt ↔ (rf 12 c).toInt < (rf 12 d).toInt)
theorem ps_spin {lk rf : cr_S} (lat : Int64) (ln : Nat → Int64) (x1 x2 x : Int32) (hx : x ≠ 0) (e2 : x = -x2) (h2 : lk 2 = rf 11) (hS : ps_SO lk rf) : ∀ (d k b : Nat), 1 ≤ k → k ≤ 4 → 4 < d + k → b < k → (b = 0 ∨ (1 ≤ b ∧ lk 2 b = x)) → ∃ t, t ≤ 3 ∧ (t = 0 ∨ (1 ≤ t ∧ lk 2 t = x)) ∧ lo_Locks_longestSpinnerFor_4 lk x d (nI b) (nI k) = nI t ∧ lo_Ref_lock_146 rf lat ln x1 x2 d (nI b) (nI k) = lo_Ref_lock_146 rf lat ln x1 x2 1 (nI t) (nI 4)
  | 0, k, b, _, h, h3, _, _ => absurd h3 (by omega)
  | d + 1, k, b, h1, h4, hd, hbk, hb => by
    have k3 : (3 : Int32).toInt = 3 := by decide
    have k4 : (4 : Int32).toInt = 4 := by decide
    have k0 : (0 : Int32).toInt = 0 := by decide
    have kt := ps_nI_t (k := k) (by omega)
    have bt := ps_nI_t (k := b) (by omega)
    have t4 := ps_nI_t (k := 4) (by omega)
    have ih := fun b' (g : b' < k + 1) (g2 : b' = 0 ∨ (1 ≤ b' ∧ lk 2 b' = x)) (g3 : k ≠ 4) => ps_spin lat ln x1 x2 x hx e2 h2 hS d (k + 1) b' (by omega) (by omega) (by omega) g g2
    by_cases e : k = 4
    · subst e
      have q4 : (4 : Int32) ≤ nI 4 := by rw [pu_le]; omega
      refine ⟨b, by omega, hb, ?_, ?_⟩
      · rw [lo_Locks_longestSpinnerFor_4, if_pos (by rw [pu_lt]; omega)]
      · rw [lo_Ref_lock_146, if_pos q4, lo_Ref_lock_146, if_pos q4]
    · have c1 : lo_Locks_longestSpinnerFor_4 lk x (d + 1) (nI b) (nI k) = if lk 2 k = x ∧ (b = 0 ∨ (lk 3 k).toInt < (lk 3 b).toInt) then lo_Locks_longestSpinnerFor_4 lk x d (nI k) (nI (k + 1)) else lo_Locks_longestSpinnerFor_4 lk x d (nI b) (nI (k + 1)) := by
        rw [lo_Locks_longestSpinnerFor_4, if_neg (by rw [pu_lt]; omega), ps_nI_c (k := k) (by omega), ps_nI_c (k := b) (by omega), show nI k + 1 = nI (k + 1) from nI_1 k]
        by_cases a1 : b = 0
        · rw [if_pos (by rw [pu_eq]; omega)]
          by_cases a2 : lk 2 k = x
          · rw [if_pos a2, if_pos ⟨a2, Or.inl a1⟩]
          · rw [if_neg a2, if_neg (fun q => a2 q.1)]
        · rw [if_neg (by rw [pu_eq]; omega)]
          by_cases a3 : lk 3 b ≤ lk 3 k
          · rw [if_pos a3]
            rw [pu_le] at a3
            by_cases a2 : lk 2 k = x
            · rw [if_pos a2, if_neg (fun q => by rcases q.2 with w | w <;> omega)]
            · rw [if_neg a2, if_neg (fun q => a2 q.1)]
          · rw [if_neg a3]
            rw [pu_le] at a3
            by_cases a2 : lk 2 k = x
            · rw [if_pos a2, if_pos ⟨a2, Or.inr (by omega)⟩]
            · rw [if_neg a2, if_neg (fun q => a2 q.1)]
      have c2 : lo_Ref_lock_146 rf lat ln x1 x2 (d + 1) (nI b) (nI k) = if lk 2 k = x ∧ (b = 0 ∨ (rf 12 k).toInt < (rf 12 b).toInt) then lo_Ref_lock_146 rf lat ln x1 x2 d (nI k) (nI (k + 1)) else lo_Ref_lock_146 rf lat ln x1 x2 d (nI b) (nI (k + 1)) := by
        rw [lo_Ref_lock_146, if_neg (by rw [pu_le]; omega), ps_nI_c (k := k) (by omega), ps_nI_c (k := b) (by omega), show nI k + 1 = nI (k + 1) from nI_1 k, ← h2, ← e2]
        by_cases a2 : lk 2 k = x
        · rw [if_pos a2]
          by_cases a1 : b = 0
          · rw [if_pos (by rw [pu_eq]; omega), if_pos ⟨a2, Or.inl a1⟩]
          · rw [if_neg (by rw [pu_eq]; omega)]
            by_cases a3 : rf 12 b ≤ rf 12 k
            · rw [if_pos a3]
              rw [pu_le] at a3
              rw [if_neg (fun q => by rcases q.2 with w | w <;> omega)]
            · rw [if_neg a3]
              rw [pu_le] at a3
              rw [if_pos ⟨a2, Or.inr (by omega)⟩]
        · rw [if_neg a2, if_neg (fun q => a2 q.1)]
      have eqc : (lk 2 k = x ∧ (b = 0 ∨ (lk 3 k).toInt < (lk 3 b).toInt)) ↔ (lk 2 k = x ∧ (b = 0 ∨ (rf 12 k).toInt < (rf 12 b).toInt)) := by
        by_cases a1 : b = 0
        · simp [a1]
        · rcases hb with q | ⟨q1, q2⟩
          · exact absurd q a1
          · constructor
            · rintro ⟨z1, z2⟩
              refine ⟨z1, ?_⟩
              rcases z2 with w | w
              · exact Or.inl w
              · exact Or.inr ((hS k b h1 (by omega) q1 (by omega) (by rw [z1]; exact hx) (by rw [q2]; exact hx)).mp w)
            · rintro ⟨z1, z2⟩
              refine ⟨z1, ?_⟩
              rcases z2 with w | w
              · exact Or.inl w
              · exact Or.inr ((hS k b h1 (by omega) q1 (by omega) (by rw [z1]; exact hx) (by rw [q2]; exact hx)).mpr w)
      rw [c1, c2]
      by_cases z : lk 2 k = x ∧ (b = 0 ∨ (lk 3 k).toInt < (lk 3 b).toInt)
      · rw [if_pos z, if_pos (eqc.mp z)]
        exact ih k (by omega) (Or.inr ⟨h1, z.1⟩) e
      · rw [if_neg z, if_neg (fun q => z (eqc.mpr q))]
        exact ih b (by omega) hb e
end
section
/-! locks: taking one -/
def ps_LC (N : Nat) (lk rf : cr_S) : Prop := 0 ≤ (lk 0 0).toInt ∧ (lk 0 0).toInt ≤ N ∧ 0 ≤ (rf 0 3).toInt ∧ (rf 0 3).toInt ≤ N
def ps_LS (lk rf : cr_S) : Prop := ∀ c : Nat, 1 ≤ c → c ≤ 3 → lk 2 c ≠ 0 → (lk 3 c).toInt ≤ (lk 0 0).toInt ∧ (rf 12 c).toInt ≤ (rf 0 3).toInt
def ps_LH (rf : cr_S) : Prop := ∀ n : Nat, 1 ≤ n → n ≤ 8 → rf 9 n ≠ 0 → (rf 10 n).toInt ≤ (rf 0 3).toInt
def ps_LW (lk : cr_S) : Prop := ∀ c n : Nat, 1 ≤ c → c ≤ 3 → 1 ≤ n → n ≤ 8 → lk 2 c ≠ 0 → (lk 1 n).toInt = (c : Int) → (n : Int) < (lk 2 c).toInt
def ps_L (N : Nat) (lk rf : cr_S) : Prop := ps_L0 lk rf ∧ ps_rise rf ∧ ps_SO lk rf ∧ ps_LC N lk rf ∧ ps_LS lk rf ∧ ps_LH rf ∧ ps_LW lk
theorem ps_L_mono {N : Nat} {lk rf : cr_S} (h : ps_L N lk rf) : ps_L (N + 1) lk rf := by
  obtain ⟨a, b, c, ⟨d1, d2, d3, d4⟩, e, f, g⟩ := h
  exact ⟨a, b, c, ⟨d1, by omega, d3, by omega⟩, e, f, g⟩
theorem ps_add1 {x : Int32} {N : Nat} (h0 : 0 ≤ x.toInt) (h : x.toInt ≤ N) (hN : N ≤ 100000) : (x + 1).toInt = x.toInt + 1 := by
  have k1 : (1 : Int32).toInt = 1 := by decide
  have := cr_add (x := x) (y := 1) (by omega)
  omega
theorem ps_ne0 {x : Int32} (h : x.toInt ≠ 0) : x ≠ 0 := fun e => h (by rw [e]; decide)
/-- a free lock is taken -/
theorem ps_have {N : Nat} {lk rf : cr_S} (h : ps_L N lk rf) (hN : N < 512) (lat : Int64) (ln : Nat → Int64) {c x : Nat} (hc1 : 1 ≤ c) (hc3 : c ≤ 3) (hx1 : 1 ≤ x) (hx8 : x ≤ 8) (hs : lk 2 c = 0) (hfree : ∀ m, x < m → m ≤ 8 → rf 9 m ≠ nI c) : ps_L (N + 1) (cr_up lk 1 x (nI c)) (md_Ref_have rf lat ln (nI c) (nI x)) := by
  obtain ⟨⟨a1, a2, a3, a4, a5⟩, b, sO, ⟨d1, d2, d3, d4⟩, sS, sH, sW⟩ := h
  have ct := ps_nI_t (k := c) (by omega)
  have p1 := ps_add1 d3 d4 (by omega)
  have r9 : md_Ref_have rf lat ln (nI c) (nI x) 9 = upd (rf 9) x (nI c) := by simp [md_Ref_have, cr_up, upd, ps_nI_c (k := x) (by omega)]
  have r10 : md_Ref_have rf lat ln (nI c) (nI x) 10 = upd (rf 10) x (rf 0 3 + 1) := by simp [md_Ref_have, cr_up, upd, ps_nI_c (k := x) (by omega)]
  have r03 : md_Ref_have rf lat ln (nI c) (nI x) 0 3 = rf 0 3 + 1 := by simp [md_Ref_have, cr_up, upd]
  have r11 : md_Ref_have rf lat ln (nI c) (nI x) 11 = rf 11 := by simp [md_Ref_have, cr_up]
  have r12 : md_Ref_have rf lat ln (nI c) (nI x) 12 = rf 12 := by simp [md_Ref_have, cr_up]
  have l1 : cr_up lk 1 x (nI c) 1 = upd (lk 1) x (nI c) := pu_up_fn ..
  have l2 : cr_up lk 1 x (nI c) 2 = lk 2 := pu_up_cell _ _ _ (by decide)
  have l3 : cr_up lk 1 x (nI c) 3 = lk 3 := pu_up_cell _ _ _ (by decide)
  have l0 : cr_up lk 1 x (nI c) 0 = lk 0 := pu_up_cell _ _ _ (by decide)
  have hc0 : nI c ≠ 0 := ps_ne0 (by omega)
  have ux : ∀ (f : Nat → Int32) (v : Int32), upd f x v x = v := fun f v => by simp [upd]
  have un : ∀ (f : Nat → Int32) (v : Int32) (j : Nat), j ≠ x → upd f x v j = f j := fun f v j hj => by simp [upd, hj]
  refine ⟨⟨by rw [l1, r9, a1], by rw [l2, r11, a2], cr_rg_up a3 (fun _ => by omega), cr_rg_up a4 (fun e => absurd e (by decide)), by rw [l2]; exact a5⟩, ?_, ?_, ⟨by rw [l0]; exact d1, by rw [l0]; omega, by rw [r03]; omega, by rw [r03]; omega⟩, ?_, ?_, ?_⟩
  · intro n m h1 h2 h3 h4 h5
    rw [r9] at h4 h5
    rw [r10]
    by_cases en : n = x
    · subst en
      rw [ux, un _ _ m (by omega)] at h4
      exact absurd h4.symm (hfree m h2 h3)
    · rw [un _ _ n en] at h4 h5 ⊢
      by_cases em : m = x
      · subst em
        rw [ux] at h4 ⊢
        have := sH n h1 (by omega) h5
        omega
      · rw [un _ _ m em] at h4 ⊢
        exact b n m h1 h2 h3 h4 h5
  · intro c1 c2 g1 g2 g3 g4 g5 g6
    rw [l2] at g5 g6
    rw [l3, r12]
    exact sO c1 c2 g1 g2 g3 g4 g5 g6
  · intro c1 g1 g2 g3
    rw [l2] at g3
    rw [l3, l0, r12, r03]
    have := sS c1 g1 g2 g3
    omega
  · intro n g1 g2 g3
    rw [r9] at g3
    rw [r10, r03]
    by_cases en : n = x
    · subst en
      rw [ux]
      omega
    · rw [un _ _ n en] at g3 ⊢
      have := sH n g1 g2 g3
      omega
  · intro c1 n g1 g2 g3 g4 g5 g6
    rw [l2] at g5 ⊢
    rw [l1] at g6
    by_cases en : n = x
    · subst en
      rw [ux] at g6
      exact absurd (show lk 2 c1 = 0 by rw [show c1 = c by omega]; exact hs) g5
    · rw [un _ _ n en] at g6
      exact sW c1 n g1 g2 g3 g4 g5 g6
end
section
/-! locks: giving back, ceasing to spin, beginning to spin -/
theorem ps_free {N : Nat} {lk rf : cr_S} (h : ps_L N lk rf) (x : Nat) : ps_L N (cr_up lk 1 x 0) (cr_up rf 9 x 0) := by
  obtain ⟨⟨a1, a2, a3, a4, a5⟩, b, sO, ⟨d1, d2, d3, d4⟩, sS, sH, sW⟩ := h
  have k0 : (0 : Int32).toInt = 0 := by decide
  have r9 : cr_up rf 9 x 0 9 = upd (rf 9) x 0 := pu_up_fn ..
  have r10 : cr_up rf 9 x 0 10 = rf 10 := pu_up_cell _ _ _ (by decide)
  have r0 : cr_up rf 9 x 0 0 = rf 0 := pu_up_cell _ _ _ (by decide)
  have r11 : cr_up rf 9 x 0 11 = rf 11 := pu_up_cell _ _ _ (by decide)
  have r12 : cr_up rf 9 x 0 12 = rf 12 := pu_up_cell _ _ _ (by decide)
  have l1 : cr_up lk 1 x 0 1 = upd (lk 1) x 0 := pu_up_fn ..
  have l2 : cr_up lk 1 x 0 2 = lk 2 := pu_up_cell _ _ _ (by decide)
  have l3 : cr_up lk 1 x 0 3 = lk 3 := pu_up_cell _ _ _ (by decide)
  have l0 : cr_up lk 1 x 0 0 = lk 0 := pu_up_cell _ _ _ (by decide)
  have ux : ∀ (f : Nat → Int32) (v : Int32), upd f x v x = v := fun f v => by simp [upd]
  have un : ∀ (f : Nat → Int32) (v : Int32) (j : Nat), j ≠ x → upd f x v j = f j := fun f v j hj => by simp [upd, hj]
  refine ⟨⟨by rw [l1, r9, a1], by rw [l2, r11, a2], cr_rg_up a3 (fun _ => by omega), cr_rg_up a4 (fun e => absurd e (by decide)), by rw [l2]; exact a5⟩, ?_, ?_, ⟨by rw [l0]; exact d1, by rw [l0]; exact d2, by rw [r0]; exact d3, by rw [r0]; exact d4⟩, ?_, ?_, ?_⟩
  · intro n m h1 h2 h3 h4 h5
    rw [r9] at h4 h5
    rw [r10]
    by_cases en : n = x
    · subst en; rw [ux] at h5; exact absurd rfl h5
    · rw [un _ _ n en] at h4 h5
      by_cases em : m = x
      · subst em; rw [ux] at h4; exact absurd h4 h5
      · rw [un _ _ m em] at h4
        exact b n m h1 h2 h3 h4 h5
  · intro c1 c2 g1 g2 g3 g4 g5 g6
    rw [l2] at g5 g6
    rw [l3, r12]
    exact sO c1 c2 g1 g2 g3 g4 g5 g6
  · intro c1 g1 g2 g3
    rw [l2] at g3
    rw [l3, l0, r12, r0]
    exact sS c1 g1 g2 g3
  · intro n g1 g2 g3
    rw [r9] at g3
    rw [r10, r0]
    by_cases en : n = x
    · subst en; rw [ux] at g3; exact absurd rfl g3
    · rw [un _ _ n en] at g3
      exact sH n g1 g2 g3
  · intro c1 n g1 g2 g3 g4 g5 g6
    rw [l2] at g5 ⊢
    rw [l1] at g6
    by_cases en : n = x
    · subst en; rw [ux] at g6; omega
    · rw [un _ _ n en] at g6
      exact sW c1 n g1 g2 g3 g4 g5 g6
theorem ps_stop {N : Nat} {lk rf : cr_S} (h : ps_L N lk rf) {t : Nat} (ht : 1 ≤ t) : ps_L N (cr_up lk 2 t 0) (cr_up rf 11 t 0) := by
  obtain ⟨⟨a1, a2, a3, a4, a5⟩, b, sO, ⟨d1, d2, d3, d4⟩, sS, sH, sW⟩ := h
  have k0 : (0 : Int32).toInt = 0 := by decide
  have r9 : cr_up rf 11 t 0 9 = rf 9 := pu_up_cell _ _ _ (by decide)
  have r10 : cr_up rf 11 t 0 10 = rf 10 := pu_up_cell _ _ _ (by decide)
  have r0 : cr_up rf 11 t 0 0 = rf 0 := pu_up_cell _ _ _ (by decide)
  have r11 : cr_up rf 11 t 0 11 = upd (rf 11) t 0 := pu_up_fn ..
  have r12 : cr_up rf 11 t 0 12 = rf 12 := pu_up_cell _ _ _ (by decide)
  have l1 : cr_up lk 2 t 0 1 = lk 1 := pu_up_cell _ _ _ (by decide)
  have l2 : cr_up lk 2 t 0 2 = upd (lk 2) t 0 := pu_up_fn ..
  have l3 : cr_up lk 2 t 0 3 = lk 3 := pu_up_cell _ _ _ (by decide)
  have l0 : cr_up lk 2 t 0 0 = lk 0 := pu_up_cell _ _ _ (by decide)
  have un : ∀ (j : Nat), upd (lk 2) t 0 j ≠ 0 → j ≠ t ∧ upd (lk 2) t 0 j = lk 2 j := fun j hj => by
    by_cases e : j = t
    · subst e; exact absurd (by simp [upd]) hj
    · exact ⟨e, by simp [upd, e]⟩
  refine ⟨⟨by rw [l1, r9, a1], by rw [l2, r11, a2], cr_rg_up a3 (fun e => absurd e (by decide)), cr_rg_up a4 (fun _ => by omega), by rw [l2]; simp only [upd, if_neg (show (0 : Nat) ≠ t by omega)]; exact a5⟩, ?_, ?_, ⟨by rw [l0]; exact d1, by rw [l0]; exact d2, by rw [r0]; exact d3, by rw [r0]; exact d4⟩, ?_, ?_, ?_⟩
  · intro n m h1 h2 h3 h4 h5
    rw [r9] at h4 h5
    rw [r10]
    exact b n m h1 h2 h3 h4 h5
  · intro c1 c2 g1 g2 g3 g4 g5 g6
    rw [l2] at g5 g6
    rw [l3, r12]
    have q5 := (un c1 g5).2
    have q6 := (un c2 g6).2
    rw [q5] at g5
    rw [q6] at g6
    exact sO c1 c2 g1 g2 g3 g4 g5 g6
  · intro c1 g1 g2 g3
    rw [l2] at g3
    rw [l3, l0, r12, r0]
    have q := (un c1 g3).2
    rw [q] at g3
    exact sS c1 g1 g2 g3
  · intro n g1 g2 g3
    rw [r9] at g3
    rw [r10, r0]
    exact sH n g1 g2 g3
  · intro c1 n g1 g2 g3 g4 g5 g6
    rw [l2] at g5 ⊢
    rw [l1] at g6
    have q := (un c1 g5).2
    rw [q] at g5 ⊢
    exact sW c1 n g1 g2 g3 g4 g5 g6
theorem ps_begin {N : Nat} {lk rf lk' rf' : cr_S} (h : ps_L N lk rf) (hN : N < 512) {c x : Nat} (hc1 : 1 ≤ c) (hc3 : c ≤ 3) (hx1 : 1 ≤ x) (hx8 : x ≤ 8) (hfree : ∀ m, x ≤ m → m ≤ 8 → rf 9 m ≠ nI c)
    (l1 : lk' 1 = lk 1) (l2 : lk' 2 = upd (lk 2) c (nI x)) (l3 : lk' 3 = upd (lk 3) c (lk 0 0 + 1)) (l0 : lk' 0 0 = lk 0 0 + 1) (r9 : rf' 9 = rf 9) (r10 : rf' 10 = rf 10) (r11 : rf' 11 = upd (rf 11) c (nI x)) (r12 : rf' 12 = upd (rf 12) c (rf 0 3 + 1)) (r0 : rf' 0 3 = rf 0 3 + 1) : ps_L (N + 1) lk' rf' := by
  obtain ⟨⟨a1, a2, a3, a4, a5⟩, b, sO, ⟨d1, d2, d3, d4⟩, sS, sH, sW⟩ := h
  have xt := ps_nI_t (k := x) (by omega)
  have ct := ps_nI_t (k := c) (by omega)
  have p1 := ps_add1 d1 d2 (by omega)
  have p2 := ps_add1 d3 d4 (by omega)
  have ux : ∀ (f : Nat → Int32) (v : Int32), upd f c v c = v := fun f v => by simp [upd]
  have un : ∀ (f : Nat → Int32) (v : Int32) (j : Nat), j ≠ c → upd f c v j = f j := fun f v j hj => by simp [upd, hj]
  refine ⟨⟨by rw [l1, r9, a1], by rw [l2, r11, a2], fun j => by rw [l1]; exact a3 j, fun j => ?_, by rw [l2, un _ _ 0 (by omega)]; exact a5⟩, ?_, ?_, ⟨by rw [l0]; omega, by rw [l0]; omega, by rw [r0]; omega, by rw [r0]; omega⟩, ?_, ?_, ?_⟩
  · rw [l2]
    by_cases e : j = c
    · subst e; rw [ux]; omega
    · rw [un _ _ j e]; exact a4 j
  · intro n m h1 h2 h3 h4 h5
    rw [r9] at h4 h5
    rw [r10]
    exact b n m h1 h2 h3 h4 h5
  · intro c1 c2 g1 g2 g3 g4 g5 g6
    rw [l2] at g5 g6
    rw [l3, r12]
    by_cases e1 : c1 = c
    · subst e1
      by_cases e2 : c2 = c1
      · subst e2; rw [ux, ux]; omega
      · rw [un _ _ c2 e2] at g6
        rw [ux, ux, un _ _ c2 e2, un _ _ c2 e2]
        have := sS c2 g3 g4 g6
        omega
    · rw [un _ _ c1 e1] at g5
      by_cases e2 : c2 = c
      · subst e2
        rw [ux, ux, un _ _ c1 e1, un _ _ c1 e1]
        have := sS c1 g1 g2 g5
        omega
      · rw [un _ _ c2 e2] at g6
        rw [un _ _ c1 e1, un _ _ c1 e1, un _ _ c2 e2, un _ _ c2 e2]
        exact sO c1 c2 g1 g2 g3 g4 g5 g6
  · intro c1 g1 g2 g3
    rw [l2] at g3
    rw [l3, l0, r12, r0]
    by_cases e1 : c1 = c
    · subst e1; rw [ux, ux]; omega
    · rw [un _ _ c1 e1] at g3
      rw [un _ _ c1 e1, un _ _ c1 e1]
      have := sS c1 g1 g2 g3
      omega
  · intro n g1 g2 g3
    rw [r9] at g3
    rw [r10, r0]
    have := sH n g1 g2 g3
    omega
  · intro c1 n g1 g2 g3 g4 g5 g6
    rw [l2] at g5 ⊢
    rw [l1] at g6
    by_cases e1 : c1 = c
    · subst e1
      rw [ux]
      rcases Nat.lt_or_ge n x with w | w
      · omega
      · exact absurd (show rf 9 n = nI c1 by rw [← a1, pu_eq]; omega) (hfree n w g4)
    · rw [un _ _ c1 e1] at g5 ⊢
      exact sW c1 n g1 g2 g3 g4 g5 g6
end
section
/-! locks: the call -/
def ps_LF (rf rf' : cr_S) : Prop := (∀ k, k ≠ 0 → k ≠ 9 → k ≠ 10 → k ≠ 11 → k ≠ 12 → rf' k = rf k) ∧ ∀ j, j ≠ 3 → rf' 0 j = rf 0 j
theorem ps_LF_rf (rf : cr_S) : ps_LF rf rf := ⟨fun _ _ _ _ _ _ => rfl, fun _ _ => rfl⟩
theorem ps_acq {N : Nat} {lk rf : cr_S} (h : ps_L N lk rf) (hN : N < 512) (lat : Int64) (ln : Nat → Int64) {c x : Nat} (hc1 : 1 ≤ c) (hc3 : c ≤ 3) (hx1 : 1 ≤ x) (hx8 : x ≤ 8) (hs : lk 2 c = 0) :
    (md_Locks_acquire lk (nI c) (nI x)).1 = (lo_Ref_lock_49 rf lat ln (nI c) (nI x) 9 (nI x)).1 ∧ ps_L (N + 1) (md_Locks_acquire lk (nI c) (nI x)).2 (lo_Ref_lock_49 rf lat ln (nI c) (nI x) 9 (nI x)).2 ∧ ps_LF rf (lo_Ref_lock_49 rf lat ln (nI c) (nI x) 9 (nI x)).2 := by
  obtain ⟨t, ht8, et, htop⟩ := ps_lastM lk (nI c)
  have k0 : (0 : Int32).toInt = 0 := by decide
  have k9 : (9 : Int32).toInt = 9 := by decide
  have xt := ps_nI_t (k := x) (by omega)
  have tt := ps_nI_t (k := t) (by omega)
  have t9 := ps_nI_t (k := 9) (by omega)
  have a1 := h.1.1
  have rg := h.1.2.2.1 x
  unfold md_Locks_acquire
  rw [et, ps_nI_c (k := x) (by omega), ps_nI_c (k := c) (by omega)]
  by_cases e : t < x
  · have no : ∀ m, x ≤ m → m ≤ 8 → rf 9 m ≠ nI c := by
      intro m g1 g2
      rw [← a1]
      rcases htop with ⟨q1, q2⟩ | ⟨q1, q2, q3, q4⟩
      · exact q2 m (by omega) g2
      · exact q4 m (by omega) g2
    rw [if_pos (by rw [pu_lt]; omega), (ps_l49 rf lat ln (nI c) (nI x) 9 x hx1 (by omega) (by omega)).2 no, lo_Ref_lock_49, if_pos (show (9 : Int32) ≤ nI 9 by rw [pu_le]; omega), ps_nI_c (k := x) (by omega), ps_nI_c (k := c) (by omega)]
    by_cases f : lk 1 x = 0
    · rw [if_pos f, if_pos (show rf 9 x ≤ 0 by rw [← a1, f]; decide)]
      refine ⟨rfl, ps_have h hN lat ln hc1 hc3 hx1 hx8 hs (fun m g1 g2 => no m (by omega) g2), fun k g0 g9 g10 g11 g12 => ?_, fun j g => ?_⟩
      · simp [md_Ref_have, cr_up, g0, g9, g10]
      · simp [md_Ref_have, cr_up, upd, g]
    · rw [if_neg f, if_neg (show ¬ rf 9 x ≤ 0 by rw [← a1, pu_le]; rw [pu_eq] at f; omega)]
      refine ⟨rfl, ps_begin h hN hc1 hc3 hx1 hx8 no ?_ ?_ ?_ ?_ ?_ ?_ ?_ ?_ ?_, fun k g0 g9 g10 g11 g12 => ?_, fun j g => ?_⟩
      · simp [cr_up]
      · simp [cr_up]
      · simp [cr_up, upd]
      · simp [cr_up, upd]
      · simp [cr_up]
      · simp [cr_up]
      · simp [cr_up]
      · simp [cr_up, upd]
      · simp [cr_up, upd]
      · simp [cr_up, g0, g11, g12]
      · simp [cr_up, upd, g]
  · have he : ∃ m, x ≤ m ∧ m ≤ 8 ∧ rf 9 m = nI c := by
      rcases htop with ⟨q1, q2⟩ | ⟨q1, q2, q3, q4⟩
      · omega
      · exact ⟨t, by omega, ht8, by rw [← a1]; exact q3⟩
    rw [if_neg (by rw [pu_lt]; omega), (ps_l49 rf lat ln (nI c) (nI x) 9 x hx1 (by omega) (by omega)).1 he]
    exact ⟨rfl, ps_L_mono h, ps_LF_rf rf⟩
theorem ps_rel {N : Nat} {lk rf : cr_S} (h : ps_L N lk rf) (hN : N < 512) (lat : Int64) (ln : Nat → Int64) {c n : Nat} {x2 : Int32} (e2 : -x2 = nI n) (hc1 : 1 ≤ c) (hc3 : c ≤ 3) (hn1 : 1 ≤ n) (hn8 : n ≤ 8) :
    ∀ R, R = (if (md_Ref_lastLock rf lat ln (nI c)) = (-x2) then (lo_Ref_lock_146 (cr_up rf 9 (-x2).toNatClampNeg (0 : Int32)) lat ln (nI c) x2 4 (0 : Int32) (1 : Int32)) else ((-17 : Int32), rf)) →
    (md_Locks_release lk (nI c) (-x2)).1 = R.1 ∧ ps_L (N + 1) (md_Locks_release lk (nI c) (-x2)).2 R.2 ∧ ps_LF rf R.2 := by
  intro R hR
  have k0 : (0 : Int32).toInt = 0 := by decide
  have k4 : (4 : Int32).toInt = 4 := by decide
  have ct := ps_nI_t (k := c) (by omega)
  have nt := ps_nI_t (k := n) (by omega)
  have t4 := ps_nI_t (k := 4) (by omega)
  have hc0 : nI c ≠ 0 := ps_ne0 (by omega)
  have hn0 : nI n ≠ 0 := ps_ne0 (by omega)
  unfold md_Locks_release
  rw [e2, ps_nI_c (k := n) (by omega)] at hR ⊢
  rw [ps_lastE h.1.1 lat ln hc0 h.2.1]
  by_cases e : md_Ref_lastLock rf lat ln (nI c) = nI n
  · rw [if_pos e] at hR
    rw [if_pos e.symm]
    have hA := ps_free h n
    have eA : nI n = -x2 := e2.symm
    have l2 : cr_up lk 1 n 0 2 = lk 2 := pu_up_cell _ _ _ (by decide)
    obtain ⟨t, t3, htt, tc, tr⟩ := ps_spin (lk := lk) (rf := cr_up rf 9 n 0) lat ln (nI c) x2 (nI n) hn0 eA (by rw [← l2]; exact hA.1.2.1) (fun c1 c2 g1 g2 g3 g4 g5 g6 => by rw [pu_up_cell _ _ _ (by decide)]; exact h.2.2.1 c1 c2 g1 g2 g3 g4 g5 g6) 4 1 0 (by omega) (by omega) (by omega) (by omega) (Or.inl rfl)
    have tc' : md_Locks_longestSpinnerFor lk (nI n) = nI t := tc
    have tn := ps_nI_t (k := t) (by omega)
    rw [show (0 : Int32) = nI 0 from rfl, show (1 : Int32) = nI 1 from rfl] at hR
    rw [show nI 0 = (0 : Int32) from rfl] at tr
    rw [show (nI 0 : Int32) = 0 from rfl] at hR
    rw [tr, lo_Ref_lock_146, if_pos (by rw [pu_le]; omega)] at hR
    rw [tc', ps_nI_c (k := t) (by omega)]
    by_cases t0 : t = 0
    · subst t0
      rw [if_pos (by rw [pu_le]; omega)] at hR
      subst hR
      have eq : cr_up (cr_up lk 1 n (nI 0)) 2 0 0 = cr_up lk 1 n 0 := by
        funext k j
        have a5 := h.1.2.2.2.2
        by_cases ek : k = 2
        · subst ek
          by_cases ej : j = 0
          · subst ej; simp [cr_up, upd, a5]
          · simp [cr_up, upd, ej]
        · simp [cr_up, ek]; rfl
      refine ⟨rfl, ?_, fun k g0 g9 g10 g11 g12 => ?_, fun j g => ?_⟩
      · show ps_L (N + 1) (cr_up (cr_up lk 1 n (nI 0)) 2 0 0) _
        rw [eq]; exact ps_L_mono hA
      · simp [cr_up, g9]
      · simp [cr_up]
    · rw [if_neg (by rw [pu_le]; omega), ps_nI_c (k := t) (by omega), e2] at hR
      subst hR
      rcases htt with q | ⟨q1, q2⟩
      · exact absurd q t0
      · have hB := ps_stop hA (t := t) q1
        have hH := ps_have hB hN lat ln (c := t) (x := n) q1 t3 hn1 hn8 (by rw [pu_up_same]) (fun m g1 g2 => by
          rw [pu_up_cell _ _ _ (by decide), pu_up_fn]
          simp only [upd, if_neg (show m ≠ n by omega)]
          intro g3
          rw [← h.1.1, pu_eq] at g3
          have := h.2.2.2.2.2.2 t m q1 t3 (by omega) g2 (by rw [q2]; exact hn0) (by omega)
          rw [q2] at this
          omega)
        have eq : cr_up (cr_up lk 1 n (nI t)) 2 t 0 = cr_up (cr_up (cr_up lk 1 n 0) 2 t 0) 1 n (nI t) := by
          funext k j
          by_cases ek : k = 1
          · subst ek
            by_cases ej : j = n
            · subst ej; simp [cr_up, upd]
            · simp [cr_up, upd, ej]
          · by_cases ek2 : k = 2
            · subst ek2; simp [cr_up, upd]
            · simp [cr_up, ek, ek2]
        refine ⟨rfl, ?_, fun k g0 g9 g10 g11 g12 => ?_, fun j g => ?_⟩
        · show ps_L (N + 1) (cr_up (cr_up lk 1 n (nI t)) 2 t 0) _
          rw [eq]
          exact hH
        · simp [md_Ref_have, cr_up, g0, g9, g10, g11]
        · simp [md_Ref_have, cr_up, upd, g]
  · rw [if_neg e] at hR
    subst hR
    rw [if_neg (fun q => e q.symm)]
    exact ⟨rfl, ps_L_mono h, ps_LF_rf rf⟩
end
section
theorem ps_nat {x : Int32} {a b : Nat} (h1 : (a : Int) ≤ x.toInt) (h2 : x.toInt ≤ (b : Int)) (hb : b < 100000) : ∃ k : Nat, a ≤ k ∧ k ≤ b ∧ x = nI k := by
  refine ⟨x.toInt.toNat, by omega, by omega, ?_⟩
  rw [pu_eq, ps_nI_t (by omega)]
  omega
theorem ps_lock {N : Nat} {lk rf : cr_S} (h : ps_L N lk rf) (hN : N < 512) (mn : cr_S) (lt : Int64) (pl bd tr tb : cr_S) (lat : Int64) (ln : Nat → Int64) (c x : Int32) :
    (md_Main_lock mn lt pl bd lk tr tb c x).1 = (md_Ref_lock rf lat ln c x).1 ∧ ps_L (N + 1) (md_Main_lock mn lt pl bd lk tr tb c x).2 (md_Ref_lock rf lat ln c x).2 ∧ ps_LF rf (md_Ref_lock rf lat ln c x).2 := by
  have k0 : (0 : Int32).toInt = 0 := by decide
  have k1 : (1 : Int32).toInt = 1 := by decide
  have k3 : (3 : Int32).toInt = 3 := by decide
  have k8 : (8 : Int32).toInt = 8 := by decide
  have km : (-8 : Int32).toInt = -8 := by decide
  have n1 : ¬ (1 : Int32) = 0 := by decide
  have no : ∀ v : Int32, (v, lk).1 = (v, rf).1 ∧ ps_L (N + 1) (v, lk).2 (v, rf).2 ∧ ps_LF rf (v, rf).2 := fun v => ⟨rfl, ps_L_mono h, ps_LF_rf rf⟩
  unfold md_Main_lock md_Ref_lock md_Main_isCore
  by_cases c1 : c < 1
  · rw [if_pos c1, if_pos c1, if_pos rfl]; exact no _
  · rw [if_neg c1, if_neg c1]
    by_cases c3 : 3 < c
    · rw [if_pos c3, if_pos rfl, if_neg (show ¬ c ≤ 3 by rw [pu_le]; rw [pu_lt] at c3; omega)]; exact no _
    · rw [if_neg c3, if_neg n1, if_pos (show c ≤ 3 by rw [pu_le]; rw [pu_lt] at c3; omega)]
      rw [pu_lt] at c1 c3
      obtain ⟨k, hk1, hk3, rfl⟩ := ps_nat (x := c) (a := 1) (b := 3) (by omega) (by omega) (by omega)
      rw [ps_nI_c (k := k) (by omega)]
      by_cases x0 : x = 0
      · subst x0
        rw [if_pos rfl, if_neg (show ¬ (0 : Int32) < -8 by decide), if_neg (show ¬ (8 : Int32) < 0 by decide), if_pos rfl]; exact no _
      · rw [if_neg x0]
        by_cases xl : x < -8
        · rw [if_pos xl, if_pos xl]; exact no _
        · rw [if_neg xl, if_neg xl]
          by_cases xh : 8 < x
          · rw [if_neg (show ¬ x ≤ 8 by rw [pu_le]; rw [pu_lt] at xh; omega), if_pos xh]; exact no _
          · rw [if_pos (show x ≤ 8 by rw [pu_le]; rw [pu_lt] at xh; omega), if_neg xh, if_neg x0]
            rw [pu_lt] at xl xh
            rw [pu_eq] at x0
            unfold md_Locks_spins
            rw [ps_nI_c (k := k) (by omega)]
            have rg := h.1.2.2.2.1 k
            by_cases s : lk 2 k = 0
            · rw [if_pos s, if_pos rfl, if_pos (show rf 11 k ≤ 0 by rw [← h.1.2.1, s]; decide)]
              by_cases xn : x ≤ 0
              · rw [if_pos xn, if_pos xn]
                rw [pu_le] at xn
                have nx := cr_neg (x := x) (by omega)
                obtain ⟨n, g1, g8, gn⟩ := ps_nat (x := -x) (a := 1) (b := 8) (by omega) (by omega) (by omega)
                exact ps_rel h hN lat ln gn hk1 hk3 g1 g8 _ rfl
              · rw [if_neg xn, if_neg xn]
                rw [pu_le] at xn
                obtain ⟨n, g1, g8, rfl⟩ := ps_nat (x := x) (a := 1) (b := 8) (by omega) (by omega) (by omega)
                exact ps_acq h hN lat ln hk1 hk3 g1 g8 s
            · rw [if_neg s, if_neg n1, if_neg (show ¬ rf 11 k ≤ 0 by rw [← h.1.2.1, pu_le]; rw [pu_eq] at s; omega)]
              exact no _
end
section
/-! the plan: lengths and ceilings -/
def ps_us (pl : cr_S) (t r : Nat) : Prop := 0 < (pl (6 + t) r).toInt
/-- lengths of both sides -/
def ps_PL (pl : cr_S) (ln : Nat → Int64) : Prop := ∀ t r : Nat, t ≤ 10 → r ≤ 8 → ln (9 * t + r) = (pl (6 + t) r).toInt64 ∧ 0 ≤ (pl (6 + t) r).toInt ∧ (pl (6 + t) r).toInt ≤ 1000
theorem ps_ix9 {t r : Nat} (ht : t ≤ 10) (hr : r ≤ 8) : ((9 : Int32) * nI t + nI r).toNatClampNeg = 9 * t + r := by
  rw [show (9 : Int32) = nI 9 from rfl, pk_mul, nI_add, ps_nI_c (by omega)]
theorem ps_i64 (x : Int32) : x.toInt64.toInt = x.toInt := by simp
theorem ps_len {pl : cr_S} {ln : Nat → Int64} (h : ps_PL pl ln) {t r : Nat} (ht : t ≤ 10) (hr : r ≤ 8) : (lg_cmp (ln ((9 : Int32) * nI t + nI r).toNatClampNeg) 0 ≤ 0) ↔ ¬ ps_us pl t r := by
  rw [ps_ix9 ht hr, lg_cmp_le, (h t r ht hr).1, Int64.le_iff_toInt_le, ps_i64]
  unfold ps_us
  have : (0 : Int64).toInt = 0 := by decide
  omega
def ps_mx (pl : cr_S) (T r : Nat) (m : Int32) : Prop := 0 ≤ m.toInt ∧ (∀ t, 1 ≤ t → t < T → ps_us pl t r → (pl 1 t).toInt ≤ m.toInt) ∧ (m.toInt = 0 ∨ ∃ t, 1 ≤ t ∧ t < T ∧ ps_us pl t r ∧ pl 1 t = m)
theorem ps_mx_u {pl : cr_S} {T r : Nat} {m m' : Int32} (h : ps_mx pl T r m) (g : ps_mx pl T r m') : m = m' := by
  obtain ⟨h0, h1, h2⟩ := h
  obtain ⟨g0, g1, g2⟩ := g
  rw [pu_eq]
  have a : m.toInt ≤ m'.toInt := by
    rcases h2 with q | ⟨t, q1, q2, q3, q4⟩
    · omega
    · have := g1 t q1 q2 q3
      rw [q4] at this
      exact this
  have b : m'.toInt ≤ m.toInt := by
    rcases g2 with q | ⟨t, q1, q2, q3, q4⟩
    · omega
    · have := h1 t q1 q2 q3
      rw [q4] at this
      exact this
  omega
theorem ps_ceil0 {pl rf : cr_S} {ln : Nat → Int64} (lat : Int64) (hl : ps_PL pl ln) (e1 : pl 1 = rf 1) {T r : Nat} (hT : T ≤ 10) (e0 : rf 0 0 = nI T) (hr : r ≤ 8) : ∀ (d k : Nat) (m : Int32), 1 ≤ k → k ≤ T + 1 → 11 < d + k → ps_mx pl k r m → ps_mx pl (T + 1) r (lo_Ref_ceilingOf_4 rf lat ln (nI r) d m (nI k))
  | 0, k, m, _, h, h2, _ => absurd h2 (by omega)
  | d + 1, k, m, h1, hk, hd, hm => by
    have kt := ps_nI_t (k := k) (by omega)
    have Tt := ps_nI_t (k := T) (by omega)
    rw [lo_Ref_ceilingOf_4, e0]
    by_cases e : k = T + 1
    · subst e
      rw [if_pos (by rw [pu_lt]; omega)]
      exact hm
    · rw [if_neg (by rw [pu_lt]; omega), ps_nI_c (k := k) (by omega), show nI k + 1 = nI (k + 1) from nI_1 k, ← e1]
      have hk10 : k ≤ 10 := by clear hm; omega
      have hA : 1 ≤ k + 1 := by clear hm; omega
      have hB : k + 1 ≤ T + 1 := by clear hm; omega
      have hC : 11 < d + (k + 1) := by clear hm; omega
      obtain ⟨m0, m1, m2⟩ := hm
      have up : ∀ m' : Int32, 0 ≤ m'.toInt → (∀ t, 1 ≤ t → t < k → ps_us pl t r → (pl 1 t).toInt ≤ m'.toInt) → (ps_us pl k r → (pl 1 k).toInt ≤ m'.toInt) → (m'.toInt = 0 ∨ ∃ t, 1 ≤ t ∧ t < k + 1 ∧ ps_us pl t r ∧ pl 1 t = m') → ps_mx pl (T + 1) r (lo_Ref_ceilingOf_4 rf lat ln (nI r) d m' (nI (k + 1))) := fun m' q0 q1 q2 q3 =>
        ps_ceil0 lat hl e1 hT e0 hr d (k + 1) m' hA hB hC ⟨q0, fun t a b c => by
          rcases Nat.lt_or_ge t k with w | w
          · exact q1 t a w c
          · rw [show t = k by omega] at c ⊢; exact q2 c, q3⟩
      have old : m.toInt = 0 ∨ ∃ t, 1 ≤ t ∧ t < k + 1 ∧ ps_us pl t r ∧ pl 1 t = m := by
        rcases m2 with q | ⟨t, q1, q2, q3, q4⟩
        · exact Or.inl q
        · exact Or.inr ⟨t, q1, by omega, q3, q4⟩
      by_cases u : ps_us pl k r
      · rw [if_neg (fun q => ((ps_len hl hk10 hr).mp q) u)]
        by_cases g : pl 1 k ≤ m
        · rw [if_pos g]
          rw [pu_le] at g
          exact up m m0 m1 (fun _ => g) old
        · rw [if_neg g]
          rw [pu_le] at g
          exact up (pl 1 k) (by omega) (fun t a b c => by have := m1 t a b c; omega) (fun _ => Int.le_refl _) (Or.inr ⟨k, h1, by omega, u, rfl⟩)
      · rw [if_pos ((ps_len hl hk10 hr).mpr u)]
        exact up m m0 m1 (fun q => absurd q u) old
theorem ps_ceil {pl rf : cr_S} {ln : Nat → Int64} (lat : Int64) (hl : ps_PL pl ln) (e1 : pl 1 = rf 1) {T r : Nat} (hT : T ≤ 10) (e0 : rf 0 0 = nI T) (hr : r ≤ 8) : ps_mx pl (T + 1) r (md_Ref_ceilingOf rf lat ln (nI r)) :=
  ps_ceil0 lat hl e1 hT e0 hr 11 1 0 (by omega) (by omega) (by omega) ⟨by decide, fun t a b _ => absurd b (by omega), Or.inl (by decide)⟩
end
section
/-! the plan's relation; ceiling -/
def ps_PR (pl : cr_S) (T : Nat) : Prop := ∀ t : Nat, 1 ≤ t → t ≤ T → 1 ≤ (pl 1 t).toInt ∧ (pl 1 t).toInt ≤ 20 ∧ 1 ≤ (pl 2 t).toInt ∧ (pl 2 t).toInt ≤ 3
def ps_PU (pl : cr_S) (T R : Nat) : Prop := ∀ t r : Nat, t ≤ 10 → r ≤ 8 → ps_us pl t r → 1 ≤ t ∧ t ≤ T ∧ 1 ≤ r ∧ r ≤ R
def ps_PC (pl : cr_S) (T : Nat) : Prop := ∀ r : Nat, r ≤ 8 → ps_mx pl (T + 1) r (pl 3 r)
def ps_PO (pl : cr_S) : Prop := ∀ r : Nat, r ≤ 8 → (pl 4 r = 0 ∧ ∀ t, t ≤ 10 → ¬ ps_us pl t r) ∨ (pl 4 r ≠ 0 ∧ (∃ t, t ≤ 10 ∧ ps_us pl t r) ∧ ∀ t, t ≤ 10 → ps_us pl t r → pl 2 t = pl 4 r)
def ps_PN (pl rf : cr_S) (T R : Nat) : Prop := T ≤ 10 ∧ R ≤ 8 ∧ pl 0 0 = nI T ∧ rf 0 0 = nI T ∧ pl 0 1 = nI R ∧ rf 0 2 = nI R ∧ pl 1 = rf 1 ∧ pl 2 = rf 2 ∧ cr_rg pl 2 3
def ps_P (pl rf : cr_S) (ln : Nat → Int64) : Prop := ∃ T R : Nat, ps_PN pl rf T R ∧ ps_PL pl ln ∧ ps_PR pl T ∧ ps_PU pl T R ∧ ps_PC pl T ∧ ps_PO pl
theorem ps_ceilE {pl rf : cr_S} {ln : Nat → Int64} (h : ps_P pl rf ln) (lat : Int64) {r : Nat} (hr : r ≤ 8) : md_Ref_ceilingOf rf lat ln (nI r) = pl 3 r := by
  obtain ⟨T, R, ⟨a1, a2, a3, a4, a5, a6, a7, a8, a9⟩, b, c, d, e, f⟩ := h
  exact ps_mx_u (ps_ceil lat b a7 a1 a4 hr) (e r hr)
/-- a number asked for: it is none on both sides, or one of the tasks (resources) -/
theorem ps_hasT {pl rf : cr_S} {T R : Nat} (h : ps_PN pl rf T R) (lat : Int64) (ln : Nat → Int64) (x : Int32) : (md_Plan_hasTask pl x = 0 ∧ md_Ref_isTask rf lat ln x = 0) ∨ (md_Plan_hasTask pl x = 1 ∧ md_Ref_isTask rf lat ln x = 1 ∧ ∃ k, 1 ≤ k ∧ k ≤ T ∧ x = nI k) := by
  obtain ⟨a1, a2, a3, a4, a5, a6, a7, a8, a9⟩ := h
  have k1 : (1 : Int32).toInt = 1 := by decide
  have Tt := ps_nI_t (k := T) (by omega)
  unfold md_Plan_hasTask md_Ref_isTask
  rw [a3, a4]
  by_cases c1 : x < 1
  · rw [if_pos c1]; exact Or.inl ⟨rfl, rfl⟩
  · rw [if_neg c1]
    by_cases c2 : nI T < x
    · rw [if_pos c2]; exact Or.inl ⟨rfl, rfl⟩
    · rw [if_neg c2]
      rw [pu_lt] at c1 c2
      exact Or.inr ⟨rfl, rfl, ps_nat (by omega) (by omega) (by omega)⟩
theorem ps_hasR {pl rf : cr_S} {T R : Nat} (h : ps_PN pl rf T R) (lat : Int64) (ln : Nat → Int64) (x : Int32) : (md_Plan_hasResource pl x = 0 ∧ md_Ref_isResource rf lat ln x = 0) ∨ (md_Plan_hasResource pl x = 1 ∧ md_Ref_isResource rf lat ln x = 1 ∧ ∃ k, 1 ≤ k ∧ k ≤ R ∧ x = nI k) := by
  obtain ⟨a1, a2, a3, a4, a5, a6, a7, a8, a9⟩ := h
  have k1 : (1 : Int32).toInt = 1 := by decide
  have Rt := ps_nI_t (k := R) (by omega)
  unfold md_Plan_hasResource md_Ref_isResource
  rw [a5, a6]
  by_cases c1 : x < 1
  · rw [if_pos c1]; exact Or.inl ⟨rfl, rfl⟩
  · rw [if_neg c1]
    by_cases c2 : nI R < x
    · rw [if_pos c2]; exact Or.inl ⟨rfl, rfl⟩
    · rw [if_neg c2]
      rw [pu_lt] at c1 c2
      exact Or.inr ⟨rfl, rfl, ps_nat (by omega) (by omega) (by omega)⟩
theorem ps_ceiling {pl rf : cr_S} {ln : Nat → Int64} (h : ps_P pl rf ln) (mn : cr_S) (lt : Int64) (bd lk tr tb : cr_S) (lat : Int64) (x : Int32) : md_Main_ceiling mn lt pl bd lk tr tb x = md_Ref_ceiling rf lat ln x := by
  have n1 : ¬ (1 : Int32) = 0 := by decide
  obtain ⟨T, R, hN, hrest⟩ := id h
  unfold md_Main_ceiling md_Ref_ceiling
  rcases ps_hasR hN lat ln x with ⟨q1, q2⟩ | ⟨q1, q2, k, g1, g2, rfl⟩
  · rw [q1, q2, if_pos rfl, if_pos rfl]
  · have k8 : k ≤ 8 := Nat.le_trans g2 hN.2.1
    rw [q1, q2, if_neg n1, if_neg n1, ps_nI_c (by omega), ps_ceilE h lat k8]
theorem ps_holder {pl bd rf : cr_S} {ln : Nat → Int64} (h : ps_P pl rf ln) (hb : bd 4 = rf 7) (mn : cr_S) (lt : Int64) (lk tr tb : cr_S) (lat : Int64) (x : Int32) : md_Main_holder mn lt pl bd lk tr tb x = md_Ref_holder rf lat ln x := by
  have n1 : ¬ (1 : Int32) = 0 := by decide
  obtain ⟨T, R, hN, hrest⟩ := h
  unfold md_Main_holder md_Ref_holder
  rw [hb]
  rcases ps_hasR hN lat ln x with ⟨q1, q2⟩ | ⟨q1, q2, -⟩
  · rw [q1, q2]
  · rw [q1, q2]
end
section
/-! a task's rank now -/
theorem ps_rankL {pl bd rf : cr_S} {ln : Nat → Int64} (h : ps_P pl rf ln) (hb : bd 4 = rf 7) (lat : Int64) {R : Nat} (hR : R ≤ 8) (e1 : pl 0 1 = nI R) (e2 : rf 0 2 = nI R) (x : Int32) : ∀ (d k : Nat) (v : Int32), 1 ≤ k → k ≤ R + 1 → 9 < d + k → lo_Board_rankNow_12 pl bd x d v (nI k) = lo_Ref_rankNow_9 rf lat ln x d v (nI k)
  | 0, k, v, _, a, b => absurd b (by omega)
  | d + 1, k, v, h1, hk, hd => by
    have kt := ps_nI_t (k := k) (by omega)
    have Rt := ps_nI_t (k := R) (by omega)
    rw [lo_Board_rankNow_12, lo_Ref_rankNow_9, e1, e2]
    by_cases e : k = R + 1
    · subst e
      rw [if_pos (by rw [pu_lt]; omega), if_pos (by rw [pu_lt]; omega)]
    · have hk8 : k ≤ 8 := by omega
      have nlt : ¬ nI R < nI k := by rw [pu_lt]; omega
      rw [if_neg nlt, if_neg nlt, ps_nI_c (k := k) (by omega), show nI k + 1 = nI (k + 1) from nI_1 k, hb, ps_ceilE h lat hk8]
      have ih := fun v' => ps_rankL h hb lat hR e1 e2 x d (k + 1) v' (by omega) (by omega) (by omega)
      by_cases u : rf 7 k = x
      · rw [if_pos u, if_pos u]
        by_cases g : pl 3 k ≤ v
        · rw [if_pos g, ← ih]
          unfold cr_max
          rw [if_neg (by rw [pu_lt]; rw [pu_le] at g; omega)]
        · rw [if_neg g, ← ih]
          unfold cr_max
          rw [if_pos (by rw [pu_lt]; rw [pu_le] at g; omega)]
      · rw [if_neg u, if_neg u, ih]
theorem ps_rankNow {pl bd rf : cr_S} {ln : Nat → Int64} (h : ps_P pl rf ln) (hb : bd 4 = rf 7) (lat : Int64) (x : Int32) : md_Board_rankNow pl bd x = md_Ref_rankNow rf lat ln x := by
  obtain ⟨T, R, hN, hrest⟩ := id h
  unfold md_Board_rankNow md_Ref_rankNow
  rw [hN.2.2.2.2.2.2.1]
  exact ps_rankL h hb lat hN.2.1 hN.2.2.2.2.1 hN.2.2.2.2.2.1 x 9 1 _ (by omega) (by omega) (by omega)
theorem ps_rank {pl bd rf : cr_S} {ln : Nat → Int64} (h : ps_P pl rf ln) (hb : bd 4 = rf 7) (mn : cr_S) (lt : Int64) (lk tr tb : cr_S) (lat : Int64) (x : Int32) : md_Main_rank mn lt pl bd lk tr tb x = md_Ref_rank rf lat ln x := by
  have n1 : ¬ (1 : Int32) = 0 := by decide
  obtain ⟨T, R, hN, hrest⟩ := id h
  unfold md_Main_rank md_Ref_rank
  rw [ps_rankNow h hb lat x]
  rcases ps_hasT hN lat ln x with ⟨q1, q2⟩ | ⟨q1, q2, -⟩
  · rw [q1, q2]
  · rw [q1, q2]
end
section
/-! who may keep a task waiting -/
def ps_bel (pl : cr_S) (l t : Nat) : Prop := pl 2 l = pl 2 t ∧ (pl 1 l).toInt < (pl 1 t).toInt
theorem ps_belM (pl : cr_S) {l t : Nat} (hl : l ≤ 10) (ht : t ≤ 10) : (ps_bel pl l t → md_Plan_isBelow pl (nI l) (nI t) = 1) ∧ (¬ ps_bel pl l t → md_Plan_isBelow pl (nI l) (nI t) = 0) := by
  unfold md_Plan_isBelow ps_bel
  rw [ps_nI_c (k := l) (by omega), ps_nI_c (k := t) (by omega)]
  by_cases e : pl 2 l = pl 2 t
  · rw [if_pos e]
    by_cases g : pl 1 t ≤ pl 1 l
    · rw [if_pos g]
      rw [pu_le] at g
      exact ⟨fun q => absurd q.2 (by omega), fun _ => rfl⟩
    · rw [if_neg g]
      rw [pu_le] at g
      exact ⟨fun _ => rfl, fun q => absurd ⟨e, by omega⟩ q⟩
  · rw [if_neg e]
    exact ⟨fun q => absurd q.1 e, fun _ => rfl⟩
def ps_mk (pl : cr_S) (l t r : Nat) : Prop := ps_bel pl l t ∧ ps_us pl l r ∧ (pl 1 t).toInt ≤ (pl 3 r).toInt
theorem ps_mkR {pl rf : cr_S} {ln : Nat → Int64} (h : ps_P pl rf ln) (lat : Int64) {l t r : Nat} (hl : l ≤ 10) (ht : t ≤ 10) (hr : r ≤ 8) : (ps_mk pl l t r → md_Ref_mayKeep rf lat ln (nI l) (nI t) (nI r) = 1) ∧ (¬ ps_mk pl l t r → md_Ref_mayKeep rf lat ln (nI l) (nI t) (nI r) = 0) := by
  obtain ⟨T, R, ⟨a1, a2, a3, a4, a5, a6, a7, a8, a9⟩, b, -⟩ := id h
  unfold md_Ref_mayKeep ps_mk ps_bel
  rw [ps_nI_c (k := l) (by omega), ps_nI_c (k := t) (by omega), ← a7, ← a8, ps_ceilE h lat hr]
  by_cases e : pl 2 l = pl 2 t
  · rw [if_pos e]
    by_cases g : pl 1 t ≤ pl 1 l
    · rw [if_pos g]
      rw [pu_le] at g
      exact ⟨fun q => absurd q.1.2 (by omega), fun _ => rfl⟩
    · rw [if_neg g]
      rw [pu_le] at g
      by_cases u : ps_us pl l r
      · rw [if_neg (fun q => ((ps_len b hl hr).mp q) u)]
        by_cases w : pl 3 r < pl 1 t
        · rw [if_pos w]
          rw [pu_lt] at w
          exact ⟨fun q => absurd q.2.2 (by omega), fun _ => rfl⟩
        · rw [if_neg w]
          rw [pu_lt] at w
          exact ⟨fun _ => rfl, fun q => absurd ⟨⟨e, by omega⟩, u, by omega⟩ q⟩
      · rw [if_pos ((ps_len b hl hr).mpr u)]
        exact ⟨fun q => absurd q.2.1 u, fun _ => rfl⟩
  · rw [if_neg e]
    exact ⟨fun q => absurd q.1.1 e, fun _ => rfl⟩
theorem ps_b29 {pl rf : cr_S} {ln : Nat → Int64} (h : ps_P pl rf ln) (lat : Int64) {l t R : Nat} (hl : l ≤ 10) (ht : t ≤ 10) (hR : R ≤ 8) (e1 : pl 0 1 = nI R) (e2 : rf 0 2 = nI R) (hb : ps_bel pl l t) (v : Int32) : ∀ (d k : Nat) (w : Int32) (V : Int64), 1 ≤ k → k ≤ R + 1 → 9 < d + k → 0 ≤ w.toInt → V.toInt = max v.toInt w.toInt → (lo_Ref_blocking_29 rf lat ln (nI t) (nI l) d V (nI k)).toInt = max v.toInt (lo_Plan_longestDelay_16 pl (nI t) (nI l) d w (nI k)).toInt ∧ 0 ≤ (lo_Plan_longestDelay_16 pl (nI t) (nI l) d w (nI k)).toInt
  | 0, k, w, V, _, a, b, _, _ => absurd b (by omega)
  | d + 1, k, w, V, h1, hk, hd, hw, hV => by
    have kt := ps_nI_t (k := k) (by omega)
    have Rt := ps_nI_t (k := R) (by omega)
    rw [lo_Ref_blocking_29, lo_Plan_longestDelay_16, e1, e2]
    by_cases e : k = R + 1
    · subst e
      have lt : nI R < nI (R + 1) := by rw [pu_lt]; omega
      rw [if_pos lt, if_pos lt]
      exact ⟨hV, hw⟩
    · have hk8 : k ≤ 8 := by omega
      have nlt : ¬ nI R < nI k := by rw [pu_lt]; omega
      obtain ⟨T, R', hN, b, -⟩ := id h
      have len := b l k hl hk8
      have lt := ps_i64 (pl (6 + l) k)
      rw [← len.1] at lt
      rw [if_neg nlt, if_neg nlt, ps_ix9 hl hk8, ps_nI_c (k := k) (by omega), ps_nI_c (k := t) (by omega), ps_nI_c (k := l) (by omega), show nI k + 1 = nI (k + 1) from nI_1 k]
      have ih := fun w' V' => ps_b29 h lat hl ht hR e1 e2 hb v d (k + 1) w' V' (by omega) (by omega) (by omega)
      have mt := cr_max_t w (pl (6 + l) k)
      by_cases m : ps_mk pl l t k
      · rw [(ps_mkR h lat hl ht hk8).1 m, if_neg (by decide), if_neg (show ¬ pl 3 k < pl 1 t by rw [pu_lt]; have := m.2.2; omega)]
        by_cases c : lg_cmp (ln (9 * l + k)) V ≤ 0
        · rw [if_pos c]
          rw [lg_cmp_le, Int64.le_iff_toInt_le] at c
          exact ih _ _ (by omega) (by omega)
        · rw [if_neg c]
          rw [lg_cmp_le, Int64.le_iff_toInt_le] at c
          exact ih _ _ (by omega) (by omega)
      · rw [(ps_mkR h lat hl ht hk8).2 m, if_pos rfl]
        by_cases c : pl 3 k < pl 1 t
        · rw [if_pos c]
          exact ih _ _ hw hV
        · rw [if_neg c]
          rw [pu_lt] at c
          have nu : ¬ ps_us pl l k := fun u => m ⟨hb, u, by omega⟩
          unfold ps_us at nu
          exact ih _ _ (by omega) (by omega)
end
section
/-! blocking -/
theorem ps_b29n {pl rf : cr_S} {ln : Nat → Int64} (h : ps_P pl rf ln) (lat : Int64) {l t R : Nat} (hl : l ≤ 10) (ht : t ≤ 10) (hR : R ≤ 8) (e2 : rf 0 2 = nI R) (hb : ¬ ps_bel pl l t) (V : Int64) : ∀ (d k : Nat), 1 ≤ k → k ≤ R + 1 → 9 < d + k → lo_Ref_blocking_29 rf lat ln (nI t) (nI l) d V (nI k) = V
  | 0, k, _, a, b => absurd b (by omega)
  | d + 1, k, h1, hk, hd => by
    have kt := ps_nI_t (k := k) (by omega)
    have Rt := ps_nI_t (k := R) (by omega)
    rw [lo_Ref_blocking_29, e2]
    by_cases e : k = R + 1
    · subst e
      rw [if_pos (show nI R < nI (R + 1) by rw [pu_lt]; omega)]
    · have hk8 : k ≤ 8 := by omega
      rw [if_neg (show ¬ nI R < nI k by rw [pu_lt]; omega), (ps_mkR h lat hl ht hk8).2 (fun q => hb q.1), if_pos rfl, show nI k + 1 = nI (k + 1) from nI_1 k]
      exact ps_b29n h lat hl ht hR e2 hb V d (k + 1) (by omega) (by omega) (by omega)
theorem ps_ld {pl rf : cr_S} {ln : Nat → Int64} (h : ps_P pl rf ln) (lat : Int64) {l t : Nat} (hl : l ≤ 10) (ht : t ≤ 10) (v : Int32) (V : Int64) (hv : 0 ≤ v.toInt) (hV : V.toInt = v.toInt) : (lo_Ref_blocking_29 rf lat ln (nI t) (nI l) 9 V 1).toInt = (cr_max v (md_Plan_longestDelay pl (nI t) (nI l))).toInt ∧ 0 ≤ (cr_max v (md_Plan_longestDelay pl (nI t) (nI l))).toInt := by
  have k0 : (0 : Int32).toInt = 0 := by decide
  obtain ⟨T, R, hN, -⟩ := id h
  obtain ⟨a1, a2, a3, a4, a5, a6, a7, a8, a9⟩ := hN
  have mt := cr_max_t v (md_Plan_longestDelay pl (nI t) (nI l))
  have ml := ps_belM pl hl ht
  rw [show (1 : Int32) = nI 1 from rfl]
  by_cases b : ps_bel pl l t
  · have q := ps_b29 h lat hl ht a2 a5 a6 b v 9 1 0 V (by omega) (by omega) (by omega) (by omega) (by omega)
    have e : md_Plan_longestDelay pl (nI t) (nI l) = lo_Plan_longestDelay_16 pl (nI t) (nI l) 9 0 (nI 1) := by
      unfold md_Plan_longestDelay
      rw [ml.1 b, if_neg (by decide)]
      rfl
    rw [e] at mt ⊢
    omega
  · have q := ps_b29n h lat hl ht a2 a6 b V 9 1 (by omega) (by omega) (by omega)
    have e : md_Plan_longestDelay pl (nI t) (nI l) = 0 := by
      unfold md_Plan_longestDelay
      rw [ml.2 b, if_pos rfl]
    rw [e] at mt ⊢
    rw [q]
    omega
theorem ps_b17 {pl rf : cr_S} {ln : Nat → Int64} (h : ps_P pl rf ln) (mn : cr_S) (lt : Int64) (bd lk tr tb : cr_S) (lat : Int64) {t T : Nat} (ht : t ≤ 10) (hT : T ≤ 10) (e1 : pl 0 0 = nI T) (e2 : rf 0 0 = nI T) : ∀ (d k : Nat) (v : Int32) (V : Int64), 1 ≤ k → k ≤ T + 1 → 11 < d + k → 0 ≤ v.toInt → V.toInt = v.toInt → lo_Main_blocking_19 mn lt pl bd lk tr tb (nI t) d v (nI k) = lo_Ref_blocking_17 rf lat ln (nI t) d V (nI k)
  | 0, k, v, V, _, a, b, _, _ => absurd b (by omega)
  | d + 1, k, v, V, h1, hk, hd, hv, hV => by
    have kt := ps_nI_t (k := k) (by omega)
    have Tt := ps_nI_t (k := T) (by omega)
    rw [lo_Main_blocking_19, lo_Ref_blocking_17, e1, e2]
    by_cases e : k = T + 1
    · subst e
      have lt : nI T < nI (T + 1) := by rw [pu_lt]; omega
      rw [if_pos lt, if_pos lt]
      exact Int64.toInt_inj.mp (by rw [ps_i64]; exact hV.symm)
    · have nlt : ¬ nI T < nI k := by rw [pu_lt]; omega
      have q := ps_ld h lat (l := k) (t := t) (by omega) ht v V hv hV
      rw [if_neg nlt, if_neg nlt, show nI k + 1 = nI (k + 1) from nI_1 k]
      exact ps_b17 h mn lt bd lk tr tb lat ht hT e1 e2 d (k + 1) _ _ (by omega) (by omega) (by omega) q.2 q.1
theorem ps_blocking {pl rf : cr_S} {ln : Nat → Int64} (h : ps_P pl rf ln) (mn : cr_S) (lt : Int64) (bd lk tr tb : cr_S) (lat : Int64) (x : Int32) : md_Main_blocking mn lt pl bd lk tr tb x = md_Ref_blocking rf lat ln x := by
  have n1 : ¬ (1 : Int32) = 0 := by decide
  obtain ⟨T, R, hN, -⟩ := id h
  unfold md_Main_blocking md_Ref_blocking
  rcases ps_hasT hN lat ln x with ⟨q1, q2⟩ | ⟨q1, q2, k, g1, g2, rfl⟩
  · rw [q1, q2, if_pos rfl, if_pos rfl]
  · rw [q1, q2, if_neg n1, if_neg n1]
    obtain ⟨a1, a2, a3, a4, a5, a6, a7, a8, a9⟩ := hN
    exact ps_b17 h mn lt bd lk tr tb lat (by omega) a1 a3 a4 11 1 0 0 (by omega) (by omega) (by omega) (by decide) (by decide)
end
section
/-! lower -/
theorem ps_l34o {pl rf : cr_S} {ln : Nat → Int64} (h : ps_P pl rf ln) (lat : Int64) {l t R : Nat} (x2 w3 : Int32) (hl : l ≤ 10) (ht : t ≤ 10) (hR : R ≤ 8) (e2 : rf 0 2 = nI R) : ∀ (d k : Nat), 1 ≤ k → k ≤ R + 1 → 9 < d + k → lo_Ref_lower_34 rf lat ln (nI t) x2 w3 (nI l) d 1 (nI k) = 1 ∧ ((∃ r, k ≤ r ∧ r ≤ R ∧ ps_mk pl l t r) → lo_Ref_lower_34 rf lat ln (nI t) x2 w3 (nI l) d 0 (nI k) = 1) ∧ ((∀ r, k ≤ r → r ≤ R → ¬ ps_mk pl l t r) → lo_Ref_lower_34 rf lat ln (nI t) x2 w3 (nI l) d 0 (nI k) = 0)
  | 0, k, _, a, b => absurd b (by omega)
  | d + 1, k, h1, hk, hd => by
    have kt := ps_nI_t (k := k) (by omega)
    have Rt := ps_nI_t (k := R) (by omega)
    have n1 : ¬ (1 : Int32) = 0 := by decide
    rw [lo_Ref_lower_34, lo_Ref_lower_34, e2]
    by_cases e : k = R + 1
    · subst e
      have lt : nI R < nI (R + 1) := by rw [pu_lt]; omega
      rw [if_pos lt, if_pos lt]
      exact ⟨rfl, fun ⟨r, a, b, _⟩ => absurd b (by omega), fun _ => rfl⟩
    · have hk8 : k ≤ 8 := by omega
      have nlt : ¬ nI R < nI k := by rw [pu_lt]; omega
      have ih := ps_l34o h lat x2 w3 hl ht hR e2 d (k + 1) (by omega) (by omega) (by omega)
      rw [if_neg nlt, if_neg nlt, if_neg n1, if_pos rfl, show nI k + 1 = nI (k + 1) from nI_1 k]
      refine ⟨ih.1, ?_⟩
      by_cases m : ps_mk pl l t k
      · rw [(ps_mkR h lat hl ht hk8).1 m, if_neg n1]
        exact ⟨fun _ => ih.1, fun q => absurd m (q k (Nat.le_refl k) (by omega))⟩
      · rw [(ps_mkR h lat hl ht hk8).2 m, if_pos rfl]
        refine ⟨fun ⟨r, a, b, g⟩ => ih.2.1 ⟨r, ?_, b, g⟩, fun q => ih.2.2 (fun r a b => q r (by omega) b)⟩
        rcases Nat.lt_or_ge k r with w | w
        · exact w
        · exact absurd (show ps_mk pl l t k by rw [show k = r by omega]; exact g) m
theorem ps_l16 {pl rf : cr_S} {ln : Nat → Int64} (h : ps_P pl rf ln) {l t R : Nat} (hl : l ≤ 10) (ht : t ≤ 10) (hR : R ≤ 8) (e1 : pl 0 1 = nI R) (hb : ps_bel pl l t) : ∀ (d k : Nat) (w : Int32), 1 ≤ k → k ≤ R + 1 → 9 < d + k → 0 ≤ w.toInt → (0 < w.toInt ∨ (∃ r, k ≤ r ∧ r ≤ R ∧ ps_mk pl l t r) → 0 < (lo_Plan_longestDelay_16 pl (nI t) (nI l) d w (nI k)).toInt) ∧ (w.toInt = 0 → (∀ r, k ≤ r → r ≤ R → ¬ ps_mk pl l t r) → (lo_Plan_longestDelay_16 pl (nI t) (nI l) d w (nI k)).toInt = 0)
  | 0, k, w, _, a, b, _ => absurd b (by omega)
  | d + 1, k, w, h1, hk, hd, hw => by
    have kt := ps_nI_t (k := k) (by omega)
    have Rt := ps_nI_t (k := R) (by omega)
    rw [lo_Plan_longestDelay_16, e1]
    by_cases e : k = R + 1
    · subst e
      rw [if_pos (show nI R < nI (R + 1) by rw [pu_lt]; omega)]
      exact ⟨fun q => q.elim id (fun ⟨r, a, b, _⟩ => absurd b (by omega)), fun q _ => q⟩
    · have hk8 : k ≤ 8 := by omega
      obtain ⟨T, R', hN, b, -⟩ := id h
      have len := b l k hl hk8
      have A : 1 ≤ k + 1 := by omega
      have B : k + 1 ≤ R + 1 := by omega
      have C : 9 < d + (k + 1) := by omega
      have hkR : k ≤ R := by omega
      rw [if_neg (show ¬ nI R < nI k by rw [pu_lt]; omega), ps_nI_c (k := k) (by omega), ps_nI_c (k := t) (by omega), ps_nI_c (k := l) (by omega), show nI k + 1 = nI (k + 1) from nI_1 k]
      have ih := fun w' (g : 0 ≤ w'.toInt) => ps_l16 h hl ht hR e1 hb d (k + 1) w' A B C g
      have mt := cr_max_t w (pl (6 + l) k)
      by_cases c : pl 3 k < pl 1 t
      · rw [if_pos c]
        rw [pu_lt] at c
        have m : ¬ ps_mk pl l t k := fun q => absurd q.2.2 (by omega)
        refine ⟨fun q => (ih w hw).1 (q.elim Or.inl (fun ⟨r, a, b2, g⟩ => Or.inr ⟨r, ?_, b2, g⟩)), fun q z => (ih w hw).2 q (fun r a b2 => z r (by omega) b2)⟩
        rcases Nat.lt_or_ge k r with w9 | w9
        · exact w9
        · exact absurd (show ps_mk pl l t k by rw [show k = r by omega]; exact g) m
      · rw [if_neg c]
        rw [pu_lt] at c
        have c0 : 0 ≤ (cr_max w (pl (6 + l) k)).toInt := by omega
        by_cases m : ps_mk pl l t k
        · have u := m.2.1
          unfold ps_us at u
          have c1 : 0 < (cr_max w (pl (6 + l) k)).toInt := by omega
          exact ⟨fun _ => (ih _ c0).1 (Or.inl c1), fun _ z => absurd m (z k (Nat.le_refl k) hkR)⟩
        · have nu : ¬ ps_us pl l k := fun u => m ⟨hb, u, by omega⟩
          unfold ps_us at nu
          have c2 : (cr_max w (pl (6 + l) k)).toInt = w.toInt := by omega
          refine ⟨fun q => (ih _ c0).1 (q.elim (fun z => Or.inl (by rw [c2]; exact z)) (fun ⟨r, a, b2, g⟩ => Or.inr ⟨r, ?_, b2, g⟩)), fun q z => (ih _ c0).2 (by rw [c2]; exact q) (fun r a b2 => z r (by omega) b2)⟩
          rcases Nat.lt_or_ge k r with w9 | w9
          · exact w9
          · exact absurd (show ps_mk pl l t k by rw [show k = r by omega]; exact g) m
end
section
theorem ps_some {pl rf : cr_S} {ln : Nat → Int64} (h : ps_P pl rf ln) (lat : Int64) {l t : Nat} (x2 w3 : Int32) (hl : l ≤ 10) (ht : t ≤ 10) : (md_Plan_longestDelay pl (nI t) (nI l) ≤ 0 ∧ lo_Ref_lower_34 rf lat ln (nI t) x2 w3 (nI l) 9 0 1 = 0) ∨ (¬ md_Plan_longestDelay pl (nI t) (nI l) ≤ 0 ∧ lo_Ref_lower_34 rf lat ln (nI t) x2 w3 (nI l) 9 0 1 = 1) := by
  have k0 : (0 : Int32).toInt = 0 := by decide
  obtain ⟨T, R, hN, -⟩ := id h
  obtain ⟨a1, a2, a3, a4, a5, a6, a7, a8, a9⟩ := hN
  have o := ps_l34o h lat x2 w3 hl ht a2 a6 9 1 (by omega) (by omega) (by omega)
  have ml := ps_belM pl hl ht
  have o1 : (∃ r, 1 ≤ r ∧ r ≤ R ∧ ps_mk pl l t r) → lo_Ref_lower_34 rf lat ln (nI t) x2 w3 (nI l) 9 0 1 = 1 := o.2.1
  have o2 : (∀ r, 1 ≤ r → r ≤ R → ¬ ps_mk pl l t r) → lo_Ref_lower_34 rf lat ln (nI t) x2 w3 (nI l) 9 0 1 = 0 := o.2.2
  clear o
  unfold md_Plan_longestDelay
  by_cases b : ps_bel pl l t
  · have q := ps_l16 h hl ht a2 a5 b 9 1 0 (by omega) (by omega) (by omega) (by omega)
    rw [ml.1 b, if_neg (by decide)]
    by_cases ex : ∃ r, 1 ≤ r ∧ r ≤ R ∧ ps_mk pl l t r
    · refine Or.inr ⟨?_, o1 ex⟩
      have z := q.1 (Or.inr ex)
      rw [pu_le]
      show ¬ (lo_Plan_longestDelay_16 pl (nI t) (nI l) 9 0 (nI 1)).toInt ≤ _
      clear ex
      omega
    · have no : ∀ r, 1 ≤ r → r ≤ R → ¬ ps_mk pl l t r := fun r a b2 g => ex ⟨r, a, b2, g⟩
      refine Or.inl ⟨?_, o2 no⟩
      have z := q.2 k0 no
      rw [pu_le]
      show (lo_Plan_longestDelay_16 pl (nI t) (nI l) 9 0 (nI 1)).toInt ≤ _
      clear ex
      omega
  · rw [ml.2 b, if_pos rfl]
    exact Or.inl ⟨by decide, o2 (fun r _ _ g => b g.1)⟩
theorem ps_lowN {pl rf : cr_S} {ln : Nat → Int64} (h : ps_P pl rf ln) (mn : cr_S) (lt : Int64) (bd lk tr tb : cr_S) {t T : Nat} (ht : t ≤ 10) (hT : T ≤ 10) (e1 : pl 0 0 = nI T) (x2 : Int32) (hx : x2.toInt < 0) : ∀ (d k : Nat) (f : Int32), 1 ≤ k → k ≤ T + 1 → 11 < d + k → 0 ≤ f.toInt → f.toInt ≤ k → lo_Main_lower_18 mn lt pl bd lk tr tb (nI t) x2 d f (nI k) = 0
  | 0, k, f, _, a, b, _, _ => absurd b (by omega)
  | d + 1, k, f, h1, hk, hd, hf, hf2 => by
    have kt := ps_nI_t (k := k) (by omega)
    have Tt := ps_nI_t (k := T) (by omega)
    have k1 : (1 : Int32).toInt = 1 := by decide
    have fa := cr_add (x := f) (y := 1) (by omega)
    rw [lo_Main_lower_18, e1]
    by_cases e : k = T + 1
    · subst e
      rw [if_pos (show nI T < nI (T + 1) by rw [pu_lt]; omega)]
    · rw [if_neg (show ¬ nI T < nI k by rw [pu_lt]; omega), show nI k + 1 = nI (k + 1) from nI_1 k]
      by_cases c : md_Plan_longestDelay pl (nI t) (nI k) ≤ 0
      · rw [if_pos c]
        exact ps_lowN h mn lt bd lk tr tb ht hT e1 x2 hx d (k + 1) f (by omega) (by omega) (by omega) hf (by omega)
      · rw [if_neg c, if_neg (by rw [pu_eq]; omega)]
        exact ps_lowN h mn lt bd lk tr tb ht hT e1 x2 hx d (k + 1) (f + 1) (by omega) (by omega) (by omega) (by omega) (by omega)
end
section
/-! lower: the loops of both sides agree for an index of 0 or more -/
theorem ps_lowP {pl rf : cr_S} {ln : Nat → Int64} (h : ps_P pl rf ln) (mn : cr_S) (lt : Int64) (bd lk tr tb : cr_S) (lat : Int64) {t T : Nat} (ht : t ≤ 10) (hT : T ≤ 10) (e1 : pl 0 0 = nI T) (e2 : rf 0 0 = nI T) (x2 : Int32) (hx : ¬ x2 < 0) : ∀ (d k : Nat) (f g : Int32), 1 ≤ k → k ≤ T + 1 → 11 < d + k → 0 ≤ f.toInt → f.toInt ≤ k → g.toInt = x2.toInt - f.toInt → 0 ≤ g.toInt → lo_Main_lower_18 mn lt pl bd lk tr tb (nI t) x2 d f (nI k) = lo_Ref_lower_15 rf lat ln (nI t) x2 d g (nI k) := by
  intro d
  induction d with
  | zero => exact fun k f g _ a b => absurd b (by omega)
  | succ d ih =>
    intro k f g h1 hk hd hf hf2 hg hg0
    have kt := ps_nI_t (k := k) (by omega)
    have Tt := ps_nI_t (k := T) (by omega)
    have k0 : (0 : Int32).toInt = 0 := by decide
    have k1 : (1 : Int32).toInt = 1 := by decide
    have km : (-1 : Int32).toInt = -1 := by decide
    have n1 : ¬ (1 : Int32) = 0 := by decide
    have gl : g.toInt < 2147483648 := Int32.toInt_lt g
    have fa : (f + 1).toInt = f.toInt + 1 := cr_add (x := f) (y := 1) (by omega)
    have ga : (g + -1).toInt = g.toInt + -1 := cr_add (x := g) (y := -1) (by omega)
    rw [lo_Main_lower_18, lo_Ref_lower_15, e1, e2]
    by_cases e : k = T + 1
    · subst e
      have lt : nI T < nI (T + 1) := by rw [pu_lt]; omega
      rw [if_pos lt, if_pos lt]
    · have nlt : ¬ nI T < nI k := by rw [pu_lt]; omega
      rw [if_neg nlt, if_neg nlt, if_neg hx, show nI k + 1 = nI (k + 1) from nI_1 k]
      have hk10 : k ≤ 10 := by omega
      have a1 : 1 ≤ k + 1 := by omega
      have a2 : k + 1 ≤ T + 1 := by omega
      have a3 : 11 < d + (k + 1) := by omega
      have a4 : f.toInt ≤ ((k + 1 : Nat) : Int) := by omega
      have a5 : 0 ≤ (f + 1).toInt := by omega
      have a6 : (f + 1).toInt ≤ ((k + 1 : Nat) : Int) := by omega
      have a7 : (g + -1).toInt = x2.toInt - (f + 1).toInt := by rw [ga, fa, hg, Int.sub_eq_add_neg, Int.sub_eq_add_neg, Int.neg_add, Int.add_assoc]
      rcases ps_some h lat x2 g (l := k) (t := t) hk10 ht with ⟨q1, q2⟩ | ⟨q1, q2⟩
      · rw [if_pos q1, q2, if_pos rfl]
        exact ih (k + 1) f g a1 a2 a3 hf a4 hg hg0
      · rw [if_neg q1, q2, if_neg n1]
        by_cases c : f = x2
        · have z : g = 0 := by
            rw [pu_eq, k0, hg, c]
            exact Int.sub_self _
          rw [if_pos c, if_pos z]
        · have c' : f.toInt ≠ x2.toInt := fun q => c (pu_eq.mpr q)
          have z : ¬ g = 0 := fun q => by
            rw [q, k0] at hg
            clear gl fa ga a7 a6 a5 a4 kt Tt
            omega
          have a8 : 0 ≤ (g + -1).toInt := by
            rw [ga]
            clear gl fa ga a7 a6 a5 a4 kt Tt
            omega
          rw [if_neg c, if_neg z]
          exact ih (k + 1) (f + 1) (g + -1) a1 a2 a3 a5 a6 a7 a8
theorem ps_lower {pl rf : cr_S} {ln : Nat → Int64} (h : ps_P pl rf ln) (mn : cr_S) (lt : Int64) (bd lk tr tb : cr_S) (lat : Int64) (x i : Int32) : md_Main_lower mn lt pl bd lk tr tb x i = md_Ref_lower rf lat ln x i := by
  have n1 : ¬ (1 : Int32) = 0 := by decide
  have k0 : (0 : Int32).toInt = 0 := by decide
  obtain ⟨T, R, hN, -⟩ := id h
  unfold md_Main_lower md_Ref_lower
  rcases ps_hasT hN lat ln x with ⟨q1, q2⟩ | ⟨q1, q2, k, g1, g2, rfl⟩
  · rw [q1, q2, if_pos rfl, if_pos rfl]
  · rw [q1, q2, if_neg n1, if_neg n1]
    obtain ⟨a1, a2, a3, a4, a5, a6, a7, a8, a9⟩ := hN
    by_cases c : i < 0
    · have c' : i.toInt < 0 := by rw [pu_lt] at c; omega
      have := ps_lowN h mn lt bd lk tr tb (t := k) (T := T) (by omega) a1 a3 i c' 11 1 0 (by omega) (by omega) (by omega) (by omega) (by omega)
      rw [show (1 : Int32) = nI 1 from rfl, this, lo_Ref_lower_15]
      by_cases z : rf 0 0 < nI 1
      · rw [if_pos z]
      · rw [if_neg z, if_pos c]
    · have c' : 0 ≤ i.toInt := by rw [pu_lt] at c; omega
      exact ps_lowP h mn lt bd lk tr tb lat (t := k) (T := T) (by omega) a1 a3 a4 i c 11 1 0 i (by omega) (by omega) (by omega) (by omega) (by omega) (by omega) c'
end
section
/-! the board: a task's rank now as a number, and the first of a set of ready tasks -/
def ps_rn (pl : cr_S) (f : Nat → Int32) (t : Nat) : Nat → Int
  | 0 => (pl 1 t).toInt
  | r + 1 => if f (r + 1) = nI t ∧ ps_rn pl f t r < (pl 3 (r + 1)).toInt then (pl 3 (r + 1)).toInt else ps_rn pl f t r
theorem ps_rn_ge (pl : cr_S) (f : Nat → Int32) (t : Nat) : ∀ R : Nat, (pl 1 t).toInt ≤ ps_rn pl f t R
  | 0 => Int.le_refl _
  | R + 1 => by
    have ih := ps_rn_ge pl f t R
    rw [ps_rn]
    by_cases c : f (R + 1) = nI t ∧ ps_rn pl f t R < (pl 3 (R + 1)).toInt
    · rw [if_pos c]
      exact Int.le_trans ih (Int.le_of_lt c.2)
    · rw [if_neg c]
      exact ih
theorem ps_rn_c (pl : cr_S) (f : Nat → Int32) (t : Nat) : ∀ R r : Nat, 1 ≤ r → r ≤ R → f r = nI t → (pl 3 r).toInt ≤ ps_rn pl f t R
  | 0, r, a, b, _ => absurd b (by omega)
  | R + 1, r, a, b, h => by
    rw [ps_rn]
    have z : (pl 3 r).toInt ≤ ps_rn pl f t R ∨ r = R + 1 := by
      rcases Nat.lt_or_ge R r with w | w
      · exact Or.inr (by omega)
      · exact Or.inl (ps_rn_c pl f t R r a w h)
    by_cases c : f (R + 1) = nI t ∧ ps_rn pl f t R < (pl 3 (R + 1)).toInt
    · rw [if_pos c]
      rcases z with z | z
      · exact Int.le_trans z (Int.le_of_lt c.2)
      · rw [z]
        exact Int.le_refl _
    · rw [if_neg c]
      rcases z with z | z
      · exact z
      · subst z
        exact Int.not_lt.mp (fun q => c ⟨h, q⟩)
theorem ps_rn_le {pl : cr_S} {f : Nat → Int32} {t : Nat} {m : Int} (h0 : (pl 1 t).toInt ≤ m) : ∀ R : Nat, (∀ r : Nat, 1 ≤ r → r ≤ R → f r = nI t → (pl 3 r).toInt ≤ m) → ps_rn pl f t R ≤ m
  | 0, _ => h0
  | R + 1, h => by
    have ih := ps_rn_le h0 R (fun r a b c => h r a (by omega) c)
    rw [ps_rn]
    by_cases c : f (R + 1) = nI t ∧ ps_rn pl f t R < (pl 3 (R + 1)).toInt
    · rw [if_pos c]
      exact h (R + 1) (by omega) (Nat.le_refl _) c.1
    · rw [if_neg c]
      exact ih
theorem ps_rn_mono {pl : cr_S} {f g : Nat → Int32} {t : Nat} (R : Nat) (h : ∀ r : Nat, g r = nI t → f r = nI t) : ps_rn pl g t R ≤ ps_rn pl f t R :=
  ps_rn_le (ps_rn_ge pl f t R) R (fun r a b c => ps_rn_c pl f t R r a b (h r c))
theorem ps_rn_free {pl : cr_S} {f : Nat → Int32} {t : Nat} (R : Nat) (h : ∀ r : Nat, f r ≠ nI t) : ps_rn pl f t R = (pl 1 t).toInt :=
  Int.le_antisymm (ps_rn_le (Int.le_refl _) R (fun r _ _ c => absurd c (h r))) (ps_rn_ge pl f t R)
theorem ps_rnL (pl bd : cr_S) {R : Nat} (hR : R ≤ 8) (e1 : pl 0 1 = nI R) (t : Nat) : ∀ (d j : Nat) (v : Int32), j ≤ R → 9 ≤ d + j → v.toInt = ps_rn pl (bd 4) t j → (lo_Board_rankNow_12 pl bd (nI t) d v (nI (j + 1))).toInt = ps_rn pl (bd 4) t R
  | 0, j, v, a, b, _ => absurd b (by omega)
  | d + 1, j, v, hj, hd, hv => by
    have jt := ps_nI_t (k := j + 1) (by omega)
    have Rt := ps_nI_t (k := R) (by omega)
    rw [lo_Board_rankNow_12, e1]
    by_cases e : j = R
    · have lt : nI R < nI (j + 1) := by rw [pu_lt]; omega
      rw [if_pos lt, hv, e]
    · have nlt : ¬ nI R < nI (j + 1) := by rw [pu_lt]; omega
      rw [if_neg nlt, ps_nI_c (k := j + 1) (by omega), show nI (j + 1) + 1 = nI (j + 1 + 1) from nI_1 (j + 1)]
      have hj1 : j + 1 ≤ R := by omega
      have hd1 : 9 ≤ d + (j + 1) := by omega
      by_cases u : bd 4 (j + 1) = nI t
      · rw [if_pos u]
        refine ps_rnL pl bd hR e1 t d (j + 1) _ hj1 hd1 ?_
        rw [ps_rn]
        have m := cr_max_t v (pl 3 (j + 1))
        by_cases g : ps_rn pl (bd 4) t j < (pl 3 (j + 1)).toInt
        · rw [if_pos (show bd 4 (j + 1) = nI t ∧ ps_rn pl (bd 4) t j < (pl 3 (j + 1)).toInt from ⟨u, g⟩)]
          omega
        · rw [if_neg (show ¬ (bd 4 (j + 1) = nI t ∧ ps_rn pl (bd 4) t j < (pl 3 (j + 1)).toInt) from fun q => g q.2)]
          omega
      · rw [if_neg u]
        refine ps_rnL pl bd hR e1 t d (j + 1) v hj1 hd1 ?_
        rw [ps_rn, if_neg (show ¬ (bd 4 (j + 1) = nI t ∧ ps_rn pl (bd 4) t j < (pl 3 (j + 1)).toInt) from fun q => u q.1)]
        exact hv
theorem ps_rnM {pl : cr_S} (bd : cr_S) {R t : Nat} (hR : R ≤ 8) (e1 : pl 0 1 = nI R) (ht : t ≤ 10) : (md_Board_rankNow pl bd (nI t)).toInt = ps_rn pl (bd 4) t R := by
  unfold md_Board_rankNow
  rw [ps_nI_c (k := t) (by omega)]
  exact ps_rnL pl bd hR e1 t 9 0 _ (by omega) (by omega) rfl
/-- f is the first among those below k: 0 if there is none -/
def ps_best (rd : Nat → Prop) (rk od : Nat → Int) (k f : Nat) : Prop := (f = 0 ∧ ∀ t, 1 ≤ t → t < k → ¬ rd t) ∨ (1 ≤ f ∧ f < k ∧ rd f ∧ ∀ t, 1 ≤ t → t < k → rd t → t ≠ f → rk t < rk f ∨ (rk t = rk f ∧ od f < od t))
theorem ps_best_1 (rd : Nat → Prop) (rk od : Nat → Int) : ps_best rd rk od 1 0 := Or.inl ⟨rfl, fun t a b => absurd b (by omega)⟩
theorem ps_best_s {rd : Nat → Prop} {rk od : Nat → Int} {k f : Nat} (h : ps_best rd rk od k f) (n : ¬ rd k) : ps_best rd rk od (k + 1) f := by
  rcases h with ⟨h0, h1⟩ | ⟨h0, h1, h2, h3⟩
  · refine Or.inl ⟨h0, fun t a b => ?_⟩
    rcases Nat.lt_or_ge t k with w | w
    · exact h1 t a w
    · rw [show t = k by omega]
      exact n
  · refine Or.inr ⟨h0, by omega, h2, fun t a b c e => ?_⟩
    rcases Nat.lt_or_ge t k with w | w
    · exact h3 t a w c e
    · rw [show t = k by omega] at c
      exact absurd c n
theorem ps_best_k {rd : Nat → Prop} {rk od : Nat → Int} {k f : Nat} (h : ps_best rd rk od k f) (hf : f ≠ 0) (g : rk k < rk f ∨ (rk k = rk f ∧ od f < od k)) : ps_best rd rk od (k + 1) f := by
  rcases h with ⟨h0, h1⟩ | ⟨h0, h1, h2, h3⟩
  · exact absurd h0 hf
  · refine Or.inr ⟨h0, by omega, h2, fun t a b c e => ?_⟩
    rcases Nat.lt_or_ge t k with w | w
    · exact h3 t a w c e
    · rw [show t = k by omega]
      exact g
theorem ps_best_n {rd : Nat → Prop} {rk od : Nat → Int} {k f : Nat} (h : ps_best rd rk od k f) (hk : 1 ≤ k) (r : rd k) (g : f = 0 ∨ rk f < rk k ∨ (rk f = rk k ∧ od k < od f)) : ps_best rd rk od (k + 1) k := by
  refine Or.inr ⟨hk, by omega, r, fun t a b c e => ?_⟩
  have w : t < k := by omega
  rcases h with ⟨h0, h1⟩ | ⟨h0, h1, h2, h3⟩
  · exact absurd c (h1 t a w)
  · by_cases q : t = f
    · subst q
      rcases g with g | g | ⟨g, g'⟩
      · exact absurd g (by omega)
      · exact Or.inl g
      · exact Or.inr ⟨g, g'⟩
    · have z := h3 t a w c q
      rcases g with g | g | ⟨g, g'⟩
      · exact absurd g (by omega)
      · exact Or.inl (by omega)
      · rcases z with z | ⟨z, z'⟩
        · exact Or.inl (by omega)
        · exact Or.inr ⟨by omega, by omega⟩
theorem ps_best_u {rd : Nat → Prop} {rk od : Nat → Int} {k f f' : Nat} (h : ps_best rd rk od k f) (g : ps_best rd rk od k f') : f = f' := by
  rcases h with ⟨h0, h1⟩ | ⟨h0, h1, h2, h3⟩ <;> rcases g with ⟨g0, g1⟩ | ⟨g0, g1, g2, g3⟩
  · rw [h0, g0]
  · exact absurd g2 (h1 f' g0 g1)
  · exact absurd h2 (g1 f h0 h1)
  · by_cases q : f = f'
    · exact q
    · have a := h3 f' g0 g1 g2 (fun e => q e.symm)
      have b := g3 f h0 h1 h2 q
      exact absurd a (by omega)
theorem ps_best_c {rd rd' : Nat → Prop} {rk rk' od od' : Nat → Int} {k f : Nat} (hr : ∀ t, 1 ≤ t → t < k → (rd t ↔ rd' t)) (hk : ∀ t, 1 ≤ t → t < k → rd t → rk t = rk' t) (ho : ∀ t, 1 ≤ t → t < k → rd t → od t = od' t) (h : ps_best rd rk od k f) : ps_best rd' rk' od' k f := by
  rcases h with ⟨h0, h1⟩ | ⟨h0, h1, h2, h3⟩
  · exact Or.inl ⟨h0, fun t a b c => h1 t a b ((hr t a b).mpr c)⟩
  · refine Or.inr ⟨h0, h1, (hr f h0 h1).mp h2, fun t a b c e => ?_⟩
    have c' := (hr t a b).mpr c
    rw [← hk t a b c', ← hk f h0 h1 h2, ← ho t a b c', ← ho f h0 h1 h2]
    exact h3 t a b c' e
theorem ps_best_r {rd : Nat → Prop} {rk od : Nat → Int} {k f : Nat} (h : ps_best rd rk od k f) (hf : f ≠ 0) : 1 ≤ f ∧ f < k ∧ rd f := by
  rcases h with ⟨h0, h1⟩ | ⟨h0, h1, h2, h3⟩
  · exact absurd h0 hf
  · exact ⟨h0, h1, h2⟩
theorem ps_best_b {rd : Nat → Prop} {rk od : Nat → Int} {k f : Nat} (h : ps_best rd rk od k f) (hk : 1 ≤ k) : f < k := by
  rcases h with ⟨h0, h1⟩ | ⟨h0, h1, h2, h3⟩
  · omega
  · exact h1
def ps_rd (pl bd : cr_S) (c : Int32) (t : Nat) : Prop := pl 2 t = c ∧ bd 1 t = 1
def ps_fs (pl bd : cr_S) (R : Nat) (c : Int32) (k f : Nat) : Prop := ps_best (ps_rd pl bd c) (fun t => ps_rn pl (bd 4) t R) (fun t => (bd 2 t).toInt) k f
/-- ready tasks have different numbers -/
def ps_dif (bd : cr_S) : Prop := ∀ t u : Nat, bd 1 t = 1 → bd 1 u = 1 → t ≠ u → (bd 2 t).toInt ≠ (bd 2 u).toInt
theorem ps_fstL {pl bd : cr_S} {T R : Nat} (hT : T ≤ 10) (hR : R ≤ 8) (e0 : pl 0 0 = nI T) (e1 : pl 0 1 = nI R) (c : Int32) (hr : ∀ t, 1 ≤ t → t ≤ T → 1 ≤ (pl 1 t).toInt) (hd : ps_dif bd) : ∀ (d k f : Nat) (v : Int32), 1 ≤ k → k ≤ T + 1 → 11 < d + k → ps_fs pl bd R c k f → ((f = 0 ∧ v.toInt = 0) ∨ (f ≠ 0 ∧ v.toInt = ps_rn pl (bd 4) f R)) → ∃ g, lo_Board_firstOn_7 pl bd c d (nI f) v (nI k) = nI g ∧ ps_fs pl bd R c (T + 1) g
  | 0, k, f, v, _, a, b, _, _ => absurd b (by omega)
  | d + 1, k, f, v, h1, hk, hdk, hb, hv => by
    have kt := ps_nI_t (k := k) (by omega)
    have Tt := ps_nI_t (k := T) (by omega)
    have fk := ps_best_b hb h1
    have a1 : 1 ≤ k + 1 := by omega
    have a3 : 11 < d + (k + 1) := by omega
    rw [lo_Board_firstOn_7, e0]
    by_cases e : k = T + 1
    · have lt : nI T < nI k := by rw [pu_lt]; omega
      rw [if_pos lt]
      exact ⟨f, rfl, by rw [← e]; exact hb⟩
    · have nlt : ¬ nI T < nI k := by rw [pu_lt]; omega
      have a2 : k + 1 ≤ T + 1 := by omega
      have kT : k ≤ T := by omega
      rw [if_neg nlt, ps_nI_c (k := k) (by omega), ps_nI_c (k := f) (by omega), show nI k + 1 = nI (k + 1) from nI_1 k]
      have ih := fun f' v' => ps_fstL hT hR e0 e1 c hr hd d (k + 1) f' v' a1 a2 a3
      by_cases c1 : pl 2 k = c
      · rw [if_pos c1]
        by_cases c2 : bd 1 k = 1
        · rw [if_pos c2]
          have rk := ps_rnM (pl := pl) bd (t := k) hR e1 (by omega)
          have r1 := hr k h1 kT
          have r2 := ps_rn_ge pl (bd 4) k R
          have nw : (f = 0 ∨ ps_rn pl (bd 4) f R < ps_rn pl (bd 4) k R ∨ (ps_rn pl (bd 4) f R = ps_rn pl (bd 4) k R ∧ (bd 2 k).toInt < (bd 2 f).toInt)) → ∃ g, lo_Board_firstOn_7 pl bd c d (nI k) (md_Board_rankNow pl bd (nI k)) (nI (k + 1)) = nI g ∧ ps_fs pl bd R c (T + 1) g := fun q =>
            ih k _ (ps_best_n hb h1 ⟨c1, c2⟩ q) (Or.inr ⟨by omega, rk⟩)
          have kp : f ≠ 0 → (ps_rn pl (bd 4) k R < ps_rn pl (bd 4) f R ∨ (ps_rn pl (bd 4) k R = ps_rn pl (bd 4) f R ∧ (bd 2 f).toInt < (bd 2 k).toInt)) → ∃ g, lo_Board_firstOn_7 pl bd c d (nI f) v (nI (k + 1)) = nI g ∧ ps_fs pl bd R c (T + 1) g := fun z q =>
            ih f v (ps_best_k hb z q) hv
          have df : f ≠ 0 → (bd 2 f).toInt ≠ (bd 2 k).toInt := fun z => hd f k (ps_best_r hb z).2.2.2 c2 (by omega)
          clear ih hr hd hb
          by_cases c3 : bd 2 f ≤ bd 2 k
          · rw [if_pos c3]
            have c3' := cr_le c3
            by_cases c4 : v < md_Board_rankNow pl bd (nI k)
            · rw [if_pos c4]
              have c4' := cr_lt c4
              refine nw ?_
              rcases hv with ⟨z, _⟩ | ⟨_, z⟩
              · exact Or.inl z
              · exact Or.inr (Or.inl (by omega))
            · rw [if_neg c4, ite_self]
              have c4' := cr_nlt c4
              have z : f ≠ 0 := by
                rcases hv with ⟨_, y⟩ | ⟨y, _⟩
                · omega
                · exact y
              have y := df z
              refine kp z ?_
              rcases hv with ⟨x, _⟩ | ⟨_, x⟩
              · exact absurd x z
              · rcases Int.lt_or_le (ps_rn pl (bd 4) k R) (ps_rn pl (bd 4) f R) with w | w
                · exact Or.inl w
                · exact Or.inr ⟨by omega, by omega⟩
          · rw [if_neg c3]
            have c3' := cr_nle c3
            by_cases c4 : v < md_Board_rankNow pl bd (nI k)
            · rw [if_pos c4]
              have c4' := cr_lt c4
              refine nw ?_
              rcases hv with ⟨z, _⟩ | ⟨_, z⟩
              · exact Or.inl z
              · exact Or.inr (Or.inl (by omega))
            · rw [if_neg c4]
              have c4' := cr_nlt c4
              by_cases c5 : md_Board_rankNow pl bd (nI k) = v
              · rw [if_pos c5]
                have c5' := cr_eq c5
                refine nw ?_
                rcases hv with ⟨z, _⟩ | ⟨_, z⟩
                · exact Or.inl z
                · exact Or.inr (Or.inr ⟨by omega, c3'⟩)
              · rw [if_neg c5]
                have c5' := cr_ne c5
                have z : f ≠ 0 := by
                  rcases hv with ⟨_, y⟩ | ⟨y, _⟩
                  · omega
                  · exact y
                refine kp z ?_
                rcases hv with ⟨x, _⟩ | ⟨_, x⟩
                · exact absurd x z
                · exact Or.inl (by omega)
        · rw [if_neg c2]
          exact ih f v (ps_best_s hb (fun q => c2 q.2)) hv
      · rw [if_neg c1]
        exact ih f v (ps_best_s hb (fun q => c1 q.1)) hv
theorem ps_fst {pl bd : cr_S} {T R : Nat} (hT : T ≤ 10) (hR : R ≤ 8) (e0 : pl 0 0 = nI T) (e1 : pl 0 1 = nI R) (c : Int32) (hr : ∀ t, 1 ≤ t → t ≤ T → 1 ≤ (pl 1 t).toInt) (hd : ps_dif bd) : ∃ g, md_Board_firstOn pl bd c = nI g ∧ ps_fs pl bd R c (T + 1) g :=
  ps_fstL hT hR e0 e1 c hr hd 11 1 0 0 (by omega) (by omega) (by omega) (ps_best_1 _ _ _) (Or.inl ⟨rfl, by decide⟩)
end
section
/-! who runs, by the reference's loops -/
theorem ps_runL {rf : cr_S} (lat : Int64) (ln : Nat → Int64) {T : Nat} (hT : T ≤ 10) (e0 : rf 0 0 = nI T) (c : Int32) (hc : rf 11 c.toNatClampNeg = 0) (rk : Nat → Int) (hk : ∀ t, 1 ≤ t → t ≤ T → rf 3 t = 1 → (md_Ref_rankNow rf lat ln (nI t)).toInt = rk t ∧ 0 ≤ rk t ∧ rk t ≤ 20) (hd : ∀ t u : Nat, 1 ≤ t → t ≤ T → 1 ≤ u → u ≤ T → rf 3 t = 1 → rf 3 u = 1 → t ≠ u → (rf 4 t).toInt ≠ (rf 4 u).toInt) : ∀ (d k f : Nat), 1 ≤ k → k ≤ T + 1 → 11 < d + k → ps_best (fun t => rf 2 t = c ∧ rf 3 t = 1) rk (fun t => (rf 4 t).toInt) k f → ∃ g, lo_Ref_running_4 rf lat ln c d (nI f) (nI k) = nI g ∧ ps_best (fun t => rf 2 t = c ∧ rf 3 t = 1) rk (fun t => (rf 4 t).toInt) (T + 1) g
  | 0, k, f, _, a, b, _ => absurd b (by omega)
  | d + 1, k, f, h1, hkT, hdk, hb => by
    have kt := ps_nI_t (k := k) (by omega)
    have Tt := ps_nI_t (k := T) (by omega)
    have k0 : (0 : Int32).toInt = 0 := by decide
    have fk := ps_best_b hb h1
    have ft := ps_nI_t (k := f) (by omega)
    have a1 : 1 ≤ k + 1 := by omega
    have a3 : 11 < d + (k + 1) := by omega
    rw [lo_Ref_running_4, e0]
    by_cases e : k = T + 1
    · have lt : nI T < nI k := by rw [pu_lt]; omega
      rw [if_pos lt]
      exact ⟨f, rfl, by rw [← e]; exact hb⟩
    · have nlt : ¬ nI T < nI k := by rw [pu_lt]; omega
      have a2 : k + 1 ≤ T + 1 := by omega
      have kT : k ≤ T := by omega
      rw [if_neg nlt, if_pos hc, ps_nI_c (k := k) (by omega), ps_nI_c (k := f) (by omega), show nI k + 1 = nI (k + 1) from nI_1 k]
      have ih := fun f' => ps_runL lat ln hT e0 c hc rk hk hd d (k + 1) f' a1 a2 a3
      by_cases c1 : rf 2 k = c
      · rw [if_pos c1]
        by_cases c2 : rf 3 k = 1
        · rw [if_pos c2]
          have nw : (f = 0 ∨ rk f < rk k ∨ (rk f = rk k ∧ (rf 4 k).toInt < (rf 4 f).toInt)) → ∃ g, lo_Ref_running_4 rf lat ln c d (nI k) (nI (k + 1)) = nI g ∧ ps_best (fun t => rf 2 t = c ∧ rf 3 t = 1) rk (fun t => (rf 4 t).toInt) (T + 1) g := fun q => ih k (ps_best_n hb h1 ⟨c1, c2⟩ q)
          by_cases z : f = 0
          · have z' : nI f = 0 := by rw [z]; rfl
            rw [if_pos z']
            exact nw (Or.inl z)
          · have z' : ¬ nI f = 0 := by rw [pu_eq, ft, k0]; omega
            rw [if_neg z']
            have kp : (rk k < rk f ∨ (rk k = rk f ∧ (rf 4 f).toInt < (rf 4 k).toInt)) → ∃ g, lo_Ref_running_4 rf lat ln c d (nI f) (nI (k + 1)) = nI g ∧ ps_best (fun t => rf 2 t = c ∧ rf 3 t = 1) rk (fun t => (rf 4 t).toInt) (T + 1) g := fun q => ih f (ps_best_k hb z q)
            have fr := ps_best_r hb z
            have df := hd f k fr.1 (by omega) h1 kT fr.2.2.2 c2 (by omega)
            have r1 := hk k h1 kT c2
            have r2 := hk f fr.1 (by omega) fr.2.2.2
            have sb : (md_Ref_rankNow rf lat ln (nI k) - md_Ref_rankNow rf lat ln (nI f)).toInt = rk k - rk f := by
              have := cr_sub (x := md_Ref_rankNow rf lat ln (nI k)) (y := md_Ref_rankNow rf lat ln (nI f)) (by omega)
              omega
            clear ih hk hd hb fr
            by_cases c4 : 0 < md_Ref_rankNow rf lat ln (nI k) - md_Ref_rankNow rf lat ln (nI f)
            · rw [if_pos c4]
              have := cr_lt c4
              exact nw (Or.inr (Or.inl (by omega)))
            · rw [if_neg c4]
              have c4' := cr_nlt c4
              by_cases c5 : md_Ref_rankNow rf lat ln (nI k) - md_Ref_rankNow rf lat ln (nI f) = 0
              · rw [if_pos c5]
                have c5' := cr_eq c5
                by_cases c6 : rf 4 f ≤ rf 4 k
                · rw [if_pos c6]
                  have c6' := cr_le c6
                  exact kp (Or.inr ⟨by omega, by omega⟩)
                · rw [if_neg c6]
                  have c6' := cr_nle c6
                  exact nw (Or.inr (Or.inr ⟨by omega, c6'⟩))
              · rw [if_neg c5]
                have c5' := cr_ne c5
                exact kp (Or.inl (by omega))
        · rw [if_neg c2]
          exact ih f (ps_best_s hb (fun q => c2 q.2))
      · rw [if_neg c1]
        exact ih f (ps_best_s hb (fun q => c1 q.1))
theorem ps_truL {rf : cr_S} (lat : Int64) (ln : Nat → Int64) {T : Nat} (hT : T ≤ 10) (e0 : rf 0 0 = nI T) (c : Int32) (rk : Nat → Int) (hk : ∀ t, 1 ≤ t → t ≤ T → rf 13 t = 1 → (md_Ref_trialRank rf lat ln (nI t)).toInt = rk t ∧ 0 ≤ rk t ∧ rk t ≤ 20) (hd : ∀ t u : Nat, 1 ≤ t → t ≤ T → 1 ≤ u → u ≤ T → rf 13 t = 1 → rf 13 u = 1 → t ≠ u → (rf 14 t).toInt ≠ (rf 14 u).toInt) : ∀ (d k f : Nat), 1 ≤ k → k ≤ T + 1 → 11 < d + k → ps_best (fun t => rf 2 t = c ∧ rf 13 t = 1) rk (fun t => (rf 14 t).toInt) k f → ∃ g, lo_Ref_trialRuns_4 rf lat ln c d (nI f) (nI k) = nI g ∧ ps_best (fun t => rf 2 t = c ∧ rf 13 t = 1) rk (fun t => (rf 14 t).toInt) (T + 1) g
  | 0, k, f, _, a, b, _ => absurd b (by omega)
  | d + 1, k, f, h1, hkT, hdk, hb => by
    have kt := ps_nI_t (k := k) (by omega)
    have Tt := ps_nI_t (k := T) (by omega)
    have k0 : (0 : Int32).toInt = 0 := by decide
    have fk := ps_best_b hb h1
    have ft := ps_nI_t (k := f) (by omega)
    have a1 : 1 ≤ k + 1 := by omega
    have a3 : 11 < d + (k + 1) := by omega
    rw [lo_Ref_trialRuns_4, e0]
    by_cases e : k = T + 1
    · have lt : nI T < nI k := by rw [pu_lt]; omega
      rw [if_pos lt]
      exact ⟨f, rfl, by rw [← e]; exact hb⟩
    · have nlt : ¬ nI T < nI k := by rw [pu_lt]; omega
      have a2 : k + 1 ≤ T + 1 := by omega
      have kT : k ≤ T := by omega
      rw [if_neg nlt, ps_nI_c (k := k) (by omega), ps_nI_c (k := f) (by omega), show nI k + 1 = nI (k + 1) from nI_1 k]
      have ih := fun f' => ps_truL lat ln hT e0 c rk hk hd d (k + 1) f' a1 a2 a3
      by_cases c1 : rf 2 k = c
      · rw [if_pos c1]
        by_cases c2 : rf 13 k = 1
        · rw [if_pos c2]
          have nw : (f = 0 ∨ rk f < rk k ∨ (rk f = rk k ∧ (rf 14 k).toInt < (rf 14 f).toInt)) → ∃ g, lo_Ref_trialRuns_4 rf lat ln c d (nI k) (nI (k + 1)) = nI g ∧ ps_best (fun t => rf 2 t = c ∧ rf 13 t = 1) rk (fun t => (rf 14 t).toInt) (T + 1) g := fun q => ih k (ps_best_n hb h1 ⟨c1, c2⟩ q)
          by_cases z : f = 0
          · have z' : nI f = 0 := by rw [z]; rfl
            rw [if_pos z']
            exact nw (Or.inl z)
          · have z' : ¬ nI f = 0 := by rw [pu_eq, ft, k0]; omega
            rw [if_neg z']
            have kp : (rk k < rk f ∨ (rk k = rk f ∧ (rf 14 f).toInt < (rf 14 k).toInt)) → ∃ g, lo_Ref_trialRuns_4 rf lat ln c d (nI f) (nI (k + 1)) = nI g ∧ ps_best (fun t => rf 2 t = c ∧ rf 13 t = 1) rk (fun t => (rf 14 t).toInt) (T + 1) g := fun q => ih f (ps_best_k hb z q)
            have fr := ps_best_r hb z
            have df := hd f k fr.1 (by omega) h1 kT fr.2.2.2 c2 (by omega)
            have r1 := hk k h1 kT c2
            have r2 := hk f fr.1 (by omega) fr.2.2.2
            have sb : (md_Ref_trialRank rf lat ln (nI k) - md_Ref_trialRank rf lat ln (nI f)).toInt = rk k - rk f := by
              have := cr_sub (x := md_Ref_trialRank rf lat ln (nI k)) (y := md_Ref_trialRank rf lat ln (nI f)) (by omega)
              omega
            clear ih hk hd hb fr
            by_cases c4 : 0 < md_Ref_trialRank rf lat ln (nI k) - md_Ref_trialRank rf lat ln (nI f)
            · rw [if_pos c4]
              have := cr_lt c4
              exact nw (Or.inr (Or.inl (by omega)))
            · rw [if_neg c4]
              have c4' := cr_nlt c4
              by_cases c5 : md_Ref_trialRank rf lat ln (nI k) - md_Ref_trialRank rf lat ln (nI f) = 0
              · rw [if_pos c5]
                have c5' := cr_eq c5
                by_cases c6 : rf 14 f ≤ rf 14 k
                · rw [if_pos c6]
                  have c6' := cr_le c6
                  exact kp (Or.inr ⟨by omega, by omega⟩)
                · rw [if_neg c6]
                  have c6' := cr_nle c6
                  exact nw (Or.inr (Or.inr ⟨by omega, c6'⟩))
              · rw [if_neg c5]
                have c5' := cr_ne c5
                exact kp (Or.inl (by omega))
        · rw [if_neg c2]
          exact ih f (ps_best_s hb (fun q => c2 q.2))
      · rw [if_neg c1]
        exact ih f (ps_best_s hb (fun q => c1 q.1))
/-- upper bounds of ranks -/
theorem ps_ceil20 {pl : cr_S} {T : Nat} (hR : ps_PR pl T) (hC : ps_PC pl T) {r : Nat} (hr : r ≤ 8) : 0 ≤ (pl 3 r).toInt ∧ (pl 3 r).toInt ≤ 20 := by
  obtain ⟨m0, m1, m2⟩ := hC r hr
  refine ⟨m0, ?_⟩
  rcases m2 with q | ⟨t, q1, q2, q3, q4⟩
  · omega
  · have := hR t q1 (by omega)
    rw [q4] at this
    exact this.2.1
theorem ps_rn20 {pl : cr_S} {T R : Nat} (h8 : R ≤ 8) (hR : ps_PR pl T) (hC : ps_PC pl T) (f : Nat → Int32) {t : Nat} (h1 : 1 ≤ t) (h2 : t ≤ T) : 1 ≤ ps_rn pl f t R ∧ ps_rn pl f t R ≤ 20 := by
  have a := hR t h1 h2
  refine ⟨Int.le_trans a.1 (ps_rn_ge pl f t R), ps_rn_le a.2.1 R (fun r b c _ => ?_)⟩
  obtain ⟨m0, m1, m2⟩ := hC r (by omega)
  rcases m2 with q | ⟨u, q1, q2, q3, q4⟩
  · omega
  · have := hR u q1 (by omega)
    rw [q4] at this
    exact this.2.1
end
section
/-! the board's own laws: what is held, and the two laws that keep a resource free for the one that runs -/
theorem ps_inj {a b : Nat} (h : nI a = nI b) (ha : a < 100000) (hb : b < 100000) : a = b := by
  have x := ps_nI_t (k := a) ha
  have y := ps_nI_t (k := b) hb
  rw [h] at x
  omega
theorem ps_nz {a : Nat} (h : 1 ≤ a) (ha : a < 100000) : nI a ≠ 0 := fun e => by
  have := ps_inj (a := a) (b := 0) e ha (by omega)
  omega
def ps_B1 (bd : cr_S) (T : Nat) : Prop := ∀ t : Nat, bd 1 t = 0 ∨ (1 ≤ t ∧ t ≤ T ∧ (bd 1 t = 1 ∨ bd 1 t = 2))
def ps_B2 (bd : cr_S) : Prop := ∀ t : Nat, bd 1 t = 1 → 1 ≤ (bd 2 t).toInt ∧ (bd 2 t).toInt ≤ (bd 0 0).toInt
def ps_B4 (pl bd : cr_S) (T R : Nat) : Prop := ∀ j : Nat, bd 4 j = 0 ∨ ∃ t, 1 ≤ t ∧ t ≤ T ∧ bd 4 j = nI t ∧ bd 1 t = 1 ∧ 1 ≤ j ∧ j ≤ R ∧ ps_us pl t j
def ps_I1 (pl bd : cr_S) (T : Nat) : Prop := ∀ a b j : Nat, 1 ≤ a → a ≤ T → bd 4 j = nI a → bd 1 b = 1 → pl 2 a = pl 2 b → (bd 2 b).toInt < (bd 2 a).toInt → (pl 1 b).toInt < (pl 1 a).toInt
def ps_I3 (pl bd : cr_S) (T R : Nat) : Prop := ∀ a b i j : Nat, a ≠ b → 1 ≤ a → a ≤ T → 1 ≤ b → b ≤ T → bd 4 i = nI a → bd 4 j = nI b → pl 2 a = pl 2 b → ps_rn pl (bd 4) a R < (pl 1 b).toInt ∨ ps_rn pl (bd 4) b R < (pl 1 a).toInt
def ps_Bd (pl bd : cr_S) (T R : Nat) : Prop := ps_B1 bd T ∧ ps_B2 bd ∧ ps_dif bd ∧ ps_B4 pl bd T R ∧ ps_I1 pl bd T ∧ ps_I3 pl bd T R
/-- a holder is ready and one of the tasks -/
theorem ps_B4h {pl bd : cr_S} {T R : Nat} (h : ps_B4 pl bd T R) (hT : T ≤ 10) {a j : Nat} (a1 : 1 ≤ a) (a2 : a ≤ 10) (e : bd 4 j = nI a) : a ≤ T ∧ bd 1 a = 1 ∧ 1 ≤ j ∧ j ≤ R ∧ ps_us pl a j := by
  rcases h j with q | ⟨t, q1, q2, q3, q4, q5, q6, q7⟩
  · rw [q] at e
    exact absurd e.symm (ps_nz a1 (by omega))
  · have z : a = t := ps_inj (e.symm.trans q3) (by omega) (by omega)
    subst z
    exact ⟨q2, q4, q5, q6, q7⟩
theorem ps_freeR {pl bd : cr_S} {T R : Nat} (h : ps_Bd pl bd T R) (hT : T ≤ 10) (hR : R ≤ 8) (hC : ps_PC pl T) (hO : ps_PO pl) {t r : Nat} (hf : ps_fs pl bd R (pl 2 t) (T + 1) t) (ht : 1 ≤ t) (hr : r ≤ 8) (hu : ps_us pl t r) : bd 4 r = 0 ∨ bd 4 r = nI t := by
  obtain ⟨b1, b2, b3, b4, i1, i3⟩ := h
  rcases b4 r with q | ⟨a, q1, q2, q3, q4, q5, q6, q7⟩
  · exact Or.inl q
  · by_cases e : a = t
    · subst e
      exact Or.inr q3
    · exfalso
      have tr := ps_best_r hf (by omega)
      have tT : t ≤ T := by omega
      have co : pl 2 a = pl 2 t := by
        rcases hO r hr with ⟨_, w⟩ | ⟨_, _, w⟩
        · exact absurd q7 (w a (by omega))
        · rw [w a (by omega) q7, w t (by omega) hu]
      have c1 : (pl 1 t).toInt ≤ (pl 3 r).toInt := (hC r hr).2.1 t ht (by omega) hu
      have c2 := ps_rn_c pl (bd 4) a R r q5 q6 q3
      have c3 := ps_rn_ge pl (bd 4) a R
      have bs : ps_rn pl (bd 4) a R < ps_rn pl (bd 4) t R ∨ (ps_rn pl (bd 4) a R = ps_rn pl (bd 4) t R ∧ (bd 2 t).toInt < (bd 2 a).toInt) := by
        rcases hf with ⟨w, _⟩ | ⟨_, _, _, w⟩
        · omega
        · exact w a q1 (by omega) ⟨co, q4⟩ e
      by_cases hh : ∃ i, bd 4 i = nI t
      · obtain ⟨i, hi⟩ := hh
        have := i3 a t r i e q1 q2 ht tT q3 hi co
        omega
      · have c4 := ps_rn_free (pl := pl) (f := bd 4) (t := t) R (fun i hi => hh ⟨i, hi⟩)
        clear hh
        have z : (bd 2 t).toInt < (bd 2 a).toInt := by
          rcases bs with w | ⟨_, w⟩
          · exact absurd w (by omega)
          · exact w
        have := i1 a t r q1 q2 q3 tr.2.2.2 co z
        omega
/-- who holds something on the core of the one that runs has a rank now below its rank -/
theorem ps_above {pl bd : cr_S} {T R : Nat} (h : ps_Bd pl bd T R) (hT : T ≤ 10) {t : Nat} (hf : ps_fs pl bd R (pl 2 t) (T + 1) t) (ht : 1 ≤ t) {b j : Nat} (hb : b ≠ t) (b1 : 1 ≤ b) (b2 : b ≤ T) (hj : bd 4 j = nI b) (co : pl 2 b = pl 2 t) : ps_rn pl (bd 4) b R < (pl 1 t).toInt := by
  obtain ⟨B1, B2, B3, B4, i1, i3⟩ := h
  have tr := ps_best_r hf (by omega)
  have tT : t ≤ T := by omega
  have bh := ps_B4h B4 hT b1 (by omega) hj
  have c3 := ps_rn_ge pl (bd 4) b R
  have bs : ps_rn pl (bd 4) b R < ps_rn pl (bd 4) t R ∨ (ps_rn pl (bd 4) b R = ps_rn pl (bd 4) t R ∧ (bd 2 t).toInt < (bd 2 b).toInt) := by
    rcases hf with ⟨w, _⟩ | ⟨_, _, _, w⟩
    · omega
    · exact w b b1 (by omega) ⟨co, bh.2.1⟩ hb
  by_cases hh : ∃ i, bd 4 i = nI t
  · obtain ⟨i, hi⟩ := hh
    have := i3 b t j i hb b1 b2 ht tT hj hi co
    omega
  · have c4 := ps_rn_free (pl := pl) (f := bd 4) (t := t) R (fun i hi => hh ⟨i, hi⟩)
    clear hh
    rcases bs with w | ⟨w, w'⟩
    · omega
    · have := i1 b t j b1 b2 hj tr.2.2.2 co w'
      omega
theorem ps_Bd_take {pl bd bd' : cr_S} {T R : Nat} (h : ps_Bd pl bd T R) (hT : T ≤ 10) {t r : Nat} (hf : ps_fs pl bd R (pl 2 t) (T + 1) t) (ht : 1 ≤ t) (r1 : 1 ≤ r) (r2 : r ≤ R) (hu : ps_us pl t r) (h0 : bd 4 r = 0) (e0 : bd' 0 0 = bd 0 0) (e1 : bd' 1 = bd 1) (e2 : bd' 2 = bd 2) (e4 : bd' 4 r = nI t) (e4' : ∀ j, j ≠ r → bd' 4 j = bd 4 j) : ps_Bd pl bd' T R := by
  have ab := fun (b j : Nat) (x1 : b ≠ t) (x2 : 1 ≤ b) (x3 : b ≤ T) (x4 : bd 4 j = nI b) (x5 : pl 2 b = pl 2 t) => ps_above h hT hf ht x1 x2 x3 x4 x5
  obtain ⟨B1, B2, B3, B4, i1, i3⟩ := h
  have tr := ps_best_r hf (by omega)
  have tT : t ≤ T := by omega
  -- who holds in the new board and is not t held in the old one
  have old : ∀ a j, a ≠ t → a ≤ 10 → bd' 4 j = nI a → bd 4 j = nI a := fun a j x1 x2 x3 => by
    by_cases w : j = r
    · rw [w, e4] at x3
      exact absurd (ps_inj x3 (by omega) (by omega)) (fun q => x1 q.symm)
    · rw [← e4' j w]
      exact x3
  have mono : ∀ a, a ≠ t → a ≤ 10 → ps_rn pl (bd' 4) a R ≤ ps_rn pl (bd 4) a R := fun a x1 x2 => ps_rn_mono R (fun j x3 => old a j x1 x2 x3)
  refine ⟨fun u => ?_, fun u => ?_, fun u w => ?_, fun j => ?_, fun a b j a1 a2 hj hb co od => ?_, fun a b i j ne a1 a2 b1 b2 hi hj co => ?_⟩
  · rw [e1]
    exact B1 u
  · rw [e1, e2, e0]
    exact B2 u
  · rw [e1, e2]
    exact B3 u w
  · by_cases w : j = r
    · subst w
      exact Or.inr ⟨t, ht, tT, e4, by rw [e1]; exact tr.2.2.2, r1, r2, hu⟩
    · rw [e4' j w, e1]
      exact B4 j
  · rw [e1] at hb
    rw [e2] at od
    by_cases w : a = t
    · subst w
      by_cases hh : ∃ i, bd 4 i = nI a
      · obtain ⟨i, hi⟩ := hh
        exact i1 a b i a1 a2 hi hb co od
      · have c4 := ps_rn_free (pl := pl) (f := bd 4) (t := a) R (fun i hi => hh ⟨i, hi⟩)
        clear hh
        have c3 := ps_rn_ge pl (bd 4) b R
        have ba : b ≠ a := fun q => by rw [q] at od; exact absurd od (Int.lt_irrefl _)
        have bT : 1 ≤ b ∧ b ≤ T := by
          rcases B1 b with q | q
          · rw [q] at hb
            exact absurd hb (by decide)
          · exact ⟨q.1, q.2.1⟩
        rcases hf with ⟨w, _⟩ | ⟨_, _, _, w⟩
        · omega
        · have z := w b bT.1 (by omega) ⟨co.symm, hb⟩ ba
          have z' : ps_rn pl (bd 4) b R < ps_rn pl (bd 4) a R ∨ (ps_rn pl (bd 4) b R = ps_rn pl (bd 4) a R ∧ (bd 2 a).toInt < (bd 2 b).toInt) := z
          clear z w
          omega
    · exact i1 a b j a1 a2 (old a j w (by omega) hj) hb co od
  · by_cases w : a = t
    · subst w
      refine Or.inr (Int.lt_of_le_of_lt (mono b (fun q => ne q.symm) (by omega)) ?_)
      exact ab b j (fun q => ne q.symm) b1 b2 (old b j (fun q => ne q.symm) (by omega) hj) co.symm
    · by_cases w2 : b = t
      · subst w2
        refine Or.inl (Int.lt_of_le_of_lt (mono a ne (by omega)) ?_)
        exact ab a i ne a1 a2 (old a i ne (by omega) hi) co
      · have m1 := mono a w (by omega)
        have m2 := mono b w2 (by omega)
        have := i3 a b i j ne a1 a2 b1 b2 (old a i w (by omega) hi) (old b j w2 (by omega) hj) co
        omega
/-- less is held, tasks that hold nothing sleep or wait -/
theorem ps_Bd_drop {pl bd bd' : cr_S} {T R : Nat} (h : ps_Bd pl bd T R) (hT : T ≤ 10) (e0 : bd' 0 0 = bd 0 0) (e2 : bd' 2 = bd 2) (e4 : ∀ j, bd' 4 j = bd 4 j ∨ bd' 4 j = 0) (e1 : ∀ u, bd' 1 u = bd 1 u ∨ ((bd' 1 u = 0 ∨ (bd' 1 u = 2 ∧ 1 ≤ u ∧ u ≤ T)) ∧ ∀ j, bd' 4 j ≠ nI u)) : ps_Bd pl bd' T R := by
  obtain ⟨B1, B2, B3, B4, i1, i3⟩ := h
  have n01 : ¬ (0 : Int32) = 1 := by decide
  have n21 : ¬ (2 : Int32) = 1 := by decide
  have rdy : ∀ u, bd' 1 u = 1 → bd 1 u = 1 := fun u hu => by
    rcases e1 u with q | ⟨q | ⟨q, _⟩, _⟩
    · rw [← q]
      exact hu
    · rw [q] at hu
      exact absurd hu n01
    · rw [q] at hu
      exact absurd hu n21
  have old : ∀ a j, 1 ≤ a → a ≤ 10 → bd' 4 j = nI a → bd 4 j = nI a := fun a j x1 x2 x3 => by
    rcases e4 j with q | q
    · rw [← q]
      exact x3
    · rw [q] at x3
      exact absurd x3.symm (ps_nz x1 (by omega))
  have mono : ∀ a, 1 ≤ a → a ≤ 10 → ps_rn pl (bd' 4) a R ≤ ps_rn pl (bd 4) a R := fun a x1 x2 => ps_rn_mono R (fun j x3 => old a j x1 x2 x3)
  refine ⟨fun u => ?_, fun u hu => ?_, fun u w hu hw ne => ?_, fun j => ?_, fun a b j a1 a2 hj hb co od => ?_, fun a b i j ne a1 a2 b1 b2 hi hj co => ?_⟩
  · rcases e1 u with q | ⟨q | ⟨q, q1, q2⟩, _⟩
    · rw [q]
      exact B1 u
    · exact Or.inl q
    · exact Or.inr ⟨q1, q2, Or.inr q⟩
  · rw [e2, e0]
    exact B2 u (rdy u hu)
  · rw [e2]
    exact B3 u w (rdy u hu) (rdy w hw) ne
  · rcases e4 j with q | q
    · rcases B4 j with z | ⟨a, q1, q2, q3, q4, q5, q6, q7⟩
      · exact Or.inl (q.trans z)
      · refine Or.inr ⟨a, q1, q2, q.trans q3, ?_, q5, q6, q7⟩
        rcases e1 a with z | ⟨_, z⟩
        · rw [z]
          exact q4
        · exact absurd (q.trans q3) (z j)
    · exact Or.inl q
  · rw [e2] at od
    exact i1 a b j a1 a2 (old a j a1 (by omega) hj) (rdy b hb) co od
  · have m1 := mono a a1 (by omega)
    have m2 := mono b b1 (by omega)
    have := i3 a b i j ne a1 a2 b1 b2 (old a i a1 (by omega) hi) (old b j b1 (by omega) hj) co
    omega
theorem ps_Bd_ready {pl bd bd' : cr_S} {T R : Nat} (h : ps_Bd pl bd T R) (hT : T ≤ 10) {x : Nat} (x1 : 1 ≤ x) (x2 : x ≤ T) (hx : bd 1 x ≠ 1) (hn : 0 ≤ (bd 0 0).toInt) (e0 : (bd' 0 0).toInt = (bd 0 0).toInt + 1) (e1 : bd' 1 x = 1) (e1' : ∀ u, u ≠ x → bd' 1 u = bd 1 u) (e2 : bd' 2 x = bd' 0 0) (e2' : ∀ u, u ≠ x → bd' 2 u = bd 2 u) (e4 : bd' 4 = bd 4) : ps_Bd pl bd' T R := by
  obtain ⟨B1, B2, B3, B4, i1, i3⟩ := h
  have nh : ∀ j, bd 4 j ≠ nI x := fun j hj => hx (ps_B4h B4 hT x1 (by omega) hj).2.1
  refine ⟨fun u => ?_, fun u hu => ?_, fun u w hu hw ne => ?_, fun j => ?_, fun a b j a1 a2 hj hb co od => ?_, fun a b i j ne a1 a2 b1 b2 hi hj co => ?_⟩
  · by_cases w : u = x
    · subst w
      exact Or.inr ⟨x1, x2, Or.inl e1⟩
    · rw [e1' u w]
      exact B1 u
  · by_cases w : u = x
    · subst w
      rw [e2]
      omega
    · rw [e1' u w] at hu
      have := B2 u hu
      rw [e2' u w]
      omega
  · by_cases w1 : u = x
    · subst w1
      have w2 : w ≠ u := fun q => ne q.symm
      rw [e1' w w2] at hw
      have := B2 w hw
      rw [e2, e2' w w2]
      omega
    · rw [e1' u w1] at hu
      by_cases w2 : w = x
      · subst w2
        have := B2 u hu
        rw [e2, e2' u w1]
        omega
      · rw [e1' w w2] at hw
        rw [e2' u w1, e2' w w2]
        exact B3 u w hu hw ne
  · rw [e4]
    rcases B4 j with z | ⟨a, q1, q2, q3, q4, q5, q6, q7⟩
    · exact Or.inl z
    · refine Or.inr ⟨a, q1, q2, q3, ?_, q5, q6, q7⟩
      by_cases w : a = x
      · rw [w]
        exact e1
      · rw [e1' a w]
        exact q4
  · rw [e4] at hj
    have w : a ≠ x := fun q => nh j (by rw [← q]; exact hj)
    rw [e2' a w] at od
    by_cases w2 : b = x
    · subst w2
      rw [e2] at od
      have := B2 a (ps_B4h B4 hT a1 (by omega) hj).2.1
      omega
    · rw [e1' b w2] at hb
      rw [e2' b w2] at od
      exact i1 a b j a1 a2 hj hb co od
  · rw [e4] at hi hj ⊢
    exact i3 a b i j ne a1 a2 b1 b2 hi hj co
/-- another plan: nothing changes for those that are ready and what they hold -/
theorem ps_Bd_plan {pl pl' bd : cr_S} {T R T' R' : Nat} (h : ps_Bd pl bd T R) (hT : T ≤ T') (hT' : T' ≤ 10) (hR : R ≤ R') (e1 : ∀ u, bd 1 u = 1 → pl' 1 u = pl 1 u ∧ pl' 2 u = pl 2 u) (e3 : ∀ u j, 1 ≤ u → u ≤ T → bd 1 u = 1 → bd 4 j = nI u → ps_us pl u j → ps_us pl' u j ∧ pl' 3 j = pl 3 j) : ps_Bd pl' bd T' R' := by
  obtain ⟨B1, B2, B3, B4, i1, i3⟩ := h
  have hd : ∀ a j, 1 ≤ a → a ≤ 10 → bd 4 j = nI a → a ≤ T ∧ bd 1 a = 1 ∧ 1 ≤ j ∧ j ≤ R ∧ ps_us pl a j := fun a j x1 x2 x3 => ps_B4h B4 (by omega) x1 x2 x3
  have le : ∀ a j, 1 ≤ a → a ≤ 10 → bd 4 j = nI a → ps_rn pl' (bd 4) a R' ≤ ps_rn pl (bd 4) a R := fun a j x1 x2 x3 => by
    have y := hd a j x1 x2 x3
    refine ps_rn_le ?_ R' (fun r c1 c2 c3 => ?_)
    · rw [(e1 a y.2.1).1]
      exact ps_rn_ge pl (bd 4) a R
    · have y' := hd a r x1 x2 c3
      rw [(e3 a r x1 y'.1 y'.2.1 c3 y'.2.2.2.2).2]
      exact ps_rn_c pl (bd 4) a R r c1 y'.2.2.2.1 c3
  refine ⟨fun u => ?_, B2, B3, fun j => ?_, fun a b j a1 a2 hj hb co od => ?_, fun a b i j ne a1 a2 b1 b2 hi hj co => ?_⟩
  · rcases B1 u with q | ⟨q1, q2, q3⟩
    · exact Or.inl q
    · exact Or.inr ⟨q1, by omega, q3⟩
  · rcases B4 j with z | ⟨a, q1, q2, q3, q4, q5, q6, q7⟩
    · exact Or.inl z
    · exact Or.inr ⟨a, q1, by omega, q3, q4, q5, by omega, (e3 a j q1 q2 q4 q3 q7).1⟩
  · have y := hd a j a1 (by omega) hj
    rw [(e1 a y.2.1).2, (e1 b hb).2] at co
    rw [(e1 a y.2.1).1, (e1 b hb).1]
    exact i1 a b j a1 y.1 hj hb co od
  · have y := hd a i a1 (by omega) hi
    have y' := hd b j b1 (by omega) hj
    rw [(e1 a y.2.1).2, (e1 b y'.2.1).2] at co
    have m1 := le a i a1 (by omega) hi
    have m2 := le b j b1 (by omega) hj
    have := i3 a b i j ne a1 y.1 b1 y'.1 hi hj co
    rw [(e1 a y.2.1).1, (e1 b y'.2.1).1]
    omega
end
section
/-! what a task has taken: the class's chain against the reference's numbers (g = rf 8) -/
theorem ps_us_s (f : Nat → Int32) (k : Nat) (x : Int32) : upd f k x k = x := by simp [upd]
theorem ps_us_n (f : Nat → Int32) {k j : Nat} (x : Int32) (h : j ≠ k) : upd f k x j = f j := by simp [upd, h]
def ps_C0 (N : Nat) (bd : cr_S) (g : Nat → Int32) : Prop := ∀ j : Nat, bd 4 j ≠ 0 → 1 ≤ (g j).toInt ∧ (g j).toInt ≤ N
def ps_C1 (bd : cr_S) (g : Nat → Int32) : Prop := ∀ t : Nat, 1 ≤ t → t ≤ 10 → (bd 3 t = 0 ∧ ∀ j, bd 4 j ≠ nI t) ∨ ∃ r, 1 ≤ r ∧ r ≤ 8 ∧ bd 3 t = nI r ∧ bd 4 r = nI t ∧ ∀ j, bd 4 j = nI t → j ≠ r → (g j).toInt < (g r).toInt
def ps_C2 (bd : cr_S) (g : Nat → Int32) : Prop := ∀ r t : Nat, 1 ≤ t → t ≤ 10 → bd 4 r = nI t → (bd 5 r = 0 ∧ ∀ j, bd 4 j = nI t → j ≠ r → (g r).toInt < (g j).toInt) ∨ ∃ p, 1 ≤ p ∧ p ≤ 8 ∧ bd 5 r = nI p ∧ bd 4 p = nI t ∧ (g p).toInt < (g r).toInt ∧ ∀ j, bd 4 j = nI t → j ≠ r → j ≠ p → (g j).toInt < (g p).toInt ∨ (g r).toInt < (g j).toInt
def ps_Ch (N : Nat) (bd : cr_S) (g : Nat → Int32) : Prop := ps_C0 N bd g ∧ ps_C1 bd g ∧ ps_C2 bd g
theorem ps_Ch_mono {N : Nat} {bd : cr_S} {g : Nat → Int32} (h : ps_Ch N bd g) : ps_Ch (N + 1) bd g := by
  refine ⟨fun j hj => ?_, h.2⟩
  have := h.1 j hj
  omega
/-- a chain speaks of the cells 3, 4, 5 alone -/
theorem ps_Ch_cells {N : Nat} {bd bd' : cr_S} {g : Nat → Int32} (h : ps_Ch N bd g) (e3 : bd' 3 = bd 3) (e4 : bd' 4 = bd 4) (e5 : bd' 5 = bd 5) : ps_Ch N bd' g := by
  unfold ps_Ch ps_C0 ps_C1 ps_C2 at h ⊢
  rw [e3, e4, e5]
  exact h
theorem ps_Ch_inj {N : Nat} {bd : cr_S} {g : Nat → Int32} (h : ps_Ch N bd g) {t i j : Nat} (t1 : 1 ≤ t) (t2 : t ≤ 10) (hi : bd 4 i = nI t) (hj : bd 4 j = nI t) (ne : i ≠ j) : (g i).toInt ≠ (g j).toInt := by
  rcases h.2.2 i t t1 t2 hi with ⟨_, w⟩ | ⟨p, p1, p2, p3, p4, p5, p6⟩
  · have := w j hj (fun q => ne q.symm)
    omega
  · by_cases q : j = p
    · rw [q]
      omega
    · have := p6 j hj (fun q => ne q.symm) q
      omega
theorem ps_Ch_give {N : Nat} {bd bd' : cr_S} {g : Nat → Int32} (h : ps_Ch N bd g) {t r : Nat} (t1 : 1 ≤ t) (t2 : t ≤ 10) (r1 : 1 ≤ r) (r2 : r ≤ 8) (e : bd 3 t = nI r) (er : bd 4 r = nI t) (e3 : bd' 3 t = bd 5 r) (e3' : ∀ u, u ≠ t → bd' 3 u = bd 3 u) (e4 : bd' 4 r = 0) (e4' : ∀ j, j ≠ r → bd' 4 j = bd 4 j) (e5' : ∀ j, j ≠ r → bd' 5 j = bd 5 j) : ps_Ch N bd' g := by
  obtain ⟨c0, c1, c2⟩ := h
  have hold : ∀ u j, 1 ≤ u → u ≤ 10 → bd' 4 j = nI u → j ≠ r ∧ bd 4 j = nI u := fun u j x1 x2 x3 => by
    by_cases w : j = r
    · rw [w, e4] at x3
      exact absurd x3.symm (ps_nz x1 (by omega))
    · exact ⟨w, by rw [← e4' j w]; exact x3⟩
  have mx : ∀ j, bd 4 j = nI t → j ≠ r → (g j).toInt < (g r).toInt := by
    rcases c1 t t1 t2 with ⟨z, _⟩ | ⟨r0, a1, a2, a3, a4, a5⟩
    · rw [e] at z
      exact absurd z (ps_nz r1 (by omega))
    · have : r = r0 := ps_inj (e.symm.trans a3) (by omega) (by omega)
      subst this
      exact a5
  refine ⟨fun j hj => ?_, fun u u1 u2 => ?_, fun s u u1 u2 hs => ?_⟩
  · by_cases w : j = r
    · rw [w, e4] at hj
      exact absurd rfl hj
    · rw [e4' j w] at hj
      exact c0 j hj
  · by_cases w : u = t
    · subst w
      rcases c2 r u t1 t2 er with ⟨z, mn⟩ | ⟨p, p1, p2, p3, p4, p5, p6⟩
      · refine Or.inl ⟨e3.trans z, fun j hj => ?_⟩
        obtain ⟨n, o⟩ := hold u j t1 t2 hj
        have x := mn j o n
        have y := mx j o n
        omega
      · have pr : p ≠ r := fun q => by rw [q] at p5; exact absurd p5 (Int.lt_irrefl _)
        refine Or.inr ⟨p, p1, p2, e3.trans p3, (e4' p pr).trans p4, fun j hj ne => ?_⟩
        obtain ⟨n, o⟩ := hold u j t1 t2 hj
        have x := p6 j o n ne
        have y := mx j o n
        omega
    · rcases c1 u u1 u2 with ⟨z, z'⟩ | ⟨r0, a1, a2, a3, a4, a5⟩
      · exact Or.inl ⟨(e3' u w).trans z, fun j hj => z' j (hold u j u1 u2 hj).2⟩
      · have rr : r0 ≠ r := fun q => by
          rw [q, er] at a4
          exact w (ps_inj a4 (by omega) (by omega)).symm
        exact Or.inr ⟨r0, a1, a2, (e3' u w).trans a3, (e4' r0 rr).trans a4, fun j hj ne => a5 j (hold u j u1 u2 hj).2 ne⟩
  · obtain ⟨n, o⟩ := hold u s u1 u2 hs
    rcases c2 s u u1 u2 o with ⟨z, z'⟩ | ⟨p, p1, p2, p3, p4, p5, p6⟩
    · exact Or.inl ⟨(e5' s n).trans z, fun j hj ne => z' j (hold u j u1 u2 hj).2 ne⟩
    · have pr : p ≠ r := fun q => by
        rw [q, er] at p4
        have : t = u := ps_inj p4 (by omega) (by omega)
        subst this
        have y := mx s o n
        rw [q] at p5
        omega
      exact Or.inr ⟨p, p1, p2, (e5' s n).trans p3, (e4' p pr).trans p4, p5, fun j hj n1 n2 => p6 j (hold u j u1 u2 hj).2 n1 n2⟩
theorem ps_Ch_take {N : Nat} {bd bd' : cr_S} {g g' : Nat → Int32} (h : ps_Ch N bd g) {t r : Nat} (t1 : 1 ≤ t) (t2 : t ≤ 10) (r1 : 1 ≤ r) (r2 : r ≤ 8) (h0 : bd 4 r = 0) (e3 : bd' 3 t = nI r) (e3' : ∀ u, u ≠ t → bd' 3 u = bd 3 u) (e4 : bd' 4 r = nI t) (e4' : ∀ j, j ≠ r → bd' 4 j = bd 4 j) (e5 : bd' 5 r = bd 3 t) (e5' : ∀ j, j ≠ r → bd' 5 j = bd 5 j) (eg' : ∀ j, j ≠ r → g' j = g j) (hg : 1 ≤ (g' r).toInt ∧ (g' r).toInt ≤ ((N + 1 : Nat) : Int)) (hm : ∀ j, bd 4 j = nI t → (g j).toInt < (g' r).toInt) : ps_Ch (N + 1) bd' g' := by
  obtain ⟨c0, c1, c2⟩ := h
  have nh : ∀ u j, 1 ≤ u → u ≤ 10 → bd 4 j = nI u → j ≠ r := fun u j x1 x2 x3 q => by
    rw [q, h0] at x3
    exact absurd x3.symm (ps_nz x1 (by omega))
  have hold : ∀ u j, u ≠ t → u ≤ 10 → bd' 4 j = nI u → j ≠ r ∧ bd 4 j = nI u := fun u j x1 x2 x3 => by
    by_cases w : j = r
    · rw [w, e4] at x3
      exact absurd (ps_inj x3 (by omega) (by omega)).symm x1
    · exact ⟨w, by rw [← e4' j w]; exact x3⟩
  have oldt : ∀ u j, j ≠ r → bd' 4 j = nI u → bd 4 j = nI u := fun u j w x3 => by rw [← e4' j w]; exact x3
  refine ⟨fun j hj => ?_, fun u u1 u2 => ?_, fun s u u1 u2 hs => ?_⟩
  · by_cases w : j = r
    · rw [w]
      exact hg
    · rw [e4' j w] at hj
      rw [eg' j w]
      have := c0 j hj
      omega
  · by_cases w : u = t
    · subst w
      refine Or.inr ⟨r, r1, r2, e3, e4, fun j hj ne => ?_⟩
      rw [eg' j ne]
      exact hm j (oldt u j ne hj)
    · rcases c1 u u1 u2 with ⟨z, z'⟩ | ⟨r0, a1, a2, a3, a4, a5⟩
      · exact Or.inl ⟨(e3' u w).trans z, fun j hj => z' j (hold u j w u2 hj).2⟩
      · have rr := nh u r0 u1 u2 a4
        refine Or.inr ⟨r0, a1, a2, (e3' u w).trans a3, (e4' r0 rr).trans a4, fun j hj ne => ?_⟩
        obtain ⟨n, o⟩ := hold u j w u2 hj
        rw [eg' j n, eg' r0 rr]
        exact a5 j o ne
  · by_cases w : s = r
    · subst w
      have ut : t = u := ps_inj (e4.symm.trans hs) (by omega) (by omega)
      subst ut
      rcases c1 t t1 t2 with ⟨z, z'⟩ | ⟨r0, a1, a2, a3, a4, a5⟩
      · exact Or.inl ⟨e5.trans z, fun j hj ne => absurd (oldt t j ne hj) (z' j)⟩
      · have rr := nh t r0 t1 t2 a4
        refine Or.inr ⟨r0, a1, a2, e5.trans a3, (e4' r0 rr).trans a4, ?_, fun j hj n1 n2 => Or.inl ?_⟩
        · rw [eg' r0 rr]
          exact hm r0 a4
        · rw [eg' j n1, eg' r0 rr]
          exact a5 j (oldt t j n1 hj) n2
    · have o := oldt u s w hs
      rcases c2 s u u1 u2 o with ⟨z, z'⟩ | ⟨p, p1, p2, p3, p4, p5, p6⟩
      · refine Or.inl ⟨(e5' s w).trans z, fun j hj ne => ?_⟩
        rw [eg' s w]
        by_cases jr : j = r
        · subst jr
          have ut : t = u := ps_inj (e4.symm.trans hj) (by omega) (by omega)
          subst ut
          exact hm s o
        · rw [eg' j jr]
          exact z' j (oldt u j jr hj) ne
      · have pr := nh u p u1 u2 p4
        refine Or.inr ⟨p, p1, p2, (e5' s w).trans p3, (e4' p pr).trans p4, ?_, fun j hj n1 n2 => ?_⟩
        · rw [eg' p pr, eg' s w]
          exact p5
        · rw [eg' p pr, eg' s w]
          by_cases jr : j = r
          · subst jr
            have ut : t = u := ps_inj (e4.symm.trans hj) (by omega) (by omega)
            subst ut
            exact Or.inr (hm s o)
          · rw [eg' j jr]
            exact p6 j (oldt u j jr hj) n1 n2
/-- the reference's last: the greatest number -/
theorem ps_lstL {rf : cr_S} (lat : Int64) (ln : Nat → Int64) {R t : Nat} (hR : R ≤ 8) (e0 : rf 0 2 = nI R) (inj : ∀ i j, rf 7 i = nI t → rf 7 j = nI t → i ≠ j → (rf 8 i).toInt ≠ (rf 8 j).toInt) : ∀ (d k f : Nat), 1 ≤ k → k ≤ R + 1 → 9 < d + k → ps_best (fun j => rf 7 j = nI t) (fun j => (rf 8 j).toInt) (fun _ => 0) k f → ∃ g, lo_Ref_last_4 rf lat ln (nI t) d (nI f) (nI k) = nI g ∧ ps_best (fun j => rf 7 j = nI t) (fun j => (rf 8 j).toInt) (fun _ => 0) (R + 1) g
  | 0, k, f, _, a, b, _ => absurd b (by omega)
  | d + 1, k, f, h1, hkR, hdk, hb => by
    have kt := ps_nI_t (k := k) (by omega)
    have Rt := ps_nI_t (k := R) (by omega)
    have k0 : (0 : Int32).toInt = 0 := by decide
    have fk := ps_best_b hb h1
    have ft := ps_nI_t (k := f) (by omega)
    have a1 : 1 ≤ k + 1 := by omega
    have a3 : 9 < d + (k + 1) := by omega
    rw [lo_Ref_last_4, e0]
    by_cases e : k = R + 1
    · have lt : nI R < nI k := by rw [pu_lt]; omega
      rw [if_pos lt]
      exact ⟨f, rfl, by rw [← e]; exact hb⟩
    · have nlt : ¬ nI R < nI k := by rw [pu_lt]; omega
      have a2 : k + 1 ≤ R + 1 := by omega
      rw [if_neg nlt, ps_nI_c (k := k) (by omega), ps_nI_c (k := f) (by omega), show nI k + 1 = nI (k + 1) from nI_1 k]
      have ih := fun f' => ps_lstL lat ln hR e0 inj d (k + 1) f' a1 a2 a3
      by_cases c1 : rf 7 k = nI t
      · rw [if_pos c1]
        by_cases z : f = 0
        · have z' : nI f = 0 := by rw [z]; rfl
          rw [if_pos z']
          exact ih k (ps_best_n hb h1 c1 (Or.inl z))
        · have z' : ¬ nI f = 0 := by rw [pu_eq, ft, k0]; omega
          rw [if_neg z']
          have fr := ps_best_r hb z
          have df := inj k f c1 fr.2.2 (by omega)
          by_cases c2 : rf 8 k ≤ rf 8 f
          · rw [if_pos c2]
            have c2' := cr_le c2
            exact ih f (ps_best_k hb z (Or.inl (by show (rf 8 k).toInt < (rf 8 f).toInt; omega)))
          · rw [if_neg c2]
            have c2' := cr_nle c2
            exact ih k (ps_best_n hb h1 c1 (Or.inr (Or.inl (by show (rf 8 f).toInt < (rf 8 k).toInt; omega))))
      · rw [if_neg c1]
        exact ih f (ps_best_s hb c1)
theorem ps_lst {N : Nat} {pl bd rf : cr_S} (lat : Int64) (ln : Nat → Int64) {T R t : Nat} (hT : T ≤ 10) (hR : R ≤ 8) (e0 : rf 0 2 = nI R) (hb : bd 4 = rf 7) (b4 : ps_B4 pl bd T R) (h : ps_Ch N bd (rf 8)) (t1 : 1 ≤ t) (t2 : t ≤ 10) : md_Ref_last rf lat ln (nI t) = bd 3 t := by
  obtain ⟨g, e, hg⟩ := ps_lstL lat ln (t := t) hR e0 (fun i j hi hj ne => ps_Ch_inj h t1 t2 (by rw [hb]; exact hi) (by rw [hb]; exact hj) ne) 9 1 0 (by omega) (by omega) (by omega) (ps_best_1 _ _ _)
  have e' : md_Ref_last rf lat ln (nI t) = nI g := e
  rw [e']
  rcases h.2.1 t t1 t2 with ⟨z, w⟩ | ⟨r0, a1, a2, a3, a4, a5⟩
  · rw [hb] at w
    have y : ps_best (fun j => rf 7 j = nI t) (fun j => (rf 8 j).toInt) (fun _ => 0) (R + 1) 0 := Or.inl ⟨rfl, fun j _ _ => w j⟩
    rw [ps_best_u hg y, z]
    rfl
  · have x := ps_B4h b4 hT t1 t2 a4
    rw [hb] at a4 a5
    have y : ps_best (fun j => rf 7 j = nI t) (fun j => (rf 8 j).toInt) (fun _ => 0) (R + 1) r0 := Or.inr ⟨a1, by omega, a4, fun j _ _ hj ne => Or.inl (a5 j hj ne)⟩
    rw [ps_best_u hg y, a3]
end
section
/-! putting to sleep: at most eight are given back -/
def ps_cnt (f : Nat → Int32) (x : Int32) : Nat → Nat
  | 0 => 0
  | n + 1 => ps_cnt f x n + (if f (n + 1) = x then 1 else 0)
theorem ps_cnt_le (f : Nat → Int32) (x : Int32) : ∀ n : Nat, ps_cnt f x n ≤ n
  | 0 => Nat.le_refl _
  | n + 1 => by
    have ih := ps_cnt_le f x n
    rw [ps_cnt]
    by_cases c : f (n + 1) = x
    · rw [if_pos c]
      omega
    · rw [if_neg c]
      omega
theorem ps_cnt_pos (f : Nat → Int32) (x : Int32) {j : Nat} (h1 : 1 ≤ j) (hj : f j = x) : ∀ n : Nat, j ≤ n → 1 ≤ ps_cnt f x n
  | 0, h => absurd h (by omega)
  | n + 1, h => by
    rw [ps_cnt]
    by_cases c : j = n + 1
    · rw [← c, if_pos hj]
      omega
    · have ih := ps_cnt_pos f x h1 hj n (by omega)
      omega
theorem ps_cnt_same {f f' : Nat → Int32} (x : Int32) : ∀ n : Nat, (∀ j, 1 ≤ j → j ≤ n → f' j = f j) → ps_cnt f' x n = ps_cnt f x n
  | 0, _ => rfl
  | n + 1, h => by
    rw [ps_cnt, ps_cnt, ps_cnt_same x n (fun j a b => h j a (by omega)), h (n + 1) (by omega) (Nat.le_refl _)]
theorem ps_cnt_iff {f f' : Nat → Int32} (x : Int32) : ∀ n : Nat, (∀ j, 1 ≤ j → j ≤ n → (f' j = x ↔ f j = x)) → ps_cnt f' x n = ps_cnt f x n
  | 0, _ => rfl
  | n + 1, h => by
    have e := h (n + 1) (by omega) (Nat.le_refl _)
    rw [ps_cnt, ps_cnt, ps_cnt_iff x n (fun j a b => h j a (by omega))]
    by_cases c : f (n + 1) = x
    · rw [if_pos c, if_pos (e.mpr c)]
    · rw [if_neg c, if_neg (fun q => c (e.mp q))]
theorem ps_cnt_all {f : Nat → Int32} {x : Int32} : ∀ n : Nat, n ≤ ps_cnt f x n → ∀ j, 1 ≤ j → j ≤ n → f j = x
  | 0, _, j, a, b => absurd b (by omega)
  | n + 1, h, j, a, b => by
    rw [ps_cnt] at h
    have le := ps_cnt_le f x n
    by_cases c : f (n + 1) = x
    · rw [if_pos c] at h
      by_cases w : j = n + 1
      · rw [w]
        exact c
      · exact ps_cnt_all n (by omega) j a (by omega)
    · rw [if_neg c] at h
      omega
theorem ps_cnt_full {f : Nat → Int32} {x : Int32} : ∀ n : Nat, (∀ j, 1 ≤ j → j ≤ n → f j = x) → ps_cnt f x n = n
  | 0, _ => rfl
  | n + 1, h => by
    rw [ps_cnt, ps_cnt_full n (fun j a b => h j a (by omega)), if_pos (h (n + 1) (by omega) (Nat.le_refl _))]
theorem ps_cnt_dec {f f' : Nat → Int32} {x : Int32} {r : Nat} (r1 : 1 ≤ r) (hr : f r = x) (hr' : f' r ≠ x) (ho : ∀ j, j ≠ r → f' j = f j) : ∀ n : Nat, r ≤ n → ps_cnt f' x n + 1 = ps_cnt f x n
  | 0, h => absurd h (by omega)
  | n + 1, h => by
    rw [ps_cnt, ps_cnt]
    by_cases c : r = n + 1
    · have s := ps_cnt_same (f := f) (f' := f') x n (fun j _ b => ho j (by omega))
      rw [← c, if_pos hr, if_neg hr', s]
    · have ih := ps_cnt_dec r1 hr hr' ho n (by omega)
      rw [ho (n + 1) (by omega)]
      omega
theorem ps_gbE {bd : cr_S} (pl : cr_S) {t r : Nat} (ht : t ≤ 10) (r1 : 1 ≤ r) (r2 : r ≤ 8) (h : bd 3 t = nI r) : md_Board_giveBackLast pl bd (nI t) = cr_up (cr_up (cr_up bd 3 t (bd 5 r)) 5 r 0) 4 r 0 := by
  unfold md_Board_giveBackLast
  rw [ps_nI_c (k := t) (by omega), h, if_neg (ps_nz r1 (by omega)), ps_nI_c (k := r) (by omega)]
/-- giving back the last one: the cells, the chain, the ranges -/
theorem ps_gb {N : Nat} {bd : cr_S} {g : Nat → Int32} (pl : cr_S) (h : ps_Ch N bd g) (hb : cr_RBoard bd) {t r : Nat} (t1 : 1 ≤ t) (t2 : t ≤ 10) (r1 : 1 ≤ r) (r2 : r ≤ 8) (e : bd 3 t = nI r) (er : bd 4 r = nI t) : ps_Ch N (md_Board_giveBackLast pl bd (nI t)) g ∧ cr_RBoard (md_Board_giveBackLast pl bd (nI t)) ∧ md_Board_giveBackLast pl bd (nI t) 0 = bd 0 ∧ md_Board_giveBackLast pl bd (nI t) 1 = bd 1 ∧ md_Board_giveBackLast pl bd (nI t) 2 = bd 2 ∧ md_Board_giveBackLast pl bd (nI t) 4 = upd (bd 4) r 0 := by
  have z : 0 ≤ (0 : Int32).toInt ∧ (0 : Int32).toInt ≤ 8 := by decide
  rw [ps_gbE pl t2 r1 r2 e]
  have c3 : (cr_up (cr_up (cr_up bd 3 t (bd 5 r)) 5 r 0) 4 r 0) 3 = upd (bd 3) t (bd 5 r) := by simp [cr_up]
  have c4 : (cr_up (cr_up (cr_up bd 3 t (bd 5 r)) 5 r 0) 4 r 0) 4 = upd (bd 4) r 0 := by simp [cr_up]
  have c5 : (cr_up (cr_up (cr_up bd 3 t (bd 5 r)) 5 r 0) 4 r 0) 5 = upd (bd 5) r 0 := by simp [cr_up]
  refine ⟨ps_Ch_give h t1 t2 r1 r2 e er ?_ (fun u hu => ?_) ?_ (fun j hj => ?_) (fun j hj => ?_), ⟨?_, ?_⟩, by simp [cr_up], by simp [cr_up], by simp [cr_up], c4⟩
  · rw [c3, ps_us_s]
  · rw [c3, ps_us_n _ _ hu]
  · rw [c4, ps_us_s]
  · rw [c4, ps_us_n _ _ hj]
  · rw [c5, ps_us_n _ _ hj]
  · exact cr_rg_up (cr_rg_up (cr_rg_up hb.1 (fun _ => hb.2 r)) (fun q => absurd q (by decide))) (fun q => absurd q (by decide))
  · exact cr_rg_up (cr_rg_up (cr_rg_up hb.2 (fun q => absurd q (by decide))) (fun _ => z)) (fun q => absurd q (by decide))
def ps_Sl (bd bd' : cr_S) (t : Nat) : Prop := bd' 0 = bd 0 ∧ bd' 1 = upd (bd 1) t 0 ∧ bd' 2 = bd 2 ∧ ∀ j, bd' 4 j = if bd 4 j = nI t then 0 else bd 4 j
theorem ps_slL {N : Nat} {g : Nat → Int32} (pl : cr_S) {t : Nat} (t1 : 1 ≤ t) (t2 : t ≤ 10) : ∀ (d k : Nat) (bd : cr_S), d + k = 9 → k ≤ 8 → ps_Ch N bd g → cr_RBoard bd → (∀ j, bd 4 j = nI t → 1 ≤ j ∧ j ≤ 8) → ps_cnt (bd 4) (nI t) 8 + k ≤ 8 → ps_Sl bd (lo_Board_putToSleep_2 pl (nI t) d bd (nI k)) t ∧ ps_Ch N (lo_Board_putToSleep_2 pl (nI t) d bd (nI k)) g ∧ cr_RBoard (lo_Board_putToSleep_2 pl (nI t) d bd (nI k))
  | 0, k, bd, a, b, _, _, _, _ => absurd a (by omega)
  | d + 1, k, bd, hdk, hk, hc, hb, hj, hn => by
    have kt := ps_nI_t (k := k) (by omega)
    have k8 : (8 : Int32).toInt = 8 := by decide
    have done : (∀ j, bd 4 j ≠ nI t) → ps_Sl bd (cr_up bd 1 t 0) t ∧ ps_Ch N (cr_up bd 1 t 0) g ∧ cr_RBoard (cr_up bd 1 t 0) := fun no => by
      have q4 : (cr_up bd 1 t 0) 4 = bd 4 := by simp [cr_up]
      refine ⟨⟨by simp [cr_up], by simp [cr_up], by simp [cr_up], fun j => ?_⟩, ps_Ch_cells hc (by simp [cr_up]) q4 (by simp [cr_up]), cr_rg_up hb.1 (fun q => absurd q (by decide)), cr_rg_up hb.2 (fun q => absurd q (by decide))⟩
      rw [q4, if_neg (no j)]
    rw [lo_Board_putToSleep_2, ps_nI_c (k := t) (by omega)]
    by_cases e : k = 8
    · have le : (8 : Int32) ≤ nI k := by rw [pu_le]; omega
      rw [if_pos le]
      refine done (fun j q => ?_)
      have := ps_cnt_pos (bd 4) (nI t) (hj j q).1 q 8 (hj j q).2
      omega
    · have nle : ¬ (8 : Int32) ≤ nI k := by rw [pu_le]; omega
      rw [if_neg nle]
      have n1 : ¬ (1 : Int32) = 0 := by decide
      rcases hc.2.1 t t1 t2 with ⟨z, w⟩ | ⟨r, a1, a2, a3, a4, a5⟩
      · have : md_Board_holdsAny pl bd (nI t) = 0 := by
          unfold md_Board_holdsAny
          rw [ps_nI_c (k := t) (by omega), z, if_pos rfl]
        rw [if_pos this]
        exact done w
      · have : md_Board_holdsAny pl bd (nI t) = 1 := by
          unfold md_Board_holdsAny
          rw [ps_nI_c (k := t) (by omega), a3, if_neg (ps_nz a1 (by omega))]
        rw [this, if_neg n1, show nI k + 1 = nI (k + 1) from nI_1 k]
        obtain ⟨g1, g2, g3, g4, g5, g6⟩ := ps_gb pl hc hb t1 t2 a1 a2 a3 a4
        have dec := ps_cnt_dec (f := bd 4) (f' := md_Board_giveBackLast pl bd (nI t) 4) (x := nI t) a1 a4 (by rw [g6, ps_us_s]; exact fun q => ps_nz t1 (by omega) q.symm) (fun j q => by rw [g6, ps_us_n _ _ q]) 8 a2
        have hj' : ∀ j, md_Board_giveBackLast pl bd (nI t) 4 j = nI t → 1 ≤ j ∧ j ≤ 8 := fun j q => by
          by_cases w : j = r
          · rw [w]
            exact ⟨a1, a2⟩
          · rw [g6, ps_us_n _ _ w] at q
            exact hj j q
        obtain ⟨⟨s0, s1, s2, s4⟩, sc, sb⟩ := ps_slL pl t1 t2 d (k + 1) (md_Board_giveBackLast pl bd (nI t)) (by omega) (by omega) g1 g2 hj' (by omega)
        refine ⟨⟨s0.trans g3, by rw [s1, g4], s2.trans g5, fun j => ?_⟩, sc, sb⟩
        rw [s4 j, g6]
        by_cases w : j = r
        · rw [w, ps_us_s, a4, if_pos rfl]
          exact if_neg (fun q => ps_nz t1 (by omega) q.symm)
        · rw [ps_us_n _ _ w]
theorem ps_sl {N : Nat} {bd : cr_S} {g : Nat → Int32} (pl : cr_S) {t : Nat} (t1 : 1 ≤ t) (t2 : t ≤ 10) (hc : ps_Ch N bd g) (hb : cr_RBoard bd) (hj : ∀ j, bd 4 j = nI t → 1 ≤ j ∧ j ≤ 8) : ps_Sl bd (md_Board_putToSleep pl bd (nI t)) t ∧ ps_Ch N (md_Board_putToSleep pl bd (nI t)) g ∧ cr_RBoard (md_Board_putToSleep pl bd (nI t)) :=
  ps_slL pl t1 t2 9 0 bd (by omega) (by omega) hc hb hj (ps_cnt_le (bd 4) (nI t) 8)
end
section
/-! the steps: the boards of both sides -/
def ps_Pl (pl rf : cr_S) (ln : Nat → Int64) (T R : Nat) : Prop := ps_PN pl rf T R ∧ ps_PL pl ln ∧ ps_PR pl T ∧ ps_PU pl T R ∧ ps_PC pl T ∧ ps_PO pl
theorem ps_Pl_P {pl rf : cr_S} {ln : Nat → Int64} {T R : Nat} (h : ps_Pl pl rf ln T R) : ps_P pl rf ln := ⟨T, R, h⟩
def ps_W (N : Nat) (pl bd rf : cr_S) (T R : Nat) : Prop := bd 1 = rf 3 ∧ bd 2 = rf 4 ∧ bd 0 0 = rf 0 1 ∧ bd 4 = rf 7 ∧ 0 ≤ (bd 0 0).toInt ∧ (bd 0 0).toInt ≤ N ∧ ps_Bd pl bd T R ∧ ps_Ch N bd (rf 8) ∧ cr_RBoard bd
theorem ps_W_mono {N : Nat} {pl bd rf : cr_S} {T R : Nat} (h : ps_W N pl bd rf T R) : ps_W (N + 1) pl bd rf T R := by
  obtain ⟨w1, w2, w3, w4, w5, w6, w7, w8, w9⟩ := h
  exact ⟨w1, w2, w3, w4, w5, by omega, w7, ps_Ch_mono w8, w9⟩
/-- what a step may change of the reference -/
def ps_RF (rf rf' : cr_S) : Prop := (∀ k, k ≠ 0 → k ≠ 3 → k ≠ 4 → k ≠ 5 → k ≠ 7 → k ≠ 8 → rf' k = rf k) ∧ ∀ j, j ≠ 1 → rf' 0 j = rf 0 j
theorem ps_RF_r (rf : cr_S) : ps_RF rf rf := ⟨fun _ _ _ _ _ _ _ => rfl, fun _ _ => rfl⟩
theorem ps_runs {pl bd lk rf : cr_S} {ln : Nat → Int64} {T R : Nat} (hP : ps_Pl pl rf ln T R) (hL : ps_L0 lk rf) (e1 : bd 1 = rf 3) (e2 : bd 2 = rf 4) (e4 : bd 4 = rf 7) (hd : ps_dif bd) {t : Nat} (t1 : 1 ≤ t) (t2 : t ≤ T) (mn : cr_S) (lt : Int64) (tr tb : cr_S) (lat : Int64) : (md_Main_runs mn lt pl bd lk tr tb (nI t) = 0 ∧ md_Ref_runs rf lat ln (nI t) = 0) ∨ (md_Main_runs mn lt pl bd lk tr tb (nI t) = 1 ∧ md_Ref_runs rf lat ln (nI t) = 1 ∧ ps_fs pl bd R (pl 2 t) (T + 1) t) := by
  obtain ⟨⟨a1, a2, a3, a4, a5, a6, a7, a8, a9⟩, hPL, hPR, hPU, hPC, hPO⟩ := id hP
  have n1 : ¬ (1 : Int32) = 0 := by decide
  have A : md_Main_runs mn lt pl bd lk tr tb (nI t) = if md_Locks_spins lk (pl 2 t) = 0 then (if md_Board_firstOn pl bd (pl 2 t) = nI t then 1 else 0) else 0 := by
    unfold md_Main_runs
    rw [ps_nI_c (k := t) (by omega)]
  have B : md_Ref_runs rf lat ln (nI t) = if md_Ref_running rf lat ln (pl 2 t) = nI t then 1 else 0 := by
    unfold md_Ref_runs
    rw [ps_nI_c (k := t) (by omega), a8]
  by_cases s : lk 2 (pl 2 t).toNatClampNeg = 0
  · have S : md_Locks_spins lk (pl 2 t) = 0 := by
      unfold md_Locks_spins
      rw [if_pos s]
    obtain ⟨f, ef, hf⟩ := ps_fst a1 a2 a3 a5 (pl 2 t) (fun u x y => (hPR u x y).1) hd
    obtain ⟨g, eg, hg⟩ := ps_runL lat ln a1 a4 (pl 2 t) (by rw [← hL.2.1]; exact s) (fun u => ps_rn pl (bd 4) u R) (fun u u1 u2 _ => by
        have b := ps_rn20 a2 hPR hPC (bd 4) u1 u2
        refine ⟨?_, by omega, b.2⟩
        rw [← ps_rankNow (ps_Pl_P hP) e4 lat (nI u)]
        exact ps_rnM bd a2 a5 (by omega)) (fun x y _ _ _ _ hx hy ne => by
        rw [← e2]
        exact hd x y (by rw [e1]; exact hx) (by rw [e1]; exact hy) ne) 11 1 0 (by omega) (by omega) (by omega) (ps_best_1 _ _ _)
    have eg' : md_Ref_running rf lat ln (pl 2 t) = nI g := eg
    have hg' : ps_fs pl bd R (pl 2 t) (T + 1) g := by
      refine ps_best_c (fun u _ _ => ?_) (fun u _ _ _ => rfl) (fun u _ _ _ => ?_) hg
      · unfold ps_rd
        rw [a8, e1]
      · show (rf 4 u).toInt = (bd 2 u).toInt
        rw [e2]
    have fg : f = g := ps_best_u hf hg'
    subst fg
    have fT := ps_best_b hf (by omega)
    rw [A, B, S, if_pos rfl, ef, eg']
    by_cases c : f = t
    · subst c
      exact Or.inr ⟨if_pos rfl, if_pos rfl, hf⟩
    · have n : ¬ nI f = nI t := fun q => c (ps_inj q (by omega) (by omega))
      exact Or.inl ⟨if_neg n, if_neg n⟩
  · have S : md_Locks_spins lk (pl 2 t) = 1 := by
      unfold md_Locks_spins
      rw [if_neg s]
    have G : md_Ref_running rf lat ln (pl 2 t) = 0 := by
      unfold md_Ref_running
      rw [lo_Ref_running_4, a4]
      have Tt := ps_nI_t (k := T) (by omega)
      have k1 : (1 : Int32).toInt = 1 := by decide
      rw [if_neg (show ¬ nI T < 1 by rw [pu_lt]; omega), if_neg (show ¬ rf 11 (pl 2 t).toNatClampNeg = 0 by rw [← hL.2.1]; exact s)]
    rw [A, B, S, G, if_neg n1]
    exact Or.inl ⟨rfl, if_neg (fun q => ps_nz t1 (by omega) q.symm)⟩
theorem ps_mrE (pl bd : cr_S) {t : Nat} (ht : t ≤ 10) : md_Board_makeReady pl bd (nI t) = cr_up (cr_up (cr_up bd 1 t 1) 0 0 (bd 0 0 + 1)) 2 t (bd 0 0 + 1) := by
  unfold md_Board_makeReady
  rw [ps_nI_c (k := t) (by omega), pu_up_same, pu_up_cell bd t 1 (show (0 : Nat) ≠ 1 by decide)]
theorem ps_rdE (rf : cr_S) (lat : Int64) (ln : Nat → Int64) {t : Nat} (ht : t ≤ 10) : md_Ref_ready rf lat ln (nI t) = cr_up (cr_up (cr_up rf 3 t 1) 0 1 (rf 0 1 + 1)) 4 t (rf 0 1 + 1) := by
  unfold md_Ref_ready
  rw [ps_nI_c (k := t) (by omega), pu_up_same, pu_up_cell rf t 1 (show (0 : Nat) ≠ 3 by decide)]
/-- a task becomes ready on the class's board -/
theorem ps_mr {pl bd : cr_S} {T R t : Nat} (h : ps_Bd pl bd T R) (hT : T ≤ 10) (h0 : 0 ≤ (bd 0 0).toInt) (h1 : (bd 0 0).toInt ≤ 90000) (t1 : 1 ≤ t) (t2 : t ≤ T) (hx : bd 1 t ≠ 1) : ps_Bd pl (md_Board_makeReady pl bd (nI t)) T R ∧ md_Board_makeReady pl bd (nI t) 0 0 = bd 0 0 + 1 ∧ (bd 0 0 + 1).toInt = (bd 0 0).toInt + 1 ∧ md_Board_makeReady pl bd (nI t) 1 = upd (bd 1) t 1 ∧ md_Board_makeReady pl bd (nI t) 2 = upd (bd 2) t (bd 0 0 + 1) ∧ md_Board_makeReady pl bd (nI t) 3 = bd 3 ∧ md_Board_makeReady pl bd (nI t) 4 = bd 4 ∧ md_Board_makeReady pl bd (nI t) 5 = bd 5 := by
  have ad : (bd 0 0 + 1).toInt = (bd 0 0).toInt + 1 := ps_add1 (N := 90000) h0 h1 (by omega)
  rw [ps_mrE pl bd (by omega)]
  have c0 : (cr_up (cr_up (cr_up bd 1 t 1) 0 0 (bd 0 0 + 1)) 2 t (bd 0 0 + 1)) 0 0 = bd 0 0 + 1 := by simp [cr_up, upd]
  have c1 : (cr_up (cr_up (cr_up bd 1 t 1) 0 0 (bd 0 0 + 1)) 2 t (bd 0 0 + 1)) 1 = upd (bd 1) t 1 := by simp [cr_up]
  have c2 : (cr_up (cr_up (cr_up bd 1 t 1) 0 0 (bd 0 0 + 1)) 2 t (bd 0 0 + 1)) 2 = upd (bd 2) t (bd 0 0 + 1) := by simp [cr_up]
  have c4 : (cr_up (cr_up (cr_up bd 1 t 1) 0 0 (bd 0 0 + 1)) 2 t (bd 0 0 + 1)) 4 = bd 4 := by simp [cr_up]
  refine ⟨ps_Bd_ready h hT t1 t2 hx h0 (by rw [c0]; exact ad) (by rw [c1, ps_us_s]) (fun u hu => by rw [c1, ps_us_n _ _ hu]) (by rw [c2, ps_us_s, c0]) (fun u hu => by rw [c2, ps_us_n _ _ hu]) c4, c0, ad, c1, c2, by simp [cr_up], c4, by simp [cr_up]⟩
theorem ps_W_ready {N : Nat} {pl bd rf : cr_S} {T R t : Nat} (h : ps_W N pl bd rf T R) (hT : T ≤ 10) (hN : N < 512) (t1 : 1 ≤ t) (t2 : t ≤ T) (hx : bd 1 t ≠ 1) (lat : Int64) (ln : Nat → Int64) : ps_W (N + 1) pl (md_Board_makeReady pl bd (nI t)) (md_Ref_ready rf lat ln (nI t)) T R ∧ ps_RF rf (md_Ref_ready rf lat ln (nI t)) ∧ md_Ref_ready rf lat ln (nI t) 5 = rf 5 := by
  obtain ⟨w1, w2, w3, w4, w5, w6, w7, w8, w9⟩ := h
  obtain ⟨m1, m2, m3, m4, m5, m6, m7, m8⟩ := ps_mr w7 hT w5 (by omega) t1 t2 hx
  have r9 : cr_RBoard (md_Board_makeReady pl bd (nI t)) := by
    unfold cr_RBoard cr_rg
    rw [m6, m8]
    exact w9
  have ch := ps_Ch_cells w8 m6 m7 m8
  rw [ps_rdE rf lat ln (by omega)]
  refine ⟨⟨?_, ?_, ?_, ?_, ?_, ?_, m1, ?_, r9⟩, ⟨fun k k0 k3 k4 k5 k7 k8 => ?_, fun j hj => ?_⟩, by simp [cr_up]⟩
  · rw [m4, w1]
    simp [cr_up]
  · rw [m5, w2, w3]
    simp [cr_up]
  · rw [m2, w3]
    simp [cr_up, upd]
  · rw [m7, w4]
    simp [cr_up]
  · rw [m2]
    omega
  · rw [m2]
    omega
  · have e8 : (cr_up (cr_up (cr_up rf 3 t 1) 0 1 (rf 0 1 + 1)) 4 t (rf 0 1 + 1)) 8 = rf 8 := by simp [cr_up]
    rw [e8]
    exact ps_Ch_mono ch
  · simp [cr_up, k0, k3, k4]
  · simp [cr_up, upd, hj]
theorem ps_tkE (pl bd : cr_S) {t r : Nat} (ht : t ≤ 10) (hr : r ≤ 8) : md_Board_take pl bd (nI t) (nI r) = cr_up (cr_up (cr_up bd 4 r (nI t)) 5 r (bd 3 t)) 3 t (nI r) := by
  unfold md_Board_take
  rw [ps_nI_c (k := t) (by omega), ps_nI_c (k := r) (by omega), pu_up_cell bd r (nI t) (show (3 : Nat) ≠ 4 by decide)]
/-- a task takes a free resource on the class's board -/
theorem ps_tk {pl bd : cr_S} {T R t r : Nat} (h : ps_Bd pl bd T R) (hb : cr_RBoard bd) (hT : T ≤ 10) (hR : R ≤ 8) (hf : ps_fs pl bd R (pl 2 t) (T + 1) t) (t1 : 1 ≤ t) (t2 : t ≤ T) (r1 : 1 ≤ r) (r2 : r ≤ R) (hu : ps_us pl t r) (h0 : bd 4 r = 0) : ps_Bd pl (md_Board_take pl bd (nI t) (nI r)) T R ∧ cr_RBoard (md_Board_take pl bd (nI t) (nI r)) ∧ md_Board_take pl bd (nI t) (nI r) 0 = bd 0 ∧ md_Board_take pl bd (nI t) (nI r) 1 = bd 1 ∧ md_Board_take pl bd (nI t) (nI r) 2 = bd 2 ∧ md_Board_take pl bd (nI t) (nI r) 3 = upd (bd 3) t (nI r) ∧ md_Board_take pl bd (nI t) (nI r) 4 = upd (bd 4) r (nI t) ∧ md_Board_take pl bd (nI t) (nI r) 5 = upd (bd 5) r (bd 3 t) := by
  have rt := ps_nI_t (k := r) (by omega)
  rw [ps_tkE pl bd (by omega) (by omega)]
  have c0 : (cr_up (cr_up (cr_up bd 4 r (nI t)) 5 r (bd 3 t)) 3 t (nI r)) 0 = bd 0 := by simp [cr_up]
  have c1 : (cr_up (cr_up (cr_up bd 4 r (nI t)) 5 r (bd 3 t)) 3 t (nI r)) 1 = bd 1 := by simp [cr_up]
  have c2 : (cr_up (cr_up (cr_up bd 4 r (nI t)) 5 r (bd 3 t)) 3 t (nI r)) 2 = bd 2 := by simp [cr_up]
  have c4 : (cr_up (cr_up (cr_up bd 4 r (nI t)) 5 r (bd 3 t)) 3 t (nI r)) 4 = upd (bd 4) r (nI t) := by simp [cr_up]
  refine ⟨ps_Bd_take h hT hf t1 r1 r2 hu h0 (by rw [c0]) c1 c2 (by rw [c4, ps_us_s]) (fun j hj => by rw [c4, ps_us_n _ _ hj]), ⟨?_, ?_⟩, c0, c1, c2, by simp [cr_up], c4, by simp [cr_up]⟩
  · exact cr_rg_up (cr_rg_up (cr_rg_up hb.1 (fun q => absurd q (by decide))) (fun q => absurd q (by decide))) (fun _ => by omega)
  · exact cr_rg_up (cr_rg_up (cr_rg_up hb.2 (fun q => absurd q (by decide))) (fun _ => hb.1 t)) (fun q => absurd q (by decide))
theorem ps_W_take {N : Nat} {pl bd rf : cr_S} {ln : Nat → Int64} {T R t r : Nat} (h : ps_W N pl bd rf T R) (hP : ps_Pl pl rf ln T R) (hN : N < 512) (hf : ps_fs pl bd R (pl 2 t) (T + 1) t) (t1 : 1 ≤ t) (t2 : t ≤ T) (r1 : 1 ≤ r) (r2 : r ≤ R) (hu : ps_us pl t r) (h0 : bd 4 r = 0) (x : Int32) (hx : (bd 3 t = 0 ∧ x = 1) ∨ (bd 3 t ≠ 0 ∧ x = rf 8 (bd 3 t).toNatClampNeg + 1)) : ps_W (N + 1) pl (md_Board_take pl bd (nI t) (nI r)) (cr_up (cr_up rf 7 r (nI t)) 8 r x) T R ∧ ps_RF rf (cr_up (cr_up rf 7 r (nI t)) 8 r x) ∧ (cr_up (cr_up rf 7 r (nI t)) 8 r x) 5 = rf 5 := by
  obtain ⟨w1, w2, w3, w4, w5, w6, w7, w8, w9⟩ := h
  obtain ⟨a1, a2, -⟩ := hP.1
  obtain ⟨m1, m2, m3, m4, m5, m6, m7, m8⟩ := ps_tk w7 w9 a1 a2 hf t1 t2 r1 r2 hu h0
  have c8 : (cr_up (cr_up rf 7 r (nI t)) 8 r x) 8 = upd (rf 8) r x := by simp [cr_up]
  have k1 : (1 : Int32).toInt = 1 := by decide
  have xs : 1 ≤ x.toInt ∧ x.toInt ≤ ((N + 1 : Nat) : Int) ∧ ∀ j, bd 4 j = nI t → (rf 8 j).toInt < x.toInt := by
    rcases w8.2.1 t t1 (by omega) with ⟨z, w⟩ | ⟨r0, b1, b2, b3, b4, b5⟩
    · rcases hx with ⟨_, q⟩ | ⟨q, _⟩
      · rw [q]
        exact ⟨by omega, by omega, fun j hj => absurd hj (w j)⟩
      · exact absurd z q
    · rcases hx with ⟨q, _⟩ | ⟨_, q⟩
      · rw [b3] at q
        exact absurd q (ps_nz b1 (by omega))
      · rw [b3, ps_nI_c (k := r0) (by omega)] at q
        have n := w8.1 r0 (by rw [b4]; exact ps_nz t1 (by omega))
        have ad : (rf 8 r0 + 1).toInt = (rf 8 r0).toInt + 1 := ps_add1 (N := N) (by omega) n.2 (by omega)
        rw [q, ad]
        refine ⟨by omega, by omega, fun j hj => ?_⟩
        by_cases jr : j = r0
        · rw [jr]
          omega
        · have := b5 j hj jr
          omega
  have ch : ps_Ch (N + 1) (md_Board_take pl bd (nI t) (nI r)) ((cr_up (cr_up rf 7 r (nI t)) 8 r x) 8) := by
    rw [c8]
    refine ps_Ch_take w8 t1 (by omega) r1 (by omega) h0 (by rw [m6, ps_us_s]) (fun u hu => by rw [m6, ps_us_n _ _ hu]) (by rw [m7, ps_us_s]) (fun j hj => by rw [m7, ps_us_n _ _ hj]) (by rw [m8, ps_us_s]) (fun j hj => by rw [m8, ps_us_n _ _ hj]) (fun j hj => ps_us_n _ _ hj) ?_ ?_
    · rw [ps_us_s]
      exact ⟨xs.1, xs.2.1⟩
    · rw [ps_us_s]
      exact xs.2.2
  refine ⟨⟨?_, ?_, ?_, ?_, ?_, ?_, m1, ch, m2⟩, ⟨fun k k0 k3 k4 k5 k7 k8 => ?_, fun j hj => ?_⟩, by simp [cr_up]⟩
  · rw [m4, w1]
    simp [cr_up]
  · rw [m5, w2]
    simp [cr_up]
  · rw [m3, w3]
    simp [cr_up]
  · rw [m7, w4]
    simp [cr_up]
  · rw [m3]
    exact w5
  · rw [m3]
    omega
  · simp [cr_up, k7, k8]
  · simp [cr_up]
theorem ps_W_give {N : Nat} {pl bd rf : cr_S} {ln : Nat → Int64} {T R t r : Nat} (h : ps_W N pl bd rf T R) (hP : ps_Pl pl rf ln T R) (t1 : 1 ≤ t) (t2 : t ≤ T) (r1 : 1 ≤ r) (r2 : r ≤ 8) (e : bd 3 t = nI r) : ps_W (N + 1) pl (md_Board_giveBackLast pl bd (nI t)) (cr_up rf 7 r 0) T R ∧ ps_RF rf (cr_up rf 7 r 0) ∧ (cr_up rf 7 r 0) 5 = rf 5 := by
  obtain ⟨w1, w2, w3, w4, w5, w6, w7, w8, w9⟩ := h
  obtain ⟨a1, a2, -⟩ := hP.1
  have er : bd 4 r = nI t := by
    rcases w8.2.1 t t1 (by omega) with ⟨z, w⟩ | ⟨r0, b1, b2, b3, b4, b5⟩
    · rw [e] at z
      exact absurd z (ps_nz r1 (by omega))
    · rw [ps_inj (e.symm.trans b3) (by omega) (by omega)]
      exact b4
  obtain ⟨g1, g2, g3, g4, g5, g6⟩ := ps_gb pl w8 w9 t1 (by omega) r1 r2 e er
  have nb : ps_Bd pl (md_Board_giveBackLast pl bd (nI t)) T R := by
    refine ps_Bd_drop w7 a1 (by rw [g3]) g5 (fun j => ?_) (fun u => Or.inl (by rw [g4]))
    rw [g6]
    by_cases w : j = r
    · rw [w, ps_us_s]
      exact Or.inr rfl
    · rw [ps_us_n _ _ w]
      exact Or.inl rfl
  have c8 : (cr_up rf 7 r 0) 8 = rf 8 := by simp [cr_up]
  refine ⟨⟨?_, ?_, ?_, ?_, ?_, ?_, nb, by rw [c8]; exact ps_Ch_mono g1, g2⟩, ⟨fun k k0 k3 k4 k5 k7 k8 => ?_, fun j hj => ?_⟩, by simp [cr_up]⟩
  · rw [g4, w1]
    simp [cr_up]
  · rw [g5, w2]
    simp [cr_up]
  · rw [g3, w3]
    simp [cr_up]
  · rw [g6, w4]
    simp [cr_up]
  · rw [g3]
    exact w5
  · rw [g3]
    omega
  · simp [cr_up, k7]
  · simp [cr_up]
/-- the reference's sweep over what a task holds -/
theorem ps_swL (lat : Int64) (ln : Nat → Int64) {t R : Nat} (hR : R ≤ 8) (x2 x3 w4 : Int32) : ∀ (d k : Nat) (rf : cr_S), rf 0 2 = nI R → 1 ≤ k → k ≤ R + 1 → 9 < d + k → (lo_Ref_acts_241 lat ln (nI t) x2 x3 w4 d rf (nI k)).1 = (if w4 ≤ 0 then 1 else -14) ∧ (∀ c, c ≠ 7 → (lo_Ref_acts_241 lat ln (nI t) x2 x3 w4 d rf (nI k)).2 c = rf c) ∧ ∀ j, (lo_Ref_acts_241 lat ln (nI t) x2 x3 w4 d rf (nI k)).2 7 j = if k ≤ j ∧ j ≤ R ∧ rf 7 j = nI t then 0 else rf 7 j
  | 0, k, rf, _, _, a, b => absurd b (by omega)
  | d + 1, k, rf, e0, h1, hk, hd => by
    have kt := ps_nI_t (k := k) (by omega)
    have Rt := ps_nI_t (k := R) (by omega)
    rw [lo_Ref_acts_241, e0]
    by_cases e : k = R + 1
    · have lt : nI R < nI k := by rw [pu_lt]; omega
      rw [if_pos lt]
      have no : ∀ j, ¬ (k ≤ j ∧ j ≤ R ∧ rf 7 j = nI t) := fun j q => absurd q.1 (by omega)
      by_cases c : w4 ≤ 0
      · rw [if_pos c, if_pos c]
        exact ⟨rfl, fun _ _ => rfl, fun j => (if_neg (no j)).symm⟩
      · rw [if_neg c, if_neg c]
        exact ⟨rfl, fun _ _ => rfl, fun j => (if_neg (no j)).symm⟩
    · have nlt : ¬ nI R < nI k := by rw [pu_lt]; omega
      rw [if_neg nlt, ps_nI_c (k := k) (by omega), show nI k + 1 = nI (k + 1) from nI_1 k]
      have a1 : 1 ≤ k + 1 := by omega
      have a2 : k + 1 ≤ R + 1 := by omega
      have a3 : 9 < d + (k + 1) := by omega
      have ih := fun (v : Int32) => ps_swL lat ln (t := t) hR x2 x3 w4 d (k + 1) (cr_up rf 7 k v) (by rw [← e0]; simp [cr_up]) a1 a2 a3
      have fin : ∀ v : Int32, v = (if rf 7 k = nI t then 0 else rf 7 k) → (lo_Ref_acts_241 lat ln (nI t) x2 x3 w4 d (cr_up rf 7 k v) (nI (k + 1))).1 = (if w4 ≤ 0 then 1 else -14) ∧ (∀ c, c ≠ 7 → (lo_Ref_acts_241 lat ln (nI t) x2 x3 w4 d (cr_up rf 7 k v) (nI (k + 1))).2 c = rf c) ∧ ∀ j, (lo_Ref_acts_241 lat ln (nI t) x2 x3 w4 d (cr_up rf 7 k v) (nI (k + 1))).2 7 j = if k ≤ j ∧ j ≤ R ∧ rf 7 j = nI t then 0 else rf 7 j := fun v hv => by
        obtain ⟨i1, i2, i3⟩ := ih v
        refine ⟨i1, fun c hc => ?_, fun j => ?_⟩
        · rw [i2 c hc, pu_up_cell rf k v hc]
        · rw [i3 j, pu_up_fn]
          by_cases w : j = k
          · subst w
            rw [ps_us_s, if_neg (show ¬ (j + 1 ≤ j ∧ j ≤ R ∧ v = nI t) from fun q => absurd q.1 (by omega)), hv]
            by_cases c : rf 7 j = nI t
            · rw [if_pos c, if_pos (show j ≤ j ∧ j ≤ R ∧ rf 7 j = nI t from ⟨Nat.le_refl _, by omega, c⟩)]
            · rw [if_neg c, if_neg (show ¬ (j ≤ j ∧ j ≤ R ∧ rf 7 j = nI t) from fun q => c q.2.2)]
          · rw [ps_us_n _ _ w]
            by_cases c : k ≤ j ∧ j ≤ R ∧ rf 7 j = nI t
            · rw [if_pos c, if_pos (show k + 1 ≤ j ∧ j ≤ R ∧ rf 7 j = nI t from ⟨by omega, c.2⟩)]
            · rw [if_neg c, if_neg (show ¬ (k + 1 ≤ j ∧ j ≤ R ∧ rf 7 j = nI t) from fun q => c ⟨by omega, q.2⟩)]
      by_cases c : rf 7 k = nI t
      · rw [if_pos c]
        exact fin 0 (by rw [if_pos c])
      · rw [if_neg c]
        exact fin (rf 7 k) (by rw [if_neg c])
end
section
/-! a step's deed -/
theorem ps_W_end {N : Nat} {pl bd rf : cr_S} {ln : Nat → Int64} {T R t : Nat} (h : ps_W N pl bd rf T R) (hP : ps_Pl pl rf ln T R) (t1 : 1 ≤ t) (t2 : t ≤ T) (lat : Int64) (x2 x3 w4 : Int32) : (lo_Ref_acts_241 lat ln (nI t) x2 x3 w4 9 (cr_up (cr_up rf 3 t 0) 5 t 0) 1).1 = (if w4 ≤ 0 then 1 else -14) ∧ ps_W (N + 1) pl (md_Board_putToSleep pl bd (nI t)) (lo_Ref_acts_241 lat ln (nI t) x2 x3 w4 9 (cr_up (cr_up rf 3 t 0) 5 t 0) 1).2 T R ∧ ps_RF rf (lo_Ref_acts_241 lat ln (nI t) x2 x3 w4 9 (cr_up (cr_up rf 3 t 0) 5 t 0) 1).2 ∧ (lo_Ref_acts_241 lat ln (nI t) x2 x3 w4 9 (cr_up (cr_up rf 3 t 0) 5 t 0) 1).2 5 = upd (rf 5) t 0 := by
  obtain ⟨w1, w2, w3, w4', w5, w6, w7, w8, w9⟩ := h
  obtain ⟨a1, a2, a3, a4, a5, a6, -⟩ := hP.1
  have e02 : (cr_up (cr_up rf 3 t 0) 5 t 0) 0 2 = nI R := by rw [← a6]; simp [cr_up]
  obtain ⟨s1, s2, s3⟩ := ps_swL lat ln (t := t) a2 x2 x3 w4 9 1 (cr_up (cr_up rf 3 t 0) 5 t 0) e02 (by omega) (by omega) (by omega)
  have s1' : (lo_Ref_acts_241 lat ln (nI t) x2 x3 w4 9 (cr_up (cr_up rf 3 t 0) 5 t 0) 1).1 = (if w4 ≤ 0 then 1 else -14) := s1
  have s2' : ∀ c, c ≠ 7 → (lo_Ref_acts_241 lat ln (nI t) x2 x3 w4 9 (cr_up (cr_up rf 3 t 0) 5 t 0) 1).2 c = (cr_up (cr_up rf 3 t 0) 5 t 0) c := s2
  have s3' : ∀ j, (lo_Ref_acts_241 lat ln (nI t) x2 x3 w4 9 (cr_up (cr_up rf 3 t 0) 5 t 0) 1).2 7 j = if 1 ≤ j ∧ j ≤ R ∧ (cr_up (cr_up rf 3 t 0) 5 t 0) 7 j = nI t then 0 else (cr_up (cr_up rf 3 t 0) 5 t 0) 7 j := s3
  clear s1 s2 s3
  generalize lo_Ref_acts_241 lat ln (nI t) x2 x3 w4 9 (cr_up (cr_up rf 3 t 0) 5 t 0) 1 = z at s1' s2' s3' ⊢
  have e7 : (cr_up (cr_up rf 3 t 0) 5 t 0) 7 = rf 7 := by simp [cr_up]
  rw [e7] at s3'
  obtain ⟨⟨p0, p1, p2, p4⟩, pc, pb⟩ := ps_sl pl t1 (by omega) w8 w9 (fun j hj => by
    have := ps_B4h w7.2.2.2.1 a1 t1 (by omega) hj
    omega)
  have nb : ps_Bd pl (md_Board_putToSleep pl bd (nI t)) T R := by
    refine ps_Bd_drop w7 a1 (by rw [p0]) p2 (fun j => ?_) (fun u => ?_)
    · rw [p4 j]
      by_cases c : bd 4 j = nI t
      · rw [if_pos c]
        exact Or.inr rfl
      · rw [if_neg c]
        exact Or.inl rfl
    · rw [p1]
      by_cases c : u = t
      · rw [c, ps_us_s]
        refine Or.inr ⟨Or.inl rfl, fun j => ?_⟩
        rw [p4 j]
        by_cases c : bd 4 j = nI t
        · rw [if_pos c]
          exact fun q => ps_nz t1 (by omega) q.symm
        · rw [if_neg c]
          exact c
      · rw [ps_us_n _ _ c]
        exact Or.inl rfl
  refine ⟨s1', ⟨?_, ?_, ?_, ?_, ?_, ?_, nb, ?_, pb⟩, ⟨fun k k0 k3 k4 k5 k7 k8 => ?_, fun j hj => ?_⟩, ?_⟩
  · rw [p1, w1, s2' 3 (by decide)]
    simp [cr_up]
  · rw [p2, w2, s2' 4 (by decide)]
    simp [cr_up]
  · rw [p0, w3, s2' 0 (by decide)]
    simp [cr_up]
  · funext j
    rw [p4 j, s3' j, ← w4']
    by_cases c : bd 4 j = nI t
    · have := ps_B4h w7.2.2.2.1 a1 t1 (by omega) c
      rw [if_pos c, if_pos (show 1 ≤ j ∧ j ≤ R ∧ bd 4 j = nI t from ⟨this.2.2.1, this.2.2.2.1, c⟩)]
    · rw [if_neg c, if_neg (show ¬ (1 ≤ j ∧ j ≤ R ∧ bd 4 j = nI t) from fun q => c q.2.2)]
  · rw [p0]
    exact w5
  · rw [p0]
    omega
  · rw [s2' 8 (by decide)]
    have e8 : (cr_up (cr_up rf 3 t 0) 5 t 0) 8 = rf 8 := by simp [cr_up]
    rw [e8]
    exact ps_Ch_mono pc
  · rw [s2' k k7]
    simp [cr_up, k3, k5]
  · rw [s2' 0 (by decide)]
    simp [cr_up]
  · rw [s2' 5 (by decide)]
    simp [cr_up]
/-- both sides of a deed: the answers, the boards, the events -/
def ps_D (N : Nat) (pl rf : cr_S) (T R : Nat) (lt : Int64) (A : Int32 × cr_S × Int64 × cr_S) (B : Int32 × cr_S) : Prop := A.1 = B.1 ∧ ps_W (N + 1) pl A.2.2.2 B.2 T R ∧ A.2.1 1 = B.2 5 ∧ ps_RF rf B.2 ∧ A.2.2.1 = lt
theorem ps_D_same {N : Nat} {pl bd rf mn : cr_S} {T R : Nat} (h : ps_W N pl bd rf T R) (hm : mn 1 = rf 5) (lt : Int64) (x : Int32) : ps_D N pl rf T R lt (x, mn, lt, bd) (x, rf) :=
  ⟨rfl, ps_W_mono h, hm, ps_RF_r rf, rfl⟩
theorem ps_W_wait {N : Nat} {pl bd rf : cr_S} {T R t : Nat} (h : ps_W N pl bd rf T R) (hT : T ≤ 10) (t1 : 1 ≤ t) (t2 : t ≤ T) (h0 : bd 3 t = 0) : ps_W (N + 1) pl (cr_up bd 1 t 2) (cr_up rf 3 t 2) T R ∧ ps_RF rf (cr_up rf 3 t 2) ∧ (cr_up rf 3 t 2) 5 = rf 5 := by
  obtain ⟨w1, w2, w3, w4, w5, w6, w7, w8, w9⟩ := h
  have no : ∀ j, bd 4 j ≠ nI t := by
    rcases w8.2.1 t t1 (by omega) with ⟨z, w⟩ | ⟨r0, b1, b2, b3, b4, b5⟩
    · exact w
    · rw [b3] at h0
      exact absurd h0 (ps_nz b1 (by omega))
  have c1 : (cr_up bd 1 t 2) 1 = upd (bd 1) t 2 := by simp [cr_up]
  have c4 : (cr_up bd 1 t 2) 4 = bd 4 := by simp [cr_up]
  have nb : ps_Bd pl (cr_up bd 1 t 2) T R := by
    refine ps_Bd_drop w7 hT (by simp [cr_up]) (by simp [cr_up]) (fun j => Or.inl (by rw [c4])) (fun u => ?_)
    rw [c1, c4]
    by_cases c : u = t
    · rw [c, ps_us_s]
      exact Or.inr ⟨Or.inr ⟨rfl, t1, t2⟩, no⟩
    · rw [ps_us_n _ _ c]
      exact Or.inl rfl
  have c8 : (cr_up rf 3 t 2) 8 = rf 8 := by simp [cr_up]
  refine ⟨⟨?_, ?_, ?_, ?_, ?_, ?_, nb, ?_, ?_⟩, ⟨fun k k0 k3 k4 k5 k7 k8 => ?_, fun j hj => ?_⟩, by simp [cr_up]⟩
  · rw [c1, w1]
    simp [cr_up]
  · rw [pu_up_cell bd t 2 (show (2 : Nat) ≠ 1 by decide), w2]
    simp [cr_up]
  · rw [pu_up_cell bd t 2 (show (0 : Nat) ≠ 1 by decide), w3]
    simp [cr_up]
  · rw [c4, w4]
    simp [cr_up]
  · rw [pu_up_cell bd t 2 (show (0 : Nat) ≠ 1 by decide)]
    exact w5
  · rw [pu_up_cell bd t 2 (show (0 : Nat) ≠ 1 by decide)]
    omega
  · rw [c8]
    exact ps_Ch_mono (ps_Ch_cells w8 (by simp [cr_up]) c4 (by simp [cr_up]))
  · exact ⟨cr_rg_up w9.1 (fun q => absurd q (by decide)), cr_rg_up w9.2 (fun q => absurd q (by decide))⟩
  · simp [cr_up, k3]
  · simp [cr_up]
/-- only the events change -/
theorem ps_W_ev {N : Nat} {pl bd rf : cr_S} {T R : Nat} (h : ps_W N pl bd rf T R) (t : Nat) (x : Int32) : ps_W (N + 1) pl bd (cr_up rf 5 t x) T R ∧ ps_RF rf (cr_up rf 5 t x) := by
  obtain ⟨w1, w2, w3, w4, w5, w6, w7, w8, w9⟩ := h
  have c8 : (cr_up rf 5 t x) 8 = rf 8 := by simp [cr_up]
  refine ⟨⟨?_, ?_, ?_, ?_, w5, by omega, w7, by rw [c8]; exact ps_Ch_mono w8, w9⟩, ⟨fun k k0 k3 k4 k5 k7 k8 => ?_, fun j hj => ?_⟩⟩
  · rw [w1]
    simp [cr_up]
  · rw [w2]
    simp [cr_up]
  · rw [w3]
    simp [cr_up]
  · rw [w4]
    simp [cr_up]
  · simp [cr_up, k5]
  · simp [cr_up]
theorem ps_Pl_F {pl rf rf' : cr_S} {ln : Nat → Int64} {T R : Nat} (h : ps_Pl pl rf ln T R) (e0 : rf' 0 0 = rf 0 0) (e2 : rf' 0 2 = rf 0 2) (c1 : rf' 1 = rf 1) (c2 : rf' 2 = rf 2) : ps_Pl pl rf' ln T R := by
  obtain ⟨⟨a1, a2, a3, a4, a5, a6, a7, a8, a9⟩, hrest⟩ := h
  exact ⟨⟨a1, a2, a3, e0.trans a4, a5, e2.trans a6, a7.trans c1.symm, a8.trans c2.symm, a9⟩, hrest⟩
theorem ps_Pl_RF {pl rf rf' : cr_S} {ln : Nat → Int64} {T R : Nat} (h : ps_Pl pl rf ln T R) (f : ps_RF rf rf') : ps_Pl pl rf' ln T R :=
  ps_Pl_F h (f.2 0 (by decide)) (f.2 2 (by decide)) (f.1 1 (by decide) (by decide) (by decide) (by decide) (by decide) (by decide)) (f.1 2 (by decide) (by decide) (by decide) (by decide) (by decide) (by decide))
theorem ps_L0_RF {lk rf rf' : cr_S} (h : ps_L0 lk rf) (f : ps_RF rf rf') : ps_L0 lk rf' := by
  obtain ⟨h1, h2, hrest⟩ := h
  refine ⟨?_, ?_, hrest⟩
  · rw [f.1 9 (by decide) (by decide) (by decide) (by decide) (by decide) (by decide)]
    exact h1
  · rw [f.1 11 (by decide) (by decide) (by decide) (by decide) (by decide) (by decide)]
    exact h2
theorem ps_us0 {pl : cr_S} {ln : Nat → Int64} (h : ps_PL pl ln) {t r : Nat} (ht : t ≤ 10) (hr : r ≤ 8) : (ps_us pl t r → md_Plan_isUsedBy pl (nI t) (nI r) = 1 ∧ ¬ lg_cmp (ln ((9 : Int32) * nI t + nI r).toNatClampNeg) 0 = 0) ∧ (¬ ps_us pl t r → md_Plan_isUsedBy pl (nI t) (nI r) = 0 ∧ lg_cmp (ln ((9 : Int32) * nI t + nI r).toNatClampNeg) 0 = 0) := by
  have k0 : (0 : Int32).toInt = 0 := by decide
  have l := h t r ht hr
  have i := ps_i64 (pl (6 + t) r)
  have j0 : (0 : Int64).toInt = 0 := by decide
  rw [ps_ix9 ht hr, lg_cmp_eq, l.1]
  unfold md_Plan_isUsedBy ps_us
  rw [ps_nI_c (k := t) (by omega), ps_nI_c (k := r) (by omega)]
  refine ⟨fun u => ⟨if_neg (fun q => ?_), fun q => ?_⟩, fun u => ⟨if_pos ?_, ?_⟩⟩
  · have := cr_le q
    omega
  · rw [q] at i
    omega
  · rw [pu_le]
    omega
  · rw [← Int64.toInt_inj, i]
    omega
theorem ps_deed {N : Nat} {mn pl bd lk rf : cr_S} {ln : Nat → Int64} {T R t : Nat} (hW : ps_W N pl bd rf T R) (hP : ps_Pl pl rf ln T R) (hL : ps_L0 lk rf) (hm : mn 1 = rf 5) (hN : N < 512) (t1 : 1 ≤ t) (t2 : t ≤ T) (lt lat : Int64) (tr tb : cr_S) (x2 x3 : Int32) (h3 : x2 = 1 ∨ x2 = 2 → ∃ r, 1 ≤ r ∧ r ≤ R ∧ x3 = nI r) : ps_D N pl rf T R lt (md_Main_perform mn lt pl bd lk tr tb (nI t) x2 x3) (md_Ref_acts rf lat ln (nI t) x2 x3) := by
  obtain ⟨w1, w2, w3, w4, w5, w6, w7, w8, w9⟩ := id hW
  obtain ⟨⟨a1, a2, a3, a4, a5, a6, a7, a8, a9⟩, pL, pR, pU, pC, pO⟩ := id hP
  have n1 : ¬ (1 : Int32) = 0 := by decide
  have ci := ps_nI_c (k := t) (by omega)
  have st := w7.1 t
  -- becoming ready
  have rdy : bd 1 t ≠ 1 → ps_D N pl rf T R lt (if md_Main_runs mn lt pl (md_Board_makeReady pl bd (nI t)) lk tr tb (nI t) = 0 then ((0 : Int32), mn, lt, md_Board_makeReady pl bd (nI t)) else ((1 : Int32), mn, lt, md_Board_makeReady pl bd (nI t))) (if md_Ref_runs (md_Ref_ready rf lat ln (nI t)) lat ln (nI t) = 0 then ((0 : Int32), md_Ref_ready rf lat ln (nI t)) else ((1 : Int32), md_Ref_ready rf lat ln (nI t))) := fun hx => by
    obtain ⟨r1, r2, r3⟩ := ps_W_ready hW a1 hN t1 t2 hx lat ln
    have ru := ps_runs (ps_Pl_RF hP r2) (ps_L0_RF hL r2) r1.1 r1.2.1 r1.2.2.2.1 r1.2.2.2.2.2.2.1.2.2.1 t1 t2 mn lt tr tb lat
    have e5 : mn 1 = md_Ref_ready rf lat ln (nI t) 5 := hm.trans r3.symm
    rcases ru with ⟨q1, q2⟩ | ⟨q1, q2, _⟩
    · rw [if_pos q1, if_pos q2]
      exact ⟨rfl, r1, e5, r2, rfl⟩
    · rw [q1, q2, if_neg n1, if_neg n1]
      exact ⟨rfl, r1, e5, r2, rfl⟩
  unfold md_Main_perform md_Ref_acts
  by_cases c0 : x2 = 0
  · rw [if_pos c0, if_pos c0]
    unfold md_Main_startTask
    rw [ci, ← w1]
    by_cases s : bd 1 t = 0
    · rw [if_pos s, if_pos s]
      have := rdy (by rw [s]; decide)
      by_cases q : md_Main_runs mn lt pl (md_Board_makeReady pl bd (nI t)) lk tr tb (nI t) = 0
      · rw [if_pos q] at this ⊢
        exact this
      · rw [if_neg q] at this ⊢
        exact this
    · rw [if_neg s, if_neg s]
      exact ps_D_same hW hm lt (-3)
  · rw [if_neg c0, if_neg c0]
    by_cases c5 : x2 = 5
    · rw [if_pos c5, if_pos c5]
      unfold md_Main_sendEvent
      rw [ci, ← w1]
      by_cases s : bd 1 t = 0
      · rw [if_pos s, if_pos s]
        exact ps_D_same hW hm lt (-3)
      · rw [if_neg s, if_neg s]
        by_cases s2 : bd 1 t = 2
        · rw [if_pos s2, if_pos s2]
          have := rdy (by rw [s2]; decide)
          by_cases q : md_Main_runs mn lt pl (md_Board_makeReady pl bd (nI t)) lk tr tb (nI t) = 0
          · rw [if_pos q] at this ⊢
            exact this
          · rw [if_neg q] at this ⊢
            exact this
        · rw [if_neg s2, if_neg s2]
          obtain ⟨v1, v2⟩ := ps_W_ev hW t 1
          have ru := ps_runs (ps_Pl_RF hP v2) (ps_L0_RF hL v2) v1.1 v1.2.1 v1.2.2.2.1 w7.2.2.1 t1 t2 (cr_up mn 1 t 1) lt tr tb lat
          have e5 : (cr_up mn 1 t 1) 1 = (cr_up rf 5 t 1) 5 := by
            rw [pu_up_fn, pu_up_fn, hm]
          rcases ru with ⟨q1, q2⟩ | ⟨q1, q2, _⟩
          · rw [if_pos q1, if_pos q2]
            exact ⟨rfl, v1, e5, v2, rfl⟩
          · rw [q1, q2, if_neg n1, if_neg n1]
            exact ⟨rfl, v1, e5, v2, rfl⟩
    · rw [if_neg c5, if_neg c5, ci, ← w1]
      by_cases s1 : bd 1 t = 1
      · rw [if_pos s1, if_neg (show ¬ bd 1 t = 0 by rw [s1]; decide), if_neg (show ¬ bd 1 t = 2 by rw [s1]; decide)]
        have ru := ps_runs hP hL w1 w2 w4 w7.2.2.1 t1 t2 mn lt tr tb lat
        rcases ru with ⟨q1, q2⟩ | ⟨q1, q2, hf⟩
        · rw [if_pos q1, if_pos q2]
          exact ps_D_same hW hm lt 0
        · rw [q1, q2, if_neg n1, if_neg n1]
          have la := ps_lst lat ln a1 a2 a6 w4 w7.2.2.2.1 w8 t1 (by omega)
          by_cases k1 : x2 = 1
          · rw [if_pos k1, if_pos k1]
            obtain ⟨r, r1, r2, rfl⟩ := h3 (Or.inl k1)
            have us := ps_us0 pL (t := t) (r := r) (by omega) (by omega)
            have cr := ps_nI_c (k := r) (by omega)
            unfold md_Main_takeResource
            by_cases u : ps_us pl t r
            · rw [(us.1 u).1, if_neg n1, if_neg (us.1 u).2, cr, ← w4]
              by_cases hh : bd 4 r = nI t
              · rw [if_pos hh, if_pos hh]
                exact ps_D_same hW hm lt (-12)
              · rw [if_neg hh, if_neg hh, la]
                have h0 : bd 4 r = 0 := (ps_freeR w7 a1 a2 pC pO hf t1 (by omega) u).resolve_right hh
                by_cases z : bd 3 t = 0
                · rw [if_pos z]
                  obtain ⟨k1, k2, k3⟩ := ps_W_take hW hP hN hf t1 t2 r1 r2 u h0 1 (Or.inl ⟨z, rfl⟩)
                  exact ⟨rfl, k1, hm.trans k3.symm, k2, rfl⟩
                · rw [if_neg z, pu_up_cell rf r (nI t) (show (8 : Nat) ≠ 7 by decide)]
                  obtain ⟨k1, k2, k3⟩ := ps_W_take hW hP hN hf t1 t2 r1 r2 u h0 _ (Or.inr ⟨z, rfl⟩)
                  exact ⟨rfl, k1, hm.trans k3.symm, k2, rfl⟩
            · rw [(us.2 u).1, if_pos rfl, if_pos (us.2 u).2]
              exact ps_D_same hW hm lt (-11)
          · rw [if_neg k1, if_neg k1]
            by_cases k2 : x2 = 2
            · rw [if_pos k2, if_pos k2]
              obtain ⟨r, r1, r2, rfl⟩ := h3 (Or.inr k2)
              have cr := ps_nI_c (k := r) (by omega)
              unfold md_Main_giveBackResource
              rw [ci, la, cr]
              by_cases z : bd 3 t = nI r
              · rw [if_pos z, if_neg (show ¬ bd 3 t = 0 by rw [z]; exact ps_nz r1 (by omega)), if_pos z]
                obtain ⟨k1, k2, k3⟩ := ps_W_give hW hP t1 t2 r1 (by omega) z
                exact ⟨rfl, k1, hm.trans k3.symm, k2, rfl⟩
              · rw [if_neg z]
                by_cases y : bd 3 t = 0
                · rw [if_pos y]
                  exact ps_D_same hW hm lt (-13)
                · rw [if_neg y, if_neg z]
                  exact ps_D_same hW hm lt (-13)
            · rw [if_neg k2, if_neg k2]
              have lr := w9.1 t
              have k0 : (0 : Int32).toInt = 0 := by decide
              have ha : (bd 3 t = 0 ∧ md_Board_holdsAny pl bd (nI t) = 0 ∧ bd 3 t ≤ 0) ∨ (bd 3 t ≠ 0 ∧ md_Board_holdsAny pl bd (nI t) = 1 ∧ ¬ bd 3 t ≤ 0) := by
                unfold md_Board_holdsAny
                rw [ci]
                by_cases z : bd 3 t = 0
                · exact Or.inl ⟨z, if_pos z, by rw [z]; decide⟩
                · refine Or.inr ⟨z, if_neg z, fun q => z ?_⟩
                  have := cr_le q
                  rw [pu_eq]
                  omega
              by_cases k3 : x2 = 3
              · rw [if_pos k3, if_pos k3]
                unfold md_Main_endTask
                rw [ci, la]
                obtain ⟨s1, s2, s3, s4⟩ := ps_W_end hW hP t1 t2 lat x2 x3 (bd 3 t)
                have e5 : (cr_up mn 1 t 0) 1 = upd (rf 5) t 0 := by rw [pu_up_fn, hm]
                rcases ha with ⟨z1, z2, z3⟩ | ⟨z1, z2, z3⟩
                · rw [if_pos z2]
                  rw [if_pos z3] at s1
                  exact ⟨s1.symm, s2, e5.trans s4.symm, s3, rfl⟩
                · rw [z2, if_neg n1]
                  rw [if_neg z3] at s1
                  exact ⟨s1.symm, s2, e5.trans s4.symm, s3, rfl⟩
              · rw [if_neg k3, if_neg k3]
                unfold md_Main_waitForEvent
                rw [ci, la, ← hm]
                rcases ha with ⟨z1, z2, z3⟩ | ⟨z1, z2, z3⟩
                · rw [if_pos z2, if_pos z3]
                  by_cases y : mn 1 t = 0
                  · rw [if_pos y, if_pos y]
                    obtain ⟨k1, k2, k3⟩ := ps_W_wait hW a1 t1 t2 z1
                    exact ⟨rfl, k1, hm.trans k3.symm, k2, rfl⟩
                  · rw [if_neg y, if_neg y]
                    obtain ⟨k1, k2⟩ := ps_W_ev hW t 0
                    have e5 : (cr_up mn 1 t 0) 1 = (cr_up rf 5 t 0) 5 := by rw [pu_up_fn, pu_up_fn, hm]
                    exact ⟨rfl, k1, e5, k2, rfl⟩
                · rw [z2, if_neg n1, if_neg z3]
                  exact ps_D_same hW hm lt (-15)
      · rw [if_neg s1]
        by_cases s0 : bd 1 t = 0
        · rw [if_pos s0]
          exact ps_D_same hW hm lt (-3)
        · have s2 : bd 1 t = 2 := by
            rcases st with q | ⟨_, _, q | q⟩
            · exact absurd q s0
            · exact absurd q s1
            · exact q
          rw [if_neg s0, if_pos s2]
          exact ps_D_same hW hm lt (-3)
end
section
/-! a step as a whole; the relation of both sides -/
def ps_mT (mn : cr_S) (lt : Int64) (pl bd lk tr tb : cr_S) (x1 x2 x3 : Int32) (x4 : Int64) : Int32 × cr_S × Int64 × cr_S :=
  (if x2 < 0 then ((-2 : Int32), mn, lt, bd) else (if (5 : Int32) < x2 then ((-2 : Int32), mn, lt, bd) else (if (lg_cmp x4 lt) < 0 then ((-2 : Int32), mn, lt, bd) else (if (lg_cmp x4 (1000000000 : Int64)) ≤ 0 then (if 0 ≤ ((md_Main_perform mn lt pl bd lk tr tb x1 x2 x3).1) then (((md_Main_perform mn lt pl bd lk tr tb x1 x2 x3).1), ((md_Main_perform mn lt pl bd lk tr tb x1 x2 x3).2.1), x4, ((md_Main_perform mn lt pl bd lk tr tb x1 x2 x3).2.2.2)) else (if ((md_Main_perform mn lt pl bd lk tr tb x1 x2 x3).1) = (-14 : Int32) then (((md_Main_perform mn lt pl bd lk tr tb x1 x2 x3).1), ((md_Main_perform mn lt pl bd lk tr tb x1 x2 x3).2.1), x4, ((md_Main_perform mn lt pl bd lk tr tb x1 x2 x3).2.2.2)) else (((md_Main_perform mn lt pl bd lk tr tb x1 x2 x3).1), ((md_Main_perform mn lt pl bd lk tr tb x1 x2 x3).2.1), ((md_Main_perform mn lt pl bd lk tr tb x1 x2 x3).2.2.1), ((md_Main_perform mn lt pl bd lk tr tb x1 x2 x3).2.2.2)))) else ((-2 : Int32), mn, lt, bd)))))
def ps_rT (rf : cr_S) (lat : Int64) (ln : Nat → Int64) (x1 x2 x3 : Int32) (x4 : Int64) : Int32 × cr_S × Int64 :=
  (if x2 < 0 then ((-2 : Int32), rf, lat) else (if (5 : Int32) < x2 then ((-2 : Int32), rf, lat) else (if (lg_cmp x4 lat) < 0 then ((-2 : Int32), rf, lat) else (if (lg_cmp x4 (0 : Int64)) < 0 then ((-2 : Int32), rf, lat) else (if (lg_cmp x4 (1000000000 : Int64)) ≤ 0 then (if 0 ≤ ((md_Ref_acts rf lat ln x1 x2 x3).1) then (((md_Ref_acts rf lat ln x1 x2 x3).1), ((md_Ref_acts rf lat ln x1 x2 x3).2), x4) else (if ((md_Ref_acts rf lat ln x1 x2 x3).1) = (-14 : Int32) then (((md_Ref_acts rf lat ln x1 x2 x3).1), ((md_Ref_acts rf lat ln x1 x2 x3).2), x4) else (((md_Ref_acts rf lat ln x1 x2 x3).1), ((md_Ref_acts rf lat ln x1 x2 x3).2), lat))) else ((-2 : Int32), rf, lat))))))
theorem ps_mE (mn : cr_S) (lt : Int64) (pl bd lk tr tb : cr_S) (x1 x2 x3 : Int32) (x4 : Int64) : md_Main_step mn lt pl bd lk tr tb x1 x2 x3 x4 = (if x2 = (1 : Int32) then (if md_Plan_hasTask pl x1 = 0 then ((-1 : Int32), mn, lt, bd) else (if md_Plan_hasResource pl x3 = 0 then ((-1 : Int32), mn, lt, bd) else ps_mT mn lt pl bd lk tr tb x1 x2 x3 x4)) else (if x2 = (2 : Int32) then (if md_Plan_hasTask pl x1 = 0 then ((-1 : Int32), mn, lt, bd) else (if md_Plan_hasResource pl x3 = 0 then ((-1 : Int32), mn, lt, bd) else ps_mT mn lt pl bd lk tr tb x1 x2 x3 x4)) else (if md_Plan_hasTask pl x1 = 0 then ((-1 : Int32), mn, lt, bd) else ps_mT mn lt pl bd lk tr tb x1 x2 x3 x4))) := by
  unfold md_Main_step ps_mT
  rfl
theorem ps_rE (rf : cr_S) (lat : Int64) (ln : Nat → Int64) (x1 x2 x3 : Int32) (x4 : Int64) : md_Ref_step rf lat ln x1 x2 x3 x4 = (if md_Ref_isTask rf lat ln x1 = 0 then ((-1 : Int32), rf, lat) else (if x2 = (1 : Int32) then (if md_Ref_isResource rf lat ln x3 = 0 then ((-1 : Int32), rf, lat) else ps_rT rf lat ln x1 x2 x3 x4) else (if x2 = (2 : Int32) then (if md_Ref_isResource rf lat ln x3 = 0 then ((-1 : Int32), rf, lat) else ps_rT rf lat ln x1 x2 x3 x4) else ps_rT rf lat ln x1 x2 x3 x4))) := by
  unfold md_Ref_step ps_rT
  rfl
def ps_TZ (tb : cr_S) : Prop := cr_RBoard tb ∧ (∀ j, 11 ≤ j → tb 1 j = 0) ∧ (∀ j, 9 ≤ j → tb 4 j = 0) ∧ ∀ j, 9 ≤ j → tb 5 j = 0
def ps_Sim (N : Nat) (mn : cr_S) (lt : Int64) (pl bd lk tr tb rf : cr_S) (lat : Int64) (ln : Nat → Int64) : Prop := ∃ T R : Nat, ps_Pl pl rf ln T R ∧ ps_W N pl bd rf T R ∧ ps_L N lk rf ∧ mn 1 = rf 5 ∧ lt = lat ∧ 0 ≤ lat.toInt ∧ ps_TZ tb ∧ cr_rh rf 16 (-1) 8
theorem ps_skip (N : Nat) (mn : cr_S) (lt : Int64) (pl bd lk tr tb rf : cr_S) (lat : Int64) (ln : Nat → Int64) (h : ps_Sim N mn lt pl bd lk tr tb rf lat ln) : ps_Sim (N + 1) mn lt pl bd lk tr tb rf lat ln := by
  obtain ⟨T, R, h1, h2, h3, h4⟩ := h
  exact ⟨T, R, h1, ps_W_mono h2, ps_L_mono h3, h4⟩
theorem ps_L_F {N : Nat} {lk rf rf' : cr_S} (h : ps_L N lk rf) (e9 : rf' 9 = rf 9) (e10 : rf' 10 = rf 10) (e11 : rf' 11 = rf 11) (e12 : rf' 12 = rf 12) (e0 : rf' 0 3 = rf 0 3) : ps_L N lk rf' := by
  unfold ps_L ps_L0 ps_rise ps_SO ps_LC ps_LS ps_LH at h ⊢
  rw [e9, e10, e11, e12, e0]
  exact h
theorem ps_L_RF {N : Nat} {lk rf rf' : cr_S} (h : ps_L N lk rf) (f : ps_RF rf rf') : ps_L N lk rf' :=
  ps_L_F h (f.1 9 (by decide) (by decide) (by decide) (by decide) (by decide) (by decide)) (f.1 10 (by decide) (by decide) (by decide) (by decide) (by decide) (by decide)) (f.1 11 (by decide) (by decide) (by decide) (by decide) (by decide) (by decide)) (f.1 12 (by decide) (by decide) (by decide) (by decide) (by decide) (by decide)) (f.2 3 (by decide))
theorem ps_rh_F {rf rf' : cr_S} (h : cr_rh rf 16 (-1) 8) (e : rf' 16 = rf 16) : cr_rh rf' 16 (-1) 8 := by
  unfold cr_rh
  rw [e]
  exact h
/-- the answers agree, and the relation holds behind -/
def ps_Res (N : Nat) (pl lk tr tb : cr_S) (ln : Nat → Int64) (A : Int32 × cr_S × Int64 × cr_S) (B : Int32 × cr_S × Int64) : Prop := A.1 = B.1 ∧ ps_Sim (N + 1) A.2.1 A.2.2.1 pl A.2.2.2 lk tr tb B.2.1 B.2.2 ln
theorem ps_tail {N : Nat} {mn pl bd lk tr tb rf : cr_S} {lat : Int64} {ln : Nat → Int64} {T R t : Nat} (hP : ps_Pl pl rf ln T R) (hW : ps_W N pl bd rf T R) (hL : ps_L N lk rf) (hm : mn 1 = rf 5) (hl : 0 ≤ lat.toInt) (hb : ps_TZ tb) (hh : cr_rh rf 16 (-1) 8) (hN : N < 512) (t1 : 1 ≤ t) (t2 : t ≤ T) (x2 x3 : Int32) (x4 : Int64) (h3 : x2 = 1 ∨ x2 = 2 → ∃ r, 1 ≤ r ∧ r ≤ R ∧ x3 = nI r) : ps_Res N pl lk tr tb ln (ps_mT mn lat pl bd lk tr tb (nI t) x2 x3 x4) (ps_rT rf lat ln (nI t) x2 x3 x4) := by
  have j0 : (0 : Int64).toInt = 0 := by decide
  have same : ps_Sim (N + 1) mn lat pl bd lk tr tb rf lat ln := ps_skip _ _ _ _ _ _ _ _ _ _ _ ⟨T, R, hP, hW, hL, hm, rfl, hl, hb, hh⟩
  have d := ps_deed hW hP hL.1 hm hN t1 t2 lat lat tr tb x2 x3 h3
  unfold ps_mT ps_rT
  generalize md_Main_perform mn lat pl bd lk tr tb (nI t) x2 x3 = A at d ⊢
  generalize md_Ref_acts rf lat ln (nI t) x2 x3 = B at d ⊢
  obtain ⟨d1, d2, d3, d4, d5⟩ := d
  have fin : ∀ z : Int64, 0 ≤ z.toInt → ps_Sim (N + 1) A.2.1 z pl A.2.2.2 lk tr tb B.2 z ln := fun z hz =>
    ⟨T, R, ps_Pl_RF hP d4, d2, ps_L_RF (ps_L_mono hL) d4, d3, rfl, hz, hb, ps_rh_F hh (d4.1 16 (by decide) (by decide) (by decide) (by decide) (by decide) (by decide))⟩
  by_cases c1 : x2 < 0
  · rw [if_pos c1, if_pos c1]
    exact ⟨rfl, same⟩
  · rw [if_neg c1, if_neg c1]
    by_cases c2 : 5 < x2
    · rw [if_pos c2, if_pos c2]
      exact ⟨rfl, same⟩
    · rw [if_neg c2, if_neg c2]
      by_cases c3 : lg_cmp x4 lat < 0
      · rw [if_pos c3, if_pos c3]
        exact ⟨rfl, same⟩
      · rw [if_neg c3, if_neg c3]
        have x0 : 0 ≤ x4.toInt := by
          rw [lg_cmp_lt, Int64.lt_iff_toInt_lt] at c3
          omega
        have c3' : ¬ lg_cmp x4 0 < 0 := by
          rw [lg_cmp_lt, Int64.lt_iff_toInt_lt]
          omega
        rw [if_neg c3']
        by_cases c4 : lg_cmp x4 1000000000 ≤ 0
        · rw [if_pos c4, if_pos c4, ← d1]
          by_cases c5 : 0 ≤ A.1
          · rw [if_pos c5, if_pos c5]
            exact ⟨rfl, fin x4 x0⟩
          · rw [if_neg c5, if_neg c5]
            by_cases c6 : A.1 = -14
            · rw [if_pos c6, if_pos c6]
              exact ⟨rfl, fin x4 x0⟩
            · rw [if_neg c6, if_neg c6, d5]
              exact ⟨rfl, fin lat hl⟩
        · rw [if_neg c4, if_neg c4]
          exact ⟨rfl, same⟩
theorem ps_step (N : Nat) (mn : cr_S) (lt : Int64) (pl bd lk tr tb rf : cr_S) (lat : Int64) (ln : Nat → Int64) (y0 y1 y2 : Int32) (y3 : Int64) (hN : N < 512) (h : ps_Sim N mn lt pl bd lk tr tb rf lat ln) : ps_Res N pl lk tr tb ln (md_Main_step mn lt pl bd lk tr tb y0 y1 y2 y3) (md_Ref_step rf lat ln y0 y1 y2 y3) := by
  have hs := ps_skip _ _ _ _ _ _ _ _ _ _ _ h
  obtain ⟨T, R, hP, hW, hL, hm, hl, h0, hb, hh⟩ := h
  subst hl
  have n1 : ¬ (1 : Int32) = 0 := by decide
  have same : ps_Res N pl lk tr tb ln ((-1 : Int32), mn, lt, bd) ((-1 : Int32), rf, lt) := ⟨rfl, hs⟩
  rw [ps_mE, ps_rE]
  rcases ps_hasT hP.1 lt ln y0 with ⟨q1, q2⟩ | ⟨q1, q2, t, t1, t2, rfl⟩
  · rw [q1, q2, if_pos rfl, if_pos rfl, if_pos rfl, ite_self, ite_self]
    exact same
  · rw [q1, q2, if_neg n1, if_neg n1, if_neg n1]
    have tl := fun h3 => ps_tail (tr := tr) (tb := tb) hP hW hL hm h0 hb hh hN t1 t2 y1 y2 y3 h3
    rcases ps_hasR hP.1 lt ln y2 with ⟨p1, p2⟩ | ⟨p1, p2, r, r1, r2, e⟩
    · rw [p1, p2, if_pos rfl, if_pos rfl]
      by_cases c1 : y1 = 1
      · rw [if_pos c1, if_pos c1]
        exact same
      · rw [if_neg c1, if_neg c1]
        by_cases c2 : y1 = 2
        · rw [if_pos c2, if_pos c2]
          exact same
        · rw [if_neg c2, if_neg c2]
          exact tl (fun q => q.elim (fun q => absurd q c1) (fun q => absurd q c2))
    · rw [p1, p2, if_neg n1, if_neg n1, ite_self, ite_self, ite_self, ite_self]
      exact tl (fun _ => ⟨r, r1, r2, e⟩)
end
section
/-! a new task, a new resource -/
theorem ps_atE {pl : cr_S} {T : Nat} (hT : T < 10) (h : pl 0 0 = nI T) (x y : Int32) : md_Plan_addTask pl x y = (nI (T + 1), cr_up (cr_up (cr_up pl 0 0 (nI (T + 1))) 1 (T + 1) x) 2 (T + 1) y) := by
  have z0 : pl 0 0 + 1 = nI (T + 1) := by rw [h]; exact nI_1 T
  unfold md_Plan_addTask
  rw [z0]
  have z1 : (cr_up pl 0 0 (nI (T + 1))) 0 0 = nI (T + 1) := pu_up_same _ _ _ _
  rw [z1, ps_nI_c (k := T + 1) (by omega)]
  have z2 : (cr_up (cr_up pl 0 0 (nI (T + 1))) 1 (T + 1) x) 0 0 = nI (T + 1) := by rw [pu_up_cell _ _ _ (show (0 : Nat) ≠ 1 by decide), z1]
  rw [z2, ps_nI_c (k := T + 1) (by omega)]
  have z3 : (cr_up (cr_up (cr_up pl 0 0 (nI (T + 1))) 1 (T + 1) x) 2 (T + 1) y) 0 0 = nI (T + 1) := by rw [pu_up_cell _ _ _ (show (0 : Nat) ≠ 2 by decide), z2]
  rw [z3]
theorem ps_rtE {rf : cr_S} {T : Nat} (hT : T < 10) (h : rf 0 0 = nI T) (x y : Int32) : (((cr_up (cr_up (cr_up rf 0 0 ((rf 0 0) + (1 : Int32))) 1 ((cr_up rf 0 0 ((rf 0 0) + (1 : Int32))) 0 0).toNatClampNeg x) 2 ((cr_up (cr_up rf 0 0 ((rf 0 0) + (1 : Int32))) 1 ((cr_up rf 0 0 ((rf 0 0) + (1 : Int32))) 0 0).toNatClampNeg x) 0 0).toNatClampNeg y) 0 0), (cr_up (cr_up (cr_up rf 0 0 ((rf 0 0) + (1 : Int32))) 1 ((cr_up rf 0 0 ((rf 0 0) + (1 : Int32))) 0 0).toNatClampNeg x) 2 ((cr_up (cr_up rf 0 0 ((rf 0 0) + (1 : Int32))) 1 ((cr_up rf 0 0 ((rf 0 0) + (1 : Int32))) 0 0).toNatClampNeg x) 0 0).toNatClampNeg y)) = (nI (T + 1), cr_up (cr_up (cr_up rf 0 0 (nI (T + 1))) 1 (T + 1) x) 2 (T + 1) y) := ps_atE hT h x y
theorem ps_Pl_task {pl rf : cr_S} {ln : Nat → Int64} {T R : Nat} (h : ps_Pl pl rf ln T R) (hT : T < 10) {x y : Int32} (x1 : 1 ≤ x.toInt) (x2 : x.toInt ≤ 20) (y1 : 1 ≤ y.toInt) (y2 : y.toInt ≤ 3) : ps_Pl (cr_up (cr_up (cr_up pl 0 0 (nI (T + 1))) 1 (T + 1) x) 2 (T + 1) y) (cr_up (cr_up (cr_up rf 0 0 (nI (T + 1))) 1 (T + 1) x) 2 (T + 1) y) ln (T + 1) R := by
  obtain ⟨⟨a1, a2, a3, a4, a5, a6, a7, a8, a9⟩, pL, pR, pU, pC, pO⟩ := h
  have c1 : (cr_up (cr_up (cr_up pl 0 0 (nI (T + 1))) 1 (T + 1) x) 2 (T + 1) y) 1 = upd (pl 1) (T + 1) x := by simp [cr_up]
  have c2 : (cr_up (cr_up (cr_up pl 0 0 (nI (T + 1))) 1 (T + 1) x) 2 (T + 1) y) 2 = upd (pl 2) (T + 1) y := by simp [cr_up]
  have d1 : (cr_up (cr_up (cr_up rf 0 0 (nI (T + 1))) 1 (T + 1) x) 2 (T + 1) y) 1 = upd (rf 1) (T + 1) x := by simp [cr_up]
  have d2 : (cr_up (cr_up (cr_up rf 0 0 (nI (T + 1))) 1 (T + 1) x) 2 (T + 1) y) 2 = upd (rf 2) (T + 1) y := by simp [cr_up]
  have ck : ∀ k, 3 ≤ k → (cr_up (cr_up (cr_up pl 0 0 (nI (T + 1))) 1 (T + 1) x) 2 (T + 1) y) k = pl k := fun k hk => by
    rw [pu_up_cell _ _ _ (show k ≠ 2 by omega), pu_up_cell _ _ _ (show k ≠ 1 by omega), pu_up_cell _ _ _ (show k ≠ 0 by omega)]
  have c00 : (cr_up (cr_up (cr_up pl 0 0 (nI (T + 1))) 1 (T + 1) x) 2 (T + 1) y) 0 0 = nI (T + 1) := by simp [cr_up, upd]
  have c01 : (cr_up (cr_up (cr_up pl 0 0 (nI (T + 1))) 1 (T + 1) x) 2 (T + 1) y) 0 1 = pl 0 1 := by simp [cr_up, upd]
  have d00 : (cr_up (cr_up (cr_up rf 0 0 (nI (T + 1))) 1 (T + 1) x) 2 (T + 1) y) 0 0 = nI (T + 1) := by simp [cr_up, upd]
  have d02 : (cr_up (cr_up (cr_up rf 0 0 (nI (T + 1))) 1 (T + 1) x) 2 (T + 1) y) 0 2 = rf 0 2 := by simp [cr_up, upd]
  generalize cr_up (cr_up (cr_up pl 0 0 (nI (T + 1))) 1 (T + 1) x) 2 (T + 1) y = p at c1 c2 ck c00 c01 ⊢
  generalize cr_up (cr_up (cr_up rf 0 0 (nI (T + 1))) 1 (T + 1) x) 2 (T + 1) y = f at d1 d2 d00 d02 ⊢
  have us : ∀ t r, ps_us p t r ↔ ps_us pl t r := fun t r => by
    unfold ps_us
    rw [ck (6 + t) (by omega)]
  refine ⟨⟨by omega, a2, c00, d00, c01.trans a5, d02.trans a6, ?_, ?_, ?_⟩, fun t r ht hr => ?_, fun t t1 t2 => ?_, fun t r ht hr u => ?_, fun r hr => ?_, fun r hr => ?_⟩
  · rw [c1, d1, a7]
  · rw [c2, d2, a8]
  · intro j
    rw [c2]
    by_cases w : j = T + 1
    · rw [w, ps_us_s]
      omega
    · rw [ps_us_n _ _ w]
      exact a9 j
  · rw [ck (6 + t) (by omega)]
    exact pL t r ht hr
  · rw [c1, c2]
    by_cases w : t = T + 1
    · rw [w, ps_us_s, ps_us_s]
      exact ⟨x1, x2, y1, y2⟩
    · rw [ps_us_n _ _ w, ps_us_n _ _ w]
      exact pR t t1 (by omega)
  · have := pU t r ht hr ((us t r).mp u)
    omega
  · rw [ck 3 (by omega)]
    obtain ⟨m0, m1, m2⟩ := pC r hr
    refine ⟨m0, fun t t1 t2 u => ?_, ?_⟩
    · have w := (pU t r (by omega) hr ((us t r).mp u)).2.1
      rw [c1, ps_us_n _ _ (show t ≠ T + 1 by omega)]
      exact m1 t t1 (by omega) ((us t r).mp u)
    · rcases m2 with q | ⟨t, q1, q2, q3, q4⟩
      · exact Or.inl q
      · refine Or.inr ⟨t, q1, by omega, (us t r).mpr q3, ?_⟩
        rw [c1, ps_us_n _ _ (show t ≠ T + 1 by omega)]
        exact q4
  · rw [ck 4 (by omega)]
    rcases pO r hr with ⟨z, w⟩ | ⟨z, ⟨t, w1, w2⟩, w⟩
    · exact Or.inl ⟨z, fun t ht u => w t ht ((us t r).mp u)⟩
    · refine Or.inr ⟨z, ⟨t, w1, (us t r).mpr w2⟩, fun k hk u => ?_⟩
      have v := (pU k r hk hr ((us k r).mp u)).2.1
      rw [c2, ps_us_n _ _ (show k ≠ T + 1 by omega)]
      exact w k hk ((us k r).mp u)
/-- the reference's cells of the board are untouched -/
theorem ps_W_cells {N : Nat} {pl bd rf rf' : cr_S} {T R : Nat} (h : ps_W N pl bd rf T R) (e3 : rf' 3 = rf 3) (e4 : rf' 4 = rf 4) (e0 : rf' 0 1 = rf 0 1) (e7 : rf' 7 = rf 7) (e8 : rf' 8 = rf 8) : ps_W N pl bd rf' T R := by
  unfold ps_W at h ⊢
  rw [e3, e4, e0, e7, e8]
  exact h
theorem ps_W_plan {N : Nat} {pl pl' bd rf : cr_S} {T R T' R' : Nat} (h : ps_W N pl bd rf T R) (g : ps_Bd pl' bd T' R') : ps_W N pl' bd rf T' R' := by
  obtain ⟨w1, w2, w3, w4, w5, w6, w7, w8, w9⟩ := h
  exact ⟨w1, w2, w3, w4, w5, w6, g, w8, w9⟩
theorem ps_task (N : Nat) (mn : cr_S) (lt : Int64) (pl bd lk tr tb rf : cr_S) (lat : Int64) (ln : Nat → Int64) (y0 y1 : Int32) (hN : N < 512) (h : ps_Sim N mn lt pl bd lk tr tb rf lat ln) : (md_Main_task mn lt pl bd lk tr tb y0 y1).1 = (md_Ref_task rf lat ln y0 y1).1 ∧ ps_Sim (N + 1) mn lt (md_Main_task mn lt pl bd lk tr tb y0 y1).2 bd lk tr tb (md_Ref_task rf lat ln y0 y1).2 lat ln := by
  have hs := ps_skip _ _ _ _ _ _ _ _ _ _ _ h
  obtain ⟨T, R, hP, hW, hL, hm, hl, h0, hb, hh⟩ := h
  obtain ⟨a1, a2, a3, a4, -⟩ := hP.1
  have k1 : (1 : Int32).toInt = 1 := by decide
  have k3 : (3 : Int32).toInt = 3 := by decide
  have k10 : (10 : Int32).toInt = 10 := by decide
  have k20 : (20 : Int32).toInt = 20 := by decide
  have n1 : ¬ (1 : Int32) = 0 := by decide
  have Tt := ps_nI_t (k := T) (by omega)
  unfold md_Main_task md_Ref_task md_Main_isCore
  by_cases c1 : y0 < 1
  · rw [if_pos c1, if_pos c1]
    exact ⟨rfl, hs⟩
  · rw [if_neg c1, if_neg c1]
    by_cases c2 : 20 < y0
    · rw [if_pos c2, if_pos c2]
      exact ⟨rfl, hs⟩
    · rw [if_neg c2, if_neg c2]
      by_cases c3 : y1 < 1
      · rw [if_pos c3, if_pos c3, if_pos rfl]
        exact ⟨rfl, hs⟩
      · rw [if_neg c3, if_neg c3]
        by_cases c4 : 3 < y1
        · rw [if_pos c4, if_pos rfl, if_neg (show ¬ y1 ≤ 3 by rw [pu_le]; rw [pu_lt] at c4; omega)]
          exact ⟨rfl, hs⟩
        · rw [if_neg c4, if_neg n1, if_pos (show y1 ≤ 3 by rw [pu_le]; rw [pu_lt] at c4; omega), a3]
          rw [pu_lt] at c1 c2 c3 c4
          by_cases c5 : T = 10
          · have z : rf 0 0 = 10 := by rw [a4, c5]; rfl
            rw [if_neg (show ¬ nI T < 10 by rw [pu_lt]; omega), if_pos z]
            exact ⟨rfl, hs⟩
          · have z : ¬ rf 0 0 = 10 := by rw [a4, pu_eq]; omega
            rw [if_pos (show nI T < 10 by rw [pu_lt]; omega), if_neg z, ps_atE (show T < 10 by omega) a3, ps_rtE (show T < 10 by omega) a4]
            have p' := ps_Pl_task hP (show T < 10 by omega) (x := y0) (y := y1) (by omega) (by omega) (by omega) (by omega)
            refine ⟨rfl, T + 1, R, p', ?_, ?_, ?_, hl, h0, hb, ps_rh_F hh (by simp [cr_up])⟩
            · refine ps_W_cells (rf := rf) (ps_W_plan (ps_W_mono hW) ?_) (by simp [cr_up]) (by simp [cr_up]) (by simp [cr_up, upd]) (by simp [cr_up]) (by simp [cr_up])
              refine ps_Bd_plan hW.2.2.2.2.2.2.1 (by omega) (by omega) (Nat.le_refl _) (fun u hu => ?_) (fun u j u1 u2 hu hj us => ?_)
              · have uT : u ≤ T := by
                  rcases hW.2.2.2.2.2.2.1.1 u with q | q
                  · rw [q] at hu
                    exact absurd hu (by decide)
                  · exact q.2.1
                have ne : u ≠ T + 1 := by omega
                exact ⟨by simp [cr_up, upd, ne], by simp [cr_up, upd, ne]⟩
              · constructor
                · unfold ps_us at us ⊢
                  dsimp only
                  rw [pu_up_cell _ _ _ (show 6 + u ≠ 2 by omega), pu_up_cell _ _ _ (show 6 + u ≠ 1 by omega), pu_up_cell _ _ _ (show 6 + u ≠ 0 by omega)]
                  exact us
                · simp [cr_up]
            · exact ps_L_F (ps_L_mono hL) (by simp [cr_up]) (by simp [cr_up]) (by simp [cr_up]) (by simp [cr_up]) (by simp [cr_up, upd])
            · rw [hm]
              simp [cr_up]
theorem ps_Pl_res {pl rf : cr_S} {ln : Nat → Int64} {T R : Nat} (h : ps_Pl pl rf ln T R) (hR : R < 8) : ps_Pl (cr_up pl 0 1 (nI (R + 1))) (cr_up rf 0 2 (nI (R + 1))) ln T (R + 1) := by
  obtain ⟨⟨a1, a2, a3, a4, a5, a6, a7, a8, a9⟩, pL, pR, pU, pC, pO⟩ := h
  have ck : ∀ k, 1 ≤ k → (cr_up pl 0 1 (nI (R + 1))) k = pl k := fun k hk => pu_up_cell _ _ _ (show k ≠ 0 by omega)
  have c00 : (cr_up pl 0 1 (nI (R + 1))) 0 0 = pl 0 0 := by simp [cr_up, upd]
  have c01 : (cr_up pl 0 1 (nI (R + 1))) 0 1 = nI (R + 1) := by simp [cr_up, upd]
  have d00 : (cr_up rf 0 2 (nI (R + 1))) 0 0 = rf 0 0 := by simp [cr_up, upd]
  have d02 : (cr_up rf 0 2 (nI (R + 1))) 0 2 = nI (R + 1) := by simp [cr_up, upd]
  have d1 : (cr_up rf 0 2 (nI (R + 1))) 1 = rf 1 := by simp [cr_up]
  have d2 : (cr_up rf 0 2 (nI (R + 1))) 2 = rf 2 := by simp [cr_up]
  generalize cr_up pl 0 1 (nI (R + 1)) = p at ck c00 c01 ⊢
  generalize cr_up rf 0 2 (nI (R + 1)) = f at d1 d2 d00 d02 ⊢
  have us : ∀ t r, ps_us p t r ↔ ps_us pl t r := fun t r => by
    unfold ps_us
    rw [ck (6 + t) (by omega)]
  have e1 := ck 1 (by omega)
  have e2 := ck 2 (by omega)
  refine ⟨⟨a1, by omega, c00.trans a3, d00.trans a4, c01, d02, ?_, ?_, ?_⟩, fun t r ht hr => ?_, fun t t1 t2 => ?_, fun t r ht hr u => ?_, fun r hr => ?_, fun r hr => ?_⟩
  · rw [e1, d1, a7]
  · rw [e2, d2, a8]
  · intro j
    rw [e2]
    exact a9 j
  · rw [ck (6 + t) (by omega)]
    exact pL t r ht hr
  · rw [e1, e2]
    exact pR t t1 t2
  · have := pU t r ht hr ((us t r).mp u)
    omega
  · rw [ck 3 (by omega)]
    obtain ⟨m0, m1, m2⟩ := pC r hr
    refine ⟨m0, fun t t1 t2 u => ?_, ?_⟩
    · rw [e1]
      exact m1 t t1 t2 ((us t r).mp u)
    · rcases m2 with q | ⟨t, q1, q2, q3, q4⟩
      · exact Or.inl q
      · exact Or.inr ⟨t, q1, q2, (us t r).mpr q3, by rw [e1]; exact q4⟩
  · rw [ck 4 (by omega), e2]
    rcases pO r hr with ⟨z, w⟩ | ⟨z, ⟨t, w1, w2⟩, w⟩
    · exact Or.inl ⟨z, fun t ht u => w t ht ((us t r).mp u)⟩
    · exact Or.inr ⟨z, ⟨t, w1, (us t r).mpr w2⟩, fun k hk u => w k hk ((us k r).mp u)⟩
theorem ps_resource (N : Nat) (mn : cr_S) (lt : Int64) (pl bd lk tr tb rf : cr_S) (lat : Int64) (ln : Nat → Int64) (hN : N < 512) (h : ps_Sim N mn lt pl bd lk tr tb rf lat ln) : (md_Main_resource mn lt pl bd lk tr tb).1 = (md_Ref_resource rf lat ln).1 ∧ ps_Sim (N + 1) mn lt (md_Main_resource mn lt pl bd lk tr tb).2 bd lk tr tb (md_Ref_resource rf lat ln).2 lat ln := by
  have hs := ps_skip _ _ _ _ _ _ _ _ _ _ _ h
  obtain ⟨T, R, hP, hW, hL, hm, hl, h0, hb, hh⟩ := h
  obtain ⟨a1, a2, a3, a4, a5, a6, -⟩ := hP.1
  have k8 : (8 : Int32).toInt = 8 := by decide
  have Rt := ps_nI_t (k := R) (by omega)
  unfold md_Main_resource md_Ref_resource md_Plan_addResource
  rw [a5]
  by_cases c5 : R = 8
  · have z : rf 0 2 = 8 := by rw [a6, c5]; rfl
    rw [if_neg (show ¬ nI R < 8 by rw [pu_lt]; omega), if_pos z]
    exact ⟨rfl, hs⟩
  · have z : ¬ rf 0 2 = 8 := by rw [a6, pu_eq]; omega
    rw [if_pos (show nI R < 8 by rw [pu_lt]; omega), if_neg z, a6, show nI R + 1 = nI (R + 1) from nI_1 R, pu_up_same, pu_up_same]
    refine ⟨rfl, T, R + 1, ps_Pl_res hP (show R < 8 by omega), ?_, ?_, ?_, hl, h0, hb, ps_rh_F hh (by simp [cr_up])⟩
    · refine ps_W_cells (rf := rf) (ps_W_plan (ps_W_mono hW) ?_) (by simp [cr_up]) (by simp [cr_up]) (by simp [cr_up, upd]) (by simp [cr_up]) (by simp [cr_up])
      refine ps_Bd_plan hW.2.2.2.2.2.2.1 (Nat.le_refl _) a1 (by omega) (fun u hu => ⟨by simp [cr_up], by simp [cr_up]⟩) (fun u j u1 u2 hu hj us => ⟨?_, by simp [cr_up]⟩)
      unfold ps_us at us ⊢
      dsimp only
      rw [pu_up_cell _ _ _ (show 6 + u ≠ 0 by omega)]
      exact us
    · exact ps_L_F (ps_L_mono hL) (by simp [cr_up]) (by simp [cr_up]) (by simp [cr_up]) (by simp [cr_up]) (by simp [cr_up, upd])
    · rw [hm]
      simp [cr_up]
end
section
/-! uses -/
theorem ps_asL {pl bd : cr_S} {T : Nat} (hT : T ≤ 10) (e0 : pl 0 0 = nI T) (c : Int32) : ∀ (d k : Nat), 1 ≤ k → k ≤ T + 1 → 11 < d + k → ((∀ u, k ≤ u → u ≤ T → pl 2 u = c → bd 1 u = 0) → lo_Board_allSleepOn_2 pl bd c d (nI k) = 1) ∧ ((∃ u, k ≤ u ∧ u ≤ T ∧ pl 2 u = c ∧ bd 1 u ≠ 0) → lo_Board_allSleepOn_2 pl bd c d (nI k) = 0)
  | 0, k, _, a, b => absurd b (by omega)
  | d + 1, k, h1, hk, hd => by
    have kt := ps_nI_t (k := k) (by omega)
    have Tt := ps_nI_t (k := T) (by omega)
    rw [lo_Board_allSleepOn_2, e0]
    by_cases e : k = T + 1
    · have lt : nI T < nI k := by rw [pu_lt]; omega
      rw [if_pos lt]
      exact ⟨fun _ => rfl, fun ⟨u, a, b, _⟩ => absurd b (by omega)⟩
    · have nlt : ¬ nI T < nI k := by rw [pu_lt]; omega
      have ih := ps_asL (bd := bd) hT e0 c d (k + 1) (by omega) (by omega) (by omega)
      rw [if_neg nlt, ps_nI_c (k := k) (by omega), show nI k + 1 = nI (k + 1) from nI_1 k]
      have go : (pl 2 k = c → bd 1 k = 0) → ((∀ u, k ≤ u → u ≤ T → pl 2 u = c → bd 1 u = 0) → lo_Board_allSleepOn_2 pl bd c d (nI (k + 1)) = 1) ∧ ((∃ u, k ≤ u ∧ u ≤ T ∧ pl 2 u = c ∧ bd 1 u ≠ 0) → lo_Board_allSleepOn_2 pl bd c d (nI (k + 1)) = 0) := fun q => by
        refine ⟨fun w => ih.1 (fun u a b => w u (by omega) b), fun ⟨u, a, b, g, z⟩ => ih.2 ⟨u, ?_, b, g, z⟩⟩
        rcases Nat.lt_or_ge k u with y | y
        · exact y
        · have : u = k := by omega
          rw [this] at g z
          exact absurd (q g) z
      by_cases c1 : pl 2 k = c
      · rw [if_pos c1]
        by_cases c2 : bd 1 k = 0
        · rw [if_pos c2]
          exact go (fun _ => c2)
        · rw [if_neg c2]
          exact ⟨fun w => absurd (w k (Nat.le_refl _) (by omega) c1) c2, fun _ => rfl⟩
      · rw [if_neg c1]
        exact go (fun q => absurd q c1)
theorem ps_usL {pl bd rf : cr_S} {ln : Nat → Int64} {T R : Nat} (hP : ps_Pl pl rf ln T R) (e1 : bd 1 = rf 3) (lat : Int64) {t r : Nat} (t2 : t ≤ T) (r2 : r ≤ R) (x3 : Int64) : ∀ (d k : Nat), 1 ≤ k → k ≤ T + 1 → 11 < d + k → ((∀ u, k ≤ u → u ≤ T → (pl 2 u = pl 2 t → bd 1 u = 0) ∧ (pl 2 u ≠ pl 2 t → ¬ ps_us pl u r)) → lo_Ref_uses_38 rf lat ln (nI t) (nI r) x3 d (nI k) = ((if md_Plan_isUsedBy pl (nI t) (nI r) = 0 then 1 else 0), vp_updL ln (9 * t + r) x3)) ∧ ((∃ u, k ≤ u ∧ u ≤ T ∧ ((pl 2 u = pl 2 t ∧ bd 1 u ≠ 0) ∨ (pl 2 u ≠ pl 2 t ∧ ps_us pl u r))) → lo_Ref_uses_38 rf lat ln (nI t) (nI r) x3 d (nI k) = (-3, ln))
  | 0, k, _, a, b => absurd b (by have := hP.1.1; omega)
  | d + 1, k, h1, hk, hd => by
    obtain ⟨⟨a1, a2, a3, a4, a5, a6, a7, a8, a9⟩, pL, pR, pU, pC, pO⟩ := id hP
    have kt := ps_nI_t (k := k) (by omega)
    have Tt := ps_nI_t (k := T) (by omega)
    have n1 : ¬ (1 : Int32) = 0 := by decide
    rw [lo_Ref_uses_38, a4]
    by_cases e : k = T + 1
    · have lt : nI T < nI k := by rw [pu_lt]; omega
      have us := ps_us0 pL (t := t) (r := r) (by omega) (by omega)
      have le := ps_len pL (t := t) (r := r) (by omega) (by omega)
      rw [if_pos lt]
      refine ⟨fun _ => ?_, fun ⟨u, a, b, _⟩ => absurd b (by omega)⟩
      by_cases u : ps_us pl t r
      · rw [if_neg (show ¬ lg_cmp (ln ((9 : Int32) * nI t + nI r).toNatClampNeg) 0 ≤ 0 from fun q => le.mp q u), (us.1 u).1, if_neg n1, ps_ix9 (by omega) (by omega)]
      · rw [if_pos (show lg_cmp (ln ((9 : Int32) * nI t + nI r).toNatClampNeg) 0 ≤ 0 from le.mpr u), (us.2 u).1, if_pos rfl, ps_ix9 (by omega) (by omega)]
    · have nlt : ¬ nI T < nI k := by rw [pu_lt]; omega
      have ih := ps_usL hP e1 lat t2 r2 x3 d (k + 1) (by omega) (by omega) (by omega)
      have le := ps_len pL (t := k) (r := r) (by omega) (by omega)
      have k1 : k ≤ T := by omega
      rw [if_neg nlt, ps_nI_c (k := k) (by omega), ps_nI_c (k := t) (by omega), show nI k + 1 = nI (k + 1) from nI_1 k, ← a8, ← e1]
      have go : (pl 2 k = pl 2 t → bd 1 k = 0) → (pl 2 k ≠ pl 2 t → ¬ ps_us pl k r) → ((∀ u, k ≤ u → u ≤ T → (pl 2 u = pl 2 t → bd 1 u = 0) ∧ (pl 2 u ≠ pl 2 t → ¬ ps_us pl u r)) → lo_Ref_uses_38 rf lat ln (nI t) (nI r) x3 d (nI (k + 1)) = ((if md_Plan_isUsedBy pl (nI t) (nI r) = 0 then 1 else 0), vp_updL ln (9 * t + r) x3)) ∧ ((∃ u, k ≤ u ∧ u ≤ T ∧ ((pl 2 u = pl 2 t ∧ bd 1 u ≠ 0) ∨ (pl 2 u ≠ pl 2 t ∧ ps_us pl u r))) → lo_Ref_uses_38 rf lat ln (nI t) (nI r) x3 d (nI (k + 1)) = (-3, ln)) := fun q q' => by
        refine ⟨fun w => ih.1 (fun u a b => w u (by omega) b), fun ⟨u, a, b, g⟩ => ih.2 ⟨u, ?_, b, g⟩⟩
        rcases Nat.lt_or_ge k u with y | y
        · exact y
        · have : u = k := by omega
          rw [this] at g
          rcases g with ⟨g, z⟩ | ⟨g, z⟩
          · exact absurd (q g) z
          · exact absurd z (q' g)
      by_cases c1 : pl 2 k = pl 2 t
      · rw [if_pos c1]
        by_cases c2 : bd 1 k = 0
        · rw [if_pos c2, if_pos c1]
          exact go (fun _ => c2) (fun q => absurd c1 q)
        · rw [if_neg c2]
          exact ⟨fun w => absurd ((w k (Nat.le_refl _) k1).1 c1) c2, fun _ => rfl⟩
      · rw [if_neg c1, if_neg c1]
        by_cases u : ps_us pl k r
        · rw [if_neg (show ¬ lg_cmp (ln ((9 : Int32) * nI k + nI r).toNatClampNeg) 0 ≤ 0 from fun q => le.mp q u)]
          exact ⟨fun w => absurd u ((w k (Nat.le_refl _) k1).2 c1), fun _ => rfl⟩
        · rw [if_pos (show lg_cmp (ln ((9 : Int32) * nI k + nI r).toNatClampNeg) 0 ≤ 0 from le.mpr u)]
          exact go (fun q => absurd q c1) (fun _ => u)
theorem ps_suE (pl : cr_S) {t r : Nat} (ht : t ≤ 10) (hr : r ≤ 8) (x : Int32) : md_Plan_setUse pl (nI t) (nI r) x = cr_up (cr_up (cr_up pl (6 + t) r x) 4 r (pl 2 t)) 3 r (cr_max (pl 3 r) (pl 1 t)) := by
  unfold md_Plan_setUse
  rw [ps_nI_c (k := t) (by omega), ps_nI_c (k := r) (by omega), pu_up_cell pl r x (show 2 ≠ 6 + t by omega), pu_up_cell (cr_up pl (6 + t) r x) r (pl 2 t) (show 3 ≠ 4 by decide), pu_up_cell pl r x (show 3 ≠ 6 + t by omega), pu_up_cell (cr_up pl (6 + t) r x) r (pl 2 t) (show 1 ≠ 4 by decide), pu_up_cell pl r x (show 1 ≠ 6 + t by omega)]
theorem ps_Pl_use {pl rf : cr_S} {ln : Nat → Int64} {T R t r : Nat} (h : ps_Pl pl rf ln T R) (t1 : 1 ≤ t) (t2 : t ≤ T) (r1 : 1 ≤ r) (r2 : r ≤ R) (x3 : Int64) (x1 : 1 ≤ x3.toInt) (x2 : x3.toInt ≤ 1000) (ho : pl 4 r = 0 ∨ pl 4 r = pl 2 t) : ps_Pl (cr_up (cr_up (cr_up pl (6 + t) r x3.toInt32) 4 r (pl 2 t)) 3 r (cr_max (pl 3 r) (pl 1 t))) rf (vp_updL ln (9 * t + r) x3) T R := by
  obtain ⟨⟨a1, a2, a3, a4, a5, a6, a7, a8, a9⟩, pL, pR, pU, pC, pO⟩ := h
  have xi : x3.toInt32.toInt = x3.toInt := by
    rw [Int64.toInt_toInt32]
    exact cr_bmod ⟨by omega, by omega⟩
  have xl : x3 = x3.toInt32.toInt64 := by
    rw [← Int64.toInt_inj, ps_i64, xi]
  have cL : ∀ t' r', (cr_up (cr_up (cr_up pl (6 + t) r x3.toInt32) 4 r (pl 2 t)) 3 r (cr_max (pl 3 r) (pl 1 t))) (6 + t') r' = if t' = t ∧ r' = r then x3.toInt32 else pl (6 + t') r' := fun t' r' => by
    rw [pu_up_cell _ _ _ (show 6 + t' ≠ 3 by omega), pu_up_cell _ _ _ (show 6 + t' ≠ 4 by omega)]
    by_cases w : t' = t
    · subst w
      rw [pu_up_fn]
      by_cases z : r' = r
      · subst z
        rw [ps_us_s, if_pos (show t' = t' ∧ r' = r' from ⟨rfl, rfl⟩)]
      · rw [ps_us_n _ _ z, if_neg (show ¬ (t' = t' ∧ r' = r) from fun q => z q.2)]
    · rw [pu_up_cell _ _ _ (show 6 + t' ≠ 6 + t by omega), if_neg (show ¬ (t' = t ∧ r' = r) from fun q => w q.1)]
  have cl : ∀ k, k ≤ 2 → (cr_up (cr_up (cr_up pl (6 + t) r x3.toInt32) 4 r (pl 2 t)) 3 r (cr_max (pl 3 r) (pl 1 t))) k = pl k := fun k hk => by
    rw [pu_up_cell _ _ _ (show k ≠ 3 by omega), pu_up_cell _ _ _ (show k ≠ 4 by omega), pu_up_cell _ _ _ (show k ≠ 6 + t by omega)]
  have c3 : (cr_up (cr_up (cr_up pl (6 + t) r x3.toInt32) 4 r (pl 2 t)) 3 r (cr_max (pl 3 r) (pl 1 t))) 3 = upd (pl 3) r (cr_max (pl 3 r) (pl 1 t)) := by
    rw [pu_up_fn, pu_up_cell _ _ _ (show (3 : Nat) ≠ 4 by decide), pu_up_cell _ _ _ (show 3 ≠ 6 + t by omega)]
  have c4 : (cr_up (cr_up (cr_up pl (6 + t) r x3.toInt32) 4 r (pl 2 t)) 3 r (cr_max (pl 3 r) (pl 1 t))) 4 = upd (pl 4) r (pl 2 t) := by
    rw [pu_up_cell _ _ _ (show (4 : Nat) ≠ 3 by decide), pu_up_fn, pu_up_cell _ _ _ (show 4 ≠ 6 + t by omega)]
  generalize cr_up (cr_up (cr_up pl (6 + t) r x3.toInt32) 4 r (pl 2 t)) 3 r (cr_max (pl 3 r) (pl 1 t)) = p at cL cl c3 c4 ⊢
  have e0 := cl 0 (by omega)
  have e1 := cl 1 (by omega)
  have e2 := cl 2 (by omega)
  have usT : ps_us p t r := by
    unfold ps_us
    rw [cL t r, if_pos (show t = t ∧ r = r from ⟨rfl, rfl⟩)]
    omega
  have usO : ∀ t' r', ¬ (t' = t ∧ r' = r) → (ps_us p t' r' ↔ ps_us pl t' r') := fun t' r' q => by
    unfold ps_us
    rw [cL t' r', if_neg q]
  have usM : ∀ t' r', ps_us pl t' r' → ps_us p t' r' := fun t' r' q => by
    by_cases w : t' = t ∧ r' = r
    · rw [w.1, w.2]
      exact usT
    · exact (usO t' r' w).mpr q
  have rt := pR t t1 t2
  refine ⟨⟨a1, a2, by rw [e0]; exact a3, a4, by rw [e0]; exact a5, a6, e1.trans a7, e2.trans a8, ?_⟩, fun t' r' ht hr => ?_, fun t' q1 q2 => ?_, fun t' r' ht hr u => ?_, fun r' hr => ?_, fun r' hr => ?_⟩
  · intro j
    rw [e2]
    exact a9 j
  · rw [cL t' r']
    unfold vp_updL
    by_cases w : t' = t ∧ r' = r
    · rw [if_pos w, if_pos (show 9 * t' + r' = 9 * t + r by omega), xi]
      exact ⟨xl, by omega, x2⟩
    · rw [if_neg w, if_neg (show ¬ 9 * t' + r' = 9 * t + r by omega)]
      exact pL t' r' ht hr
  · rw [e1, e2]
    exact pR t' q1 q2
  · by_cases w : t' = t ∧ r' = r
    · omega
    · exact pU t' r' ht hr ((usO t' r' w).mp u)
  · rw [c3]
    obtain ⟨m0, m1, m2⟩ := pC r' hr
    by_cases z : r' = r
    · subst z
      rw [ps_us_s]
      have mt := cr_max_t (pl 3 r') (pl 1 t)
      refine ⟨by omega, fun k k1 k2 u => ?_, ?_⟩
      · rw [e1]
        by_cases w : k = t
        · rw [w]
          omega
        · have := m1 k k1 k2 ((usO k r' (fun q => w q.1)).mp u)
          omega
      · by_cases y : pl 3 r' < pl 1 t
        · refine Or.inr ⟨t, t1, by omega, usT, ?_⟩
          rw [e1]
          unfold cr_max
          rw [if_pos y]
        · have y' : cr_max (pl 3 r') (pl 1 t) = pl 3 r' := by
            unfold cr_max
            rw [if_neg y]
          have y2 := cr_nlt y
          rw [y']
          rcases m2 with q | ⟨k, q1, q2, q3, q4⟩
          · exact Or.inl q
          · exact Or.inr ⟨k, q1, q2, usM k r' q3, by rw [e1]; exact q4⟩
    · rw [ps_us_n _ _ z]
      refine ⟨m0, fun k k1 k2 u => ?_, ?_⟩
      · rw [e1]
        exact m1 k k1 k2 ((usO k r' (fun q => z q.2)).mp u)
      · rcases m2 with q | ⟨k, q1, q2, q3, q4⟩
        · exact Or.inl q
        · exact Or.inr ⟨k, q1, q2, usM k r' q3, by rw [e1]; exact q4⟩
  · rw [c4, e2]
    by_cases z : r' = r
    · subst z
      rw [ps_us_s]
      refine Or.inr ⟨fun q => ?_, ⟨t, by omega, usT⟩, fun k hk u => ?_⟩
      · have := rt.2.2.1
        rw [q] at this
        exact absurd this (by decide)
      · by_cases w : k = t
        · rw [w]
        · have u' := (usO k r' (fun q => w q.1)).mp u
          rcases pO r' hr with ⟨_, y⟩ | ⟨y, _, y'⟩
          · exact absurd u' (y k hk)
          · rcases ho with o | o
            · exact absurd o y
            · rw [y' k hk u', o]
    · rw [ps_us_n _ _ z]
      rcases pO r' hr with ⟨y, w⟩ | ⟨y, ⟨k, w1, w2⟩, w⟩
      · exact Or.inl ⟨y, fun k hk u => w k hk ((usO k r' (fun q => z q.2)).mp u)⟩
      · exact Or.inr ⟨y, ⟨k, w1, usM k r' w2⟩, fun k hk u => w k hk ((usO k r' (fun q => z q.2)).mp u)⟩
theorem ps_uses (N : Nat) (mn : cr_S) (lt : Int64) (pl bd lk tr tb rf : cr_S) (lat : Int64) (ln : Nat → Int64) (y0 y1 : Int32) (y2 : Int64) (hN : N < 512) (h : ps_Sim N mn lt pl bd lk tr tb rf lat ln) : (md_Main_uses mn lt pl bd lk tr tb y0 y1 y2).1 = (md_Ref_uses rf lat ln y0 y1 y2).1 ∧ ps_Sim (N + 1) mn lt (md_Main_uses mn lt pl bd lk tr tb y0 y1 y2).2 bd lk tr tb rf lat (md_Ref_uses rf lat ln y0 y1 y2).2 := by
  have hs := ps_skip _ _ _ _ _ _ _ _ _ _ _ h
  obtain ⟨T, R, hP, hW, hL, hm, hl, h0, hb, hh⟩ := h
  obtain ⟨⟨a1, a2, a3, a4, a5, a6, a7, a8, a9⟩, pL, pR, pU, pC, pO⟩ := id hP
  have n1 : ¬ (1 : Int32) = 0 := by decide
  unfold md_Main_uses md_Ref_uses
  rcases ps_hasT hP.1 lat ln y0 with ⟨q1, q2⟩ | ⟨q1, q2, t, t1, t2, rfl⟩
  · rw [q1, q2, if_pos rfl, if_pos rfl]
    exact ⟨rfl, hs⟩
  · rw [q1, q2, if_neg n1, if_neg n1]
    rcases ps_hasR hP.1 lat ln y1 with ⟨p1, p2⟩ | ⟨p1, p2, r, r1, r2, rfl⟩
    · rw [p1, p2, if_pos rfl, if_pos rfl]
      exact ⟨rfl, hs⟩
    · rw [p1, p2, if_neg n1, if_neg n1]
      by_cases c1 : lg_cmp y2 1 < 0
      · rw [if_pos c1, if_pos c1]
        exact ⟨rfl, hs⟩
      · rw [if_neg c1, if_neg c1]
        by_cases c2 : lg_cmp y2 1000 ≤ 0
        · rw [if_pos c2, if_pos c2, ps_nI_c (k := t) (by omega)]
          have j1 : (1 : Int64).toInt = 1 := by decide
          have j2 : (1000 : Int64).toInt = 1000 := by decide
          have y1' : 1 ≤ y2.toInt := by
            rw [lg_cmp_lt, Int64.lt_iff_toInt_lt] at c1
            omega
          have y2' : y2.toInt ≤ 1000 := by
            rw [lg_cmp_le, Int64.le_iff_toInt_le] at c2
            omega
          have as := ps_asL (pl := pl) (bd := bd) a1 a3 (pl 2 t) 11 1 (by omega) (by omega) (by omega)
          have as1 : (∀ u, 1 ≤ u → u ≤ T → pl 2 u = pl 2 t → bd 1 u = 0) → md_Board_allSleepOn pl bd (pl 2 t) = 1 := as.1
          have as2 : (∃ u, 1 ≤ u ∧ u ≤ T ∧ pl 2 u = pl 2 t ∧ bd 1 u ≠ 0) → md_Board_allSleepOn pl bd (pl 2 t) = 0 := as.2
          have ur := ps_usL hP hW.1 lat t2 r2 y2 11 1 (by omega) (by omega) (by omega)
          have ur1 : (∀ u, 1 ≤ u → u ≤ T → (pl 2 u = pl 2 t → bd 1 u = 0) ∧ (pl 2 u ≠ pl 2 t → ¬ ps_us pl u r)) → lo_Ref_uses_38 rf lat ln (nI t) (nI r) y2 11 1 = ((if md_Plan_isUsedBy pl (nI t) (nI r) = 0 then 1 else 0), vp_updL ln (9 * t + r) y2) := ur.1
          have ur2 : (∃ u, 1 ≤ u ∧ u ≤ T ∧ ((pl 2 u = pl 2 t ∧ bd 1 u ≠ 0) ∨ (pl 2 u ≠ pl 2 t ∧ ps_us pl u r))) → lo_Ref_uses_38 rf lat ln (nI t) (nI r) y2 11 1 = (-3, ln) := ur.2
          clear as ur
          by_cases A : ∃ u, 1 ≤ u ∧ u ≤ T ∧ pl 2 u = pl 2 t ∧ bd 1 u ≠ 0
          · rw [as2 A, if_pos rfl]
            obtain ⟨u, u1, u2, u3, u4⟩ := A
            rw [ur2 ⟨u, u1, u2, Or.inl ⟨u3, u4⟩⟩]
            exact ⟨rfl, hs⟩
          · have A' : ∀ u, 1 ≤ u → u ≤ T → pl 2 u = pl 2 t → bd 1 u = 0 := fun u u1 u2 u3 => Decidable.byContradiction (fun u4 => A ⟨u, u1, u2, u3, u4⟩)
            rw [as1 A', if_neg n1]
            by_cases C : ∃ u, 1 ≤ u ∧ u ≤ T ∧ pl 2 u ≠ pl 2 t ∧ ps_us pl u r
            · obtain ⟨u, u1, u2, u3, u4⟩ := C
              have z : md_Plan_isUsedByAnotherCore pl (nI r) (pl 2 t) = 1 := by
                unfold md_Plan_isUsedByAnotherCore
                rw [ps_nI_c (k := r) (by omega)]
                rcases pO r (by omega) with ⟨_, y⟩ | ⟨y, _, y'⟩
                · exact absurd u4 (y u (by omega))
                · rw [if_neg y, if_neg (show ¬ pl 4 r = pl 2 t from fun q => u3 ((y' u (by omega) u4).trans q))]
              rw [z, if_neg n1, ur2 ⟨u, u1, u2, Or.inr ⟨u3, u4⟩⟩]
              exact ⟨rfl, hs⟩
            · have C' : ∀ u, 1 ≤ u → u ≤ T → pl 2 u ≠ pl 2 t → ¬ ps_us pl u r := fun u u1 u2 u3 u4 => C ⟨u, u1, u2, u3, u4⟩
              have ho : pl 4 r = 0 ∨ pl 4 r = pl 2 t := by
                rcases pO r (by omega) with ⟨y, _⟩ | ⟨y, ⟨u, w1, w2⟩, y'⟩
                · exact Or.inl y
                · have v := pU u r w1 (by omega) w2
                  refine Or.inr (Decidable.byContradiction (fun q => C' u v.1 v.2.1 (fun g => q ?_) w2))
                  rw [← y' u w1 w2, g]
              have z : md_Plan_isUsedByAnotherCore pl (nI r) (pl 2 t) = 0 := by
                unfold md_Plan_isUsedByAnotherCore
                rw [ps_nI_c (k := r) (by omega)]
                by_cases y : pl 4 r = 0
                · rw [if_pos y]
                · rw [if_neg y, if_pos (show pl 4 r = pl 2 t from ho.resolve_left y)]
              rw [z, if_pos rfl, ur1 (fun u u1 u2 => ⟨A' u u1 u2, C' u u1 u2⟩), ps_suE pl (by omega) (by omega)]
              have p' := ps_Pl_use hP t1 t2 r1 r2 y2 y1' y2' ho
              have bdp : ps_Bd (cr_up (cr_up (cr_up pl (6 + t) r y2.toInt32) 4 r (pl 2 t)) 3 r (cr_max (pl 3 r) (pl 1 t))) bd T R := by
                refine ps_Bd_plan hW.2.2.2.2.2.2.1 (Nat.le_refl _) a1 (Nat.le_refl _) (fun u hu => ⟨?_, ?_⟩) (fun u j u1 u2 hu hj us => ?_)
                · rw [pu_up_cell _ _ _ (show (1 : Nat) ≠ 3 by decide), pu_up_cell _ _ _ (show (1 : Nat) ≠ 4 by decide), pu_up_cell _ _ _ (show 1 ≠ 6 + t by omega)]
                · rw [pu_up_cell _ _ _ (show (2 : Nat) ≠ 3 by decide), pu_up_cell _ _ _ (show (2 : Nat) ≠ 4 by decide), pu_up_cell _ _ _ (show 2 ≠ 6 + t by omega)]
                · have bh := ps_B4h hW.2.2.2.2.2.2.1.2.2.2.1 a1 u1 (by omega) hj
                  have jr : j ≠ r := fun q => by
                    rw [q] at us
                    by_cases w : pl 2 u = pl 2 t
                    · have := A' u u1 u2 w
                      rw [this] at hu
                      exact absurd hu (by decide)
                    · exact C' u u1 u2 w us
                  constructor
                  · unfold ps_us at us ⊢
                    rw [pu_up_cell _ _ _ (show 6 + u ≠ 3 by omega), pu_up_cell _ _ _ (show 6 + u ≠ 4 by omega)]
                    by_cases w : u = t
                    · rw [w] at us ⊢
                      rw [pu_up_fn, ps_us_n _ _ jr]
                      exact us
                    · rw [pu_up_cell _ _ _ (show 6 + u ≠ 6 + t by omega)]
                      exact us
                  · rw [pu_up_fn, ps_us_n _ _ jr, pu_up_cell _ _ _ (show (3 : Nat) ≠ 4 by decide), pu_up_cell _ _ _ (show 3 ≠ 6 + t by omega)]
              have fin : ps_Sim (N + 1) mn lt (cr_up (cr_up (cr_up pl (6 + t) r y2.toInt32) 4 r (pl 2 t)) 3 r (cr_max (pl 3 r) (pl 1 t))) bd lk tr tb rf lat (vp_updL ln (9 * t + r) y2) := ⟨T, R, p', ps_W_plan (ps_W_mono hW) bdp, ps_L_mono hL, hm, hl, h0, hb, hh⟩
              by_cases w : md_Plan_isUsedBy pl (nI t) (nI r) = 0
              · rw [if_pos w, if_pos w]
                exact ⟨rfl, fin⟩
              · rw [if_neg w, if_neg w]
                exact ⟨rfl, fin⟩
        · rw [if_neg c2, if_neg c2]
          exact ⟨rfl, hs⟩
end
section
/-! the trial: what a task does at its own tick -/
theorem ps_ra_any (pl tr tb tr' tb' : cr_S) (x1 x2 : Int32) : ∀ (n : Nat) (a b : Int32), lo_Trial_resourceAt_5 pl tr tb x1 x2 n a b = lo_Trial_resourceAt_5 pl tr' tb' x1 x2 n a b
  | 0, _, _ => rfl
  | n + 1, a, b => by
    have ih := ps_ra_any pl tr tb tr' tb' x1 x2 n
    rw [lo_Trial_resourceAt_5, lo_Trial_resourceAt_5]
    simp only [md_Trial_ticksWith, ih]
    rfl
theorem ps_to_any (pl tr tb tr' tb' : cr_S) (x1 : Int32) : ∀ (n : Nat) (a b : Int32), lo_Trial_ticksOf_4 pl tr tb x1 n a b = lo_Trial_ticksOf_4 pl tr' tb' x1 n a b
  | 0, _, _ => rfl
  | n + 1, a, b => by
    have ih := ps_to_any pl tr tb tr' tb' x1 n
    rw [lo_Trial_ticksOf_4, lo_Trial_ticksOf_4]
    simp only [md_Trial_ticksWith, ih]
def ps_z : cr_S := fun _ _ => 0
def ps_ra (pl : cr_S) (x y : Int32) : Int32 := md_Trial_resourceAt pl ps_z ps_z x y
def ps_to (pl : cr_S) (x : Int32) : Int32 := md_Trial_ticksOf pl ps_z ps_z x
theorem ps_raE (pl tr tb : cr_S) (x y : Int32) : md_Trial_resourceAt pl tr tb x y = ps_ra pl x y := ps_ra_any pl tr tb ps_z ps_z x y 9 1 1
theorem ps_toE (pl tr tb : cr_S) (x : Int32) : md_Trial_ticksOf pl tr tb x = ps_to pl x := ps_to_any pl tr tb ps_z ps_z x 9 1 1
theorem ps_tw {pl : cr_S} {ln : Nat → Int64} (h : ps_PL pl ln) {t r : Nat} (ht : t ≤ 10) (hr : r ≤ 8) (hu : ps_us pl t r) : 1 ≤ (md_Trial_ticksWith pl ps_z ps_z (nI t) (nI r)).toInt ∧ (md_Trial_ticksWith pl ps_z ps_z (nI t) (nI r)).toInt ≤ 3 ∧ (0 ≤ lg_cmp (ln ((9 : Int32) * nI t + nI r).toNatClampNeg) 3 → (3 : Int32) = md_Trial_ticksWith pl ps_z ps_z (nI t) (nI r)) ∧ (¬ 0 ≤ lg_cmp (ln ((9 : Int32) * nI t + nI r).toNatClampNeg) 3 → (ln ((9 : Int32) * nI t + nI r).toNatClampNeg).toInt32 = md_Trial_ticksWith pl ps_z ps_z (nI t) (nI r)) := by
  have k3 : (3 : Int32).toInt = 3 := by decide
  have j3 : (3 : Int64).toInt = 3 := by decide
  have l := h t r ht hr
  have i := ps_i64 (pl (6 + t) r)
  unfold ps_us at hu
  unfold md_Trial_ticksWith
  rw [ps_ix9 ht hr, ps_nI_c (k := t) (by omega), ps_nI_c (k := r) (by omega), l.1, lg_cmp_ge, Int64.le_iff_toInt_le, i, j3]
  have m := cr_min_t (pl (6 + t) r) 3
  refine ⟨by omega, by omega, fun q => ?_, fun q => ?_⟩
  · rw [pu_eq]
    omega
  · have : (pl (6 + t) r).toInt64.toInt32 = pl (6 + t) r := by simp
    rw [this, pu_eq]
    omega
theorem ps_ra0 {pl : cr_S} {ln : Nat → Int64} (h : ps_PL pl ln) {R t : Nat} (hR : R ≤ 8) (e1 : pl 0 1 = nI R) (ht : t ≤ 10) (own : Int32) : ∀ (d k : Nat) (f : Int32), 1 ≤ k → k ≤ R + 1 → 9 < d + k → own.toInt < f.toInt → 0 ≤ f.toInt → f.toInt ≤ 1000 + 4 * k → lo_Trial_resourceAt_5 pl ps_z ps_z (nI t) own d f (nI k) = 0
  | 0, k, f, _, a, b, _, _, _ => absurd b (by omega)
  | d + 1, k, f, h1, hk, hd, ho, hf0, hf => by
    have kt := ps_nI_t (k := k) (by omega)
    have Rt := ps_nI_t (k := R) (by omega)
    have k1 : (1 : Int32).toInt = 1 := by decide
    have n1 : ¬ (1 : Int32) = 0 := by decide
    rw [lo_Trial_resourceAt_5, e1]
    by_cases e : k = R + 1
    · have lt : nI R < nI k := by rw [pu_lt]; omega
      rw [if_pos lt]
    · have nlt : ¬ nI R < nI k := by rw [pu_lt]; omega
      rw [if_neg nlt, show nI k + 1 = nI (k + 1) from nI_1 k]
      have us := ps_us0 h (t := t) (r := k) ht (by omega)
      have a1 : 1 ≤ k + 1 := by omega
      have a2 : k + 1 ≤ R + 1 := by omega
      have a3 : 9 < d + (k + 1) := by omega
      by_cases u : ps_us pl t k
      · have tw := ps_tw h ht (show k ≤ 8 by omega) u
        have s1 : (f + md_Trial_ticksWith pl ps_z ps_z (nI t) (nI k)).toInt = f.toInt + (md_Trial_ticksWith pl ps_z ps_z (nI t) (nI k)).toInt := cr_add (by omega)
        have s2 : (f + md_Trial_ticksWith pl ps_z ps_z (nI t) (nI k) + 1).toInt = f.toInt + (md_Trial_ticksWith pl ps_z ps_z (nI t) (nI k)).toInt + 1 := by
          rw [cr_add (by omega), s1, k1]
        rw [(us.1 u).1, if_neg n1, if_pos (show own < f by rw [pu_lt]; omega)]
        exact ps_ra0 h hR e1 ht own d (k + 1) _ a1 a2 a3 (by omega) (by omega) (by omega)
      · rw [(us.2 u).1, if_pos rfl]
        exact ps_ra0 h hR e1 ht own d (k + 1) f a1 a2 a3 ho hf0 (by omega)
theorem ps_toB {pl : cr_S} {ln : Nat → Int64} (h : ps_PL pl ln) {R t : Nat} (hR : R ≤ 8) (e1 : pl 0 1 = nI R) (ht : t ≤ 10) : ∀ (d k : Nat) (f : Int32), 1 ≤ k → k ≤ R + 1 → 9 < d + k → 0 ≤ f.toInt → f.toInt ≤ 1000 + 4 * k → f.toInt ≤ (lo_Trial_ticksOf_4 pl ps_z ps_z (nI t) d f (nI k)).toInt ∧ (lo_Trial_ticksOf_4 pl ps_z ps_z (nI t) d f (nI k)).toInt ≤ f.toInt + 4 * ((R + 1 - k : Nat) : Int)
  | 0, k, f, _, a, b, _, _ => absurd b (by omega)
  | d + 1, k, f, h1, hk, hd, hf0, hf => by
    have kt := ps_nI_t (k := k) (by omega)
    have Rt := ps_nI_t (k := R) (by omega)
    have k1 : (1 : Int32).toInt = 1 := by decide
    have n1 : ¬ (1 : Int32) = 0 := by decide
    rw [lo_Trial_ticksOf_4, e1]
    by_cases e : k = R + 1
    · have lt : nI R < nI k := by rw [pu_lt]; omega
      rw [if_pos lt]
      omega
    · have nlt : ¬ nI R < nI k := by rw [pu_lt]; omega
      rw [if_neg nlt, show nI k + 1 = nI (k + 1) from nI_1 k]
      have us := ps_us0 h (t := t) (r := k) ht (by omega)
      have a1 : 1 ≤ k + 1 := by omega
      have a2 : k + 1 ≤ R + 1 := by omega
      have a3 : 9 < d + (k + 1) := by omega
      by_cases u : ps_us pl t k
      · have tw := ps_tw h ht (show k ≤ 8 by omega) u
        have s1 : (md_Trial_ticksWith pl ps_z ps_z (nI t) (nI k) + 1).toInt = (md_Trial_ticksWith pl ps_z ps_z (nI t) (nI k)).toInt + 1 := by
          rw [cr_add (by omega), k1]
        have s2 : (f + (md_Trial_ticksWith pl ps_z ps_z (nI t) (nI k) + 1)).toInt = f.toInt + (md_Trial_ticksWith pl ps_z ps_z (nI t) (nI k)).toInt + 1 := by
          rw [cr_add (by omega), s1]
          omega
        rw [(us.1 u).1, if_neg n1]
        have ih := ps_toB h hR e1 ht d (k + 1) (f + (md_Trial_ticksWith pl ps_z ps_z (nI t) (nI k) + 1)) a1 a2 a3 (by omega) (by omega)
        omega
      · rw [(us.2 u).1, if_pos rfl]
        have ih := ps_toB h hR e1 ht d (k + 1) f a1 a2 a3 hf0 (by omega)
        omega
theorem ps_tkL {pl rf : cr_S} {ln : Nat → Int64} {T R : Nat} (hP : ps_Pl pl rf ln T R) (lat : Int64) {t : Nat} (ht : t ≤ 10) (x own : Int32) (ho : own.toInt ≤ 100) : ∀ (d k : Nat) (f l : Int32), 1 ≤ k → k ≤ R + 1 → 9 < d + k → 1 ≤ f.toInt → f.toInt ≤ own.toInt → f.toInt ≤ 4 * k → l.toInt = own.toInt - f.toInt → (∃ r, (r = 0 ∨ (1 ≤ r ∧ r ≤ R ∧ ps_us pl t r)) ∧ lo_Ref_tickOf_14 rf lat ln (nI t) x d l (nI k) = nI r ∧ lo_Trial_resourceAt_5 pl ps_z ps_z (nI t) own d f (nI k) = nI r ∧ own.toInt < (lo_Trial_ticksOf_4 pl ps_z ps_z (nI t) d f (nI k)).toInt) ∨ (lo_Ref_tickOf_14 rf lat ln (nI t) x d l (nI k) = -1 ∧ lo_Trial_resourceAt_5 pl ps_z ps_z (nI t) own d f (nI k) = 0 ∧ (lo_Trial_ticksOf_4 pl ps_z ps_z (nI t) d f (nI k)).toInt ≤ own.toInt) := by
  obtain ⟨⟨a1, a2, a3, a4, a5, a6, a7, a8, a9⟩, pL, -⟩ := hP
  have k1 : (1 : Int32).toInt = 1 := by decide
  have n1 : ¬ (1 : Int32) = 0 := by decide
  intro d
  induction d with
  | zero => exact fun k f l _ a b => absurd b (by omega)
  | succ d ih =>
    intro k f l h1 hk hd hf1 hfo hf4 hl
    have kt := ps_nI_t (k := k) (by omega)
    have Rt := ps_nI_t (k := R) (by omega)
    rw [lo_Ref_tickOf_14, lo_Trial_resourceAt_5, lo_Trial_ticksOf_4, a5, a6]
    by_cases e : k = R + 1
    · have lt : nI R < nI k := by rw [pu_lt]; omega
      rw [if_pos lt, if_pos lt, if_pos lt]
      exact Or.inr ⟨rfl, rfl, hfo⟩
    · have nlt : ¬ nI R < nI k := by rw [pu_lt]; omega
      rw [if_neg nlt, if_neg nlt, if_neg nlt, show nI k + 1 = nI (k + 1) from nI_1 k]
      have k8 : k ≤ 8 := by omega
      have kR : k ≤ R := by omega
      have us := ps_us0 pL (t := t) (r := k) ht k8
      have b1 : 1 ≤ k + 1 := by omega
      have b2 : k + 1 ≤ R + 1 := by omega
      have b3 : 9 < d + (k + 1) := by omega
      by_cases u : ps_us pl t k
      · obtain ⟨w1, w2, w3, w4⟩ := ps_tw pL ht k8 u
        have g1 : (1 : Int32) = 0 ↔ False := ⟨n1, False.elim⟩
        rw [(us.1 u).1, if_neg n1, if_neg n1, if_neg (us.1 u).2]
        have nn : ∀ (X Y : Int32), (if 0 ≤ lg_cmp (ln ((9 : Int32) * nI t + nI k).toNatClampNeg) 3 then (if (3 : Int32) ≤ l then (if l = (3 : Int32) then X else lo_Ref_tickOf_14 rf lat ln (nI t) x d (l - ((3 : Int32) + (1 : Int32))) (nI (k + 1))) else Y) else (if (ln ((9 : Int32) * nI t + nI k).toNatClampNeg).toInt32 ≤ l then (if l = (ln ((9 : Int32) * nI t + nI k).toNatClampNeg).toInt32 then X else lo_Ref_tickOf_14 rf lat ln (nI t) x d (l - ((ln ((9 : Int32) * nI t + nI k).toNatClampNeg).toInt32 + (1 : Int32))) (nI (k + 1))) else Y)) = (if md_Trial_ticksWith pl ps_z ps_z (nI t) (nI k) ≤ l then (if l = md_Trial_ticksWith pl ps_z ps_z (nI t) (nI k) then X else lo_Ref_tickOf_14 rf lat ln (nI t) x d (l - (md_Trial_ticksWith pl ps_z ps_z (nI t) (nI k) + (1 : Int32))) (nI (k + 1))) else Y) := fun X Y => by
          by_cases q : 0 ≤ lg_cmp (ln ((9 : Int32) * nI t + nI k).toNatClampNeg) 3
          · rw [if_pos q, ← w3 q]
          · rw [if_neg q, w4 q]
        rw [nn]
        clear nn w3 w4
        generalize md_Trial_ticksWith pl ps_z ps_z (nI t) (nI k) = n at w1 w2 ⊢
        have s1 : (f + n).toInt = f.toInt + n.toInt := cr_add (by omega)
        have s2 : (n + 1).toInt = n.toInt + 1 := by rw [cr_add (by omega), k1]
        have s3 : (f + (n + 1)).toInt = f.toInt + n.toInt + 1 := by
          rw [cr_add (by omega), s2]
          omega
        have s4 : f + n + 1 = f + (n + 1) := by
          rw [pu_eq, s3, cr_add (by omega), s1, k1]
        have s5 : (l - (n + 1)).toInt = l.toInt - n.toInt - 1 := by
          rw [cr_sub (by omega), s2]
          omega
        rw [if_neg (show ¬ own < f by rw [pu_lt]; omega), s4]
        have tb := (ps_toB pL a2 a5 ht d (k + 1) (f + (n + 1)) b1 b2 b3 (by omega) (by omega)).1
        by_cases c1 : l.toInt < n.toInt
        · rw [if_neg (show ¬ n ≤ l by rw [pu_le]; omega), if_neg (show ¬ f + n ≤ own by rw [pu_le]; omega)]
          exact Or.inl ⟨k, Or.inr ⟨h1, kR, u⟩, rfl, rfl, by omega⟩
        · rw [if_pos (show n ≤ l by rw [pu_le]; omega), if_pos (show f + n ≤ own by rw [pu_le]; omega)]
          by_cases c2 : l = n
          · have c2' := cr_eq c2
            rw [if_pos c2, ps_ra0 pL a2 a5 ht own d (k + 1) (f + (n + 1)) b1 b2 b3 (by omega) (by omega) (by omega)]
            exact Or.inl ⟨0, Or.inl rfl, rfl, rfl, by omega⟩
          · have c2' := cr_ne c2
            rw [if_neg c2]
            exact ih (k + 1) (f + (n + 1)) (l - (n + 1)) b1 b2 b3 (by omega) (by omega) (by omega) (by omega)
      · rw [(us.2 u).1, if_pos rfl, if_pos rfl, if_pos (us.2 u).2]
        exact ih (k + 1) f l b1 b2 b3 hf1 hfo (by omega) hl
theorem ps_tick {pl rf : cr_S} {ln : Nat → Int64} {T R : Nat} (hP : ps_Pl pl rf ln T R) (lat : Int64) {t d : Nat} (ht : t ≤ 10) (hd : d ≤ 100) : (∃ r, (r = 0 ∨ (1 ≤ r ∧ r ≤ R ∧ ps_us pl t r)) ∧ md_Ref_tickOf rf lat ln (nI t) (nI d) = nI r ∧ ps_ra pl (nI t) (nI d) = nI r ∧ (d : Int) < (ps_to pl (nI t)).toInt) ∨ (md_Ref_tickOf rf lat ln (nI t) (nI d) = -1 ∧ ps_ra pl (nI t) (nI d) = 0 ∧ (ps_to pl (nI t)).toInt ≤ d) := by
  obtain ⟨⟨a1, a2, a3, a4, a5, a6, a7, a8, a9⟩, pL, -⟩ := id hP
  have dt := ps_nI_t (k := d) (by omega)
  have k1 : (1 : Int32).toInt = 1 := by decide
  have tb : (1 : Int32).toInt ≤ (ps_to pl (nI t)).toInt := (ps_toB pL a2 a5 ht 9 1 1 (by omega) (by omega) (by omega) (by omega) (by omega)).1
  by_cases z : d = 0
  · subst z
    refine Or.inl ⟨0, Or.inl rfl, ?_, ?_, by omega⟩
    · unfold md_Ref_tickOf
      exact if_pos rfl
    · exact ps_ra0 pL a2 a5 ht (nI 0) 9 1 1 (by omega) (by omega) (by omega) (by omega) (by omega) (by omega)
  · have e : md_Ref_tickOf rf lat ln (nI t) (nI d) = lo_Ref_tickOf_14 rf lat ln (nI t) (nI d) 9 (nI (d - 1)) 1 := by
      unfold md_Ref_tickOf
      rw [if_neg (ps_nz (by omega) (by omega)), sb_m1 (by omega)]
    have lt := ps_nI_t (k := d - 1) (by omega)
    rw [e]
    have q := ps_tkL hP lat ht (nI d) (nI d) (by omega) 9 1 1 (nI (d - 1)) (by omega) (by omega) (by omega) (by omega) (by omega) (by omega) (by omega)
    rw [dt] at q
    exact q
theorem ps_to33 {pl rf : cr_S} {ln : Nat → Int64} {T R : Nat} (hP : ps_Pl pl rf ln T R) {t : Nat} (ht : t ≤ 10) : 1 ≤ (ps_to pl (nI t)).toInt ∧ (ps_to pl (nI t)).toInt ≤ 33 := by
  obtain ⟨⟨a1, a2, a3, a4, a5, a6, a7, a8, a9⟩, pL, -⟩ := hP
  have k1 : (1 : Int32).toInt = 1 := by decide
  have tb : (1 : Int32).toInt ≤ (ps_to pl (nI t)).toInt ∧ (ps_to pl (nI t)).toInt ≤ (1 : Int32).toInt + 4 * ((R + 1 - 1 : Nat) : Int) := ps_toB pL a2 a5 ht 9 1 1 (by omega) (by omega) (by omega) (by omega) (by omega)
  omega
end
section
/-! the trial: the relation of both sides -/
def ps_TH (pl tr tb rf : cr_S) (T : Nat) : Prop := ∀ t : Nat, 1 ≤ t → t ≤ T → rf 16 t = tb 3 t ∧ ((tb 3 t = 0 ∧ ∀ j, tb 4 j ≠ nI t) ∨ ∃ r, 1 ≤ r ∧ r ≤ 8 ∧ tb 3 t = nI r ∧ (∀ j, tb 4 j = nI t ↔ j = r) ∧ ps_ra pl (nI t) (tr 1 t) = nI r)
def ps_TS (pl tr rf : cr_S) (T : Nat) : Prop := ∀ t : Nat, 1 ≤ t → t ≤ T → ∃ d : Nat, d ≤ 33 ∧ tr 1 t = nI d ∧ rf 15 t = nI d ∧ ((rf 13 t = 0 ∧ d = 0) ∨ (rf 13 t = 1 ∧ (d : Int) < (ps_to pl (nI t)).toInt) ∨ (rf 13 t = 2 ∧ (d : Int) = (ps_to pl (nI t)).toInt))
def ps_TR (tb rf : cr_S) (T : Nat) : Prop := ∀ t : Nat, 1 ≤ t → t ≤ T → (rf 13 t = 1 ↔ tb 1 t = 1) ∧ (tb 1 t = 1 → tb 2 t = rf 14 t)
def ps_TD (tr rf : cr_S) (T : Nat) : Prop := ∀ k u : Nat, 1 ≤ k → k ≤ T → u ≤ 10 → ∃ m : Nat, m < 512 ∧ tr (3 + k) u = nI m ∧ (∀ r, r ≤ 8 → rf 17 (99 * k + 9 * u + r) = if m.testBit r then 1 else 0) ∧ (u = 0 ∨ T < u → m = 0)
def ps_TE (tr rf : cr_S) (T : Nat) : Prop := tr 0 0 = nI (ps_cnt (rf 13) 2 T)
def ps_TQ (pl rf tr tb : cr_S) (T R : Nat) : Prop := ps_Bd pl tb T R ∧ ps_TH pl tr tb rf T ∧ ps_TS pl tr rf T ∧ ps_TR tb rf T ∧ ps_TD tr rf T ∧ ps_TE tr rf T ∧ (∀ j, tb 5 j = 0) ∧ cr_RBoard tb ∧ cr_rh rf 16 (-1) 8
def ps_TF (rf rf' : cr_S) : Prop := ∀ k, k ≠ 13 → k ≠ 14 → k ≠ 15 → k ≠ 16 → k ≠ 17 → rf' k = rf k
theorem ps_TF_t {a b c : cr_S} (h : ps_TF a b) (g : ps_TF b c) : ps_TF a c := fun k h1 h2 h3 h4 h5 => (g k h1 h2 h3 h4 h5).trans (h k h1 h2 h3 h4 h5)
theorem ps_TF_r (a : cr_S) : ps_TF a a := fun _ _ _ _ _ _ => rfl
theorem ps_Pl_TF {pl rf rf' : cr_S} {ln : Nat → Int64} {T R : Nat} (h : ps_Pl pl rf ln T R) (f : ps_TF rf rf') : ps_Pl pl rf' ln T R :=
  ps_Pl_F h (by rw [f 0 (by decide) (by decide) (by decide) (by decide) (by decide)]) (by rw [f 0 (by decide) (by decide) (by decide) (by decide) (by decide)]) (f 1 (by decide) (by decide) (by decide) (by decide) (by decide)) (f 2 (by decide) (by decide) (by decide) (by decide) (by decide))
theorem ps_or : ∀ m, m < 512 → ∀ r, r < 9 → nI m ||| ((1 : Int32) <<< (nI r &&& 31)) = nI (m ||| 2 ^ r) := by decide +kernel
/-- the class's notes: a bit for each task that is kept waiting -/
theorem ps_ndL {pl tb : cr_S} {T t r : Nat} (hT : T ≤ 10) (e0 : pl 0 0 = nI T) (ht : t ≤ 10) : ∀ (d k : Nat) (tr : cr_S), 1 ≤ k → k ≤ T + 1 → 11 < d + k → (∀ c, c ≤ 3 → lo_Trial_noteDelays_2 pl tb (nI t) (nI r) d tr (nI k) c = tr c) ∧ (∀ q u, k ≤ q → q ≤ T → u = t → tb 1 q = 1 → ps_bel pl t q → lo_Trial_noteDelays_2 pl tb (nI t) (nI r) d tr (nI k) (3 + q) u = tr (3 + q) u ||| ((1 : Int32) <<< (nI r &&& 31))) ∧ (∀ q u, ¬ (k ≤ q ∧ q ≤ T ∧ u = t ∧ tb 1 q = 1 ∧ ps_bel pl t q) → lo_Trial_noteDelays_2 pl tb (nI t) (nI r) d tr (nI k) (3 + q) u = tr (3 + q) u)
  | 0, k, tr, _, a, b => absurd b (by omega)
  | d + 1, k, tr, h1, hk, hd => by
    have kt := ps_nI_t (k := k) (by omega)
    have Tt := ps_nI_t (k := T) (by omega)
    have n1 : ¬ (1 : Int32) = 0 := by decide
    rw [lo_Trial_noteDelays_2, e0]
    by_cases e : k = T + 1
    · have lt : nI T < nI k := by rw [pu_lt]; omega
      rw [if_pos lt]
      exact ⟨fun _ _ => rfl, fun q u a b => absurd b (by omega), fun _ _ _ => rfl⟩
    · have nlt : ¬ nI T < nI k := by rw [pu_lt]; omega
      rw [if_neg nlt, ps_nI_c (k := k) (by omega), ps_nI_c (k := t) (by omega), show nI k + 1 = nI (k + 1) from nI_1 k]
      have a1 : 1 ≤ k + 1 := by omega
      have a2 : k + 1 ≤ T + 1 := by omega
      have a3 : 11 < d + (k + 1) := by omega
      have ih := fun tr' => ps_ndL (tb := tb) (r := r) hT e0 ht d (k + 1) tr' a1 a2 a3
      have no : ¬ (tb 1 k = 1 ∧ ps_bel pl t k) → (∀ c, c ≤ 3 → lo_Trial_noteDelays_2 pl tb (nI t) (nI r) d tr (nI (k + 1)) c = tr c) ∧ (∀ q u, k ≤ q → q ≤ T → u = t → tb 1 q = 1 → ps_bel pl t q → lo_Trial_noteDelays_2 pl tb (nI t) (nI r) d tr (nI (k + 1)) (3 + q) u = tr (3 + q) u ||| ((1 : Int32) <<< (nI r &&& 31))) ∧ (∀ q u, ¬ (k ≤ q ∧ q ≤ T ∧ u = t ∧ tb 1 q = 1 ∧ ps_bel pl t q) → lo_Trial_noteDelays_2 pl tb (nI t) (nI r) d tr (nI (k + 1)) (3 + q) u = tr (3 + q) u) := fun z => by
        obtain ⟨i1, i2, i3⟩ := ih tr
        refine ⟨i1, fun q u b1 b2 b3 b4 b5 => ?_, fun q u b => i3 q u (fun w => b ⟨by omega, w.2⟩)⟩
        have qk : q ≠ k := fun w => by
          rw [w] at b4 b5
          exact z ⟨b4, b5⟩
        exact i2 q u (by omega) b2 b3 b4 b5
      have bl := ps_belM pl (l := t) (t := k) ht (by omega)
      by_cases c1 : tb 1 k = 1
      · rw [if_pos c1]
        by_cases c2 : ps_bel pl t k
        · rw [bl.1 c2, if_neg n1]
          obtain ⟨i1, i2, i3⟩ := ih (cr_up tr (3 + k) t (tr (3 + k) t ||| ((1 : Int32) <<< (nI r &&& 31))))
          refine ⟨fun c hc => ?_, fun q u b1 b2 b3 b4 b5 => ?_, fun q u b => ?_⟩
          · rw [i1 c hc, pu_up_cell _ _ _ (show c ≠ 3 + k by omega)]
          · by_cases qk : q = k
            · subst qk
              rw [i3 q u (fun w => absurd w.1 (by omega)), b3, pu_up_same]
            · rw [i2 q u (by omega) b2 b3 b4 b5, pu_up_cell _ _ _ (show 3 + q ≠ 3 + k by omega)]
          · rw [i3 q u (fun w => b ⟨by omega, w.2⟩)]
            by_cases qk : q = k
            · subst qk
              have ut : u ≠ t := fun w => b ⟨Nat.le_refl _, by omega, w, c1, c2⟩
              rw [pu_up_place _ _ _ ut]
            · rw [pu_up_cell _ _ _ (show 3 + q ≠ 3 + k by omega)]
        · rw [bl.2 c2, if_pos rfl]
          exact no (fun w => c2 w.2)
      · rw [if_neg c1]
        exact no (fun w => c1 w.1)
/-- the reference's marks -/
theorem ps_mkL {pl : cr_S} (lat : Int64) (ln : Nat → Int64) (x1 : Int64) (w3 w4 : Int32) {T t r : Nat} (hT : T ≤ 10) (ht : t ≤ 10) (r1 : 1 ≤ r) (r2 : r ≤ 8) : ∀ (d k : Nat) (rf : cr_S), rf 0 0 = nI T → pl 1 = rf 1 → pl 2 = rf 2 → 1 ≤ k → k ≤ T + 1 → 11 < d + k → (∀ c, c ≠ 17 → lo_Ref_plain_183 lat ln x1 w3 w4 (pl 2 t) (nI t) (nI r) d rf (nI k) c = rf c) ∧ (∀ q, k ≤ q → q ≤ T → rf 13 q = 1 → ps_bel pl t q → lo_Ref_plain_183 lat ln x1 w3 w4 (pl 2 t) (nI t) (nI r) d rf (nI k) 17 (99 * q + 9 * t + r) = 1) ∧ (∀ i, (∀ q, k ≤ q → q ≤ T → rf 13 q = 1 → ps_bel pl t q → i ≠ 99 * q + 9 * t + r) → lo_Ref_plain_183 lat ln x1 w3 w4 (pl 2 t) (nI t) (nI r) d rf (nI k) 17 i = rf 17 i)
  | 0, k, rf, _, _, _, _, a, b => absurd b (by omega)
  | d + 1, k, rf, e0, e1, e2, h1, hk, hd => by
    have kt := ps_nI_t (k := k) (by omega)
    have Tt := ps_nI_t (k := T) (by omega)
    have rt := ps_nI_t (k := r) (by omega)
    have k0 : (0 : Int32).toInt = 0 := by decide
    rw [lo_Ref_plain_183, e0]
    by_cases e : k = T + 1
    · have lt : nI T < nI k := by rw [pu_lt]; omega
      rw [if_pos lt]
      exact ⟨fun _ _ => rfl, fun q a b => absurd b (by omega), fun _ _ => rfl⟩
    · have nlt : ¬ nI T < nI k := by rw [pu_lt]; omega
      rw [if_neg nlt, if_neg (show ¬ nI r ≤ 0 by rw [pu_le]; omega), ps_nI_c (k := k) (by omega), ps_nI_c (k := t) (by omega), show nI k + 1 = nI (k + 1) from nI_1 k, ← e1, ← e2]
      have ix : ((99 : Int32) * nI k + (9 : Int32) * nI t + nI r).toNatClampNeg = 99 * k + 9 * t + r := by
        rw [show (99 : Int32) = nI 99 from rfl, show (9 : Int32) = nI 9 from rfl, pk_mul, pk_mul, nI_add, nI_add, ps_nI_c (by omega)]
      rw [ix]
      have a1 : 1 ≤ k + 1 := by omega
      have a2 : k + 1 ≤ T + 1 := by omega
      have a3 : 11 < d + (k + 1) := by omega
      have no : ¬ (rf 13 k = 1 ∧ ps_bel pl t k) → (∀ c, c ≠ 17 → lo_Ref_plain_183 lat ln x1 w3 w4 (pl 2 t) (nI t) (nI r) d rf (nI (k + 1)) c = rf c) ∧ (∀ q, k ≤ q → q ≤ T → rf 13 q = 1 → ps_bel pl t q → lo_Ref_plain_183 lat ln x1 w3 w4 (pl 2 t) (nI t) (nI r) d rf (nI (k + 1)) 17 (99 * q + 9 * t + r) = 1) ∧ (∀ i, (∀ q, k ≤ q → q ≤ T → rf 13 q = 1 → ps_bel pl t q → i ≠ 99 * q + 9 * t + r) → lo_Ref_plain_183 lat ln x1 w3 w4 (pl 2 t) (nI t) (nI r) d rf (nI (k + 1)) 17 i = rf 17 i) := fun z => by
        obtain ⟨i1, i2, i3⟩ := ps_mkL (pl := pl) lat ln x1 w3 w4 hT ht r1 r2 d (k + 1) rf e0 e1 e2 a1 a2 a3
        refine ⟨i1, fun q b1 b2 b3 b4 => ?_, fun i b => i3 i (fun q b1 => b q (by omega))⟩
        have qk : q ≠ k := fun w => by
          rw [w] at b3 b4
          exact z ⟨b3, b4⟩
        exact i2 q (by omega) b2 b3 b4
      by_cases c1 : pl 2 k = pl 2 t
      · rw [if_pos c1]
        by_cases c2 : pl 1 k ≤ pl 1 t
        · rw [if_pos c2]
          refine no (fun w => ?_)
          have := w.2.2
          have := cr_le c2
          omega
        · rw [if_neg c2]
          have c2' := cr_nle c2
          by_cases c3 : rf 13 k = 1
          · rw [if_pos c3]
            obtain ⟨i1, i2, i3⟩ := ps_mkL (pl := pl) lat ln x1 w3 w4 hT ht r1 r2 d (k + 1) (cr_up rf 17 (99 * k + 9 * t + r) 1) (by rw [← e0]; simp [cr_up]) (by rw [e1]; simp [cr_up]) (by rw [e2]; simp [cr_up]) a1 a2 a3
            have e13 : (cr_up rf 17 (99 * k + 9 * t + r) 1) 13 = rf 13 := by simp [cr_up]
            rw [e13] at i2 i3
            refine ⟨fun c hc => ?_, fun q b1 b2 b3 b4 => ?_, fun i b => ?_⟩
            · rw [i1 c hc, pu_up_cell _ _ _ hc]
            · by_cases qk : q = k
              · subst qk
                rw [i3 _ (fun q' b1' b2' _ _ => by omega), pu_up_same]
              · exact i2 q (by omega) b2 b3 b4
            · rw [i3 i (fun q b1 => b q (by omega)), pu_up_place _ _ _ (b k (Nat.le_refl _) (by omega) c3 ⟨c1.symm, c2'⟩)]
          · rw [if_neg c3]
            exact no (fun w => c3 w.1)
      · rw [if_neg c1]
        exact no (fun w => c1 w.2.1.symm)
/-- the notes of both sides, one tick with a resource -/
theorem ps_TD_mark {pl tr rf tr' rf' : cr_S} {T t r : Nat} (h : ps_TD tr rf T) (t1 : 1 ≤ t) (t2 : t ≤ T) (hT : T ≤ 10) (r1 : 1 ≤ r) (r2 : r ≤ 8) (A : Nat → Prop)
    (c1 : ∀ q u, 1 ≤ q → q ≤ T → u = t → A q → tr' (3 + q) u = tr (3 + q) u ||| ((1 : Int32) <<< (nI r &&& 31))) (c2 : ∀ q u, ¬ (1 ≤ q ∧ q ≤ T ∧ u = t ∧ A q) → tr' (3 + q) u = tr (3 + q) u)
    (d1 : ∀ q, 1 ≤ q → q ≤ T → A q → rf' 17 (99 * q + 9 * t + r) = 1) (d2 : ∀ i, (∀ q, 1 ≤ q → q ≤ T → A q → i ≠ 99 * q + 9 * t + r) → rf' 17 i = rf 17 i) : ps_TD tr' rf' T := by
  intro k u k1 k2 hu
  obtain ⟨m, m1, m2, m3, m4⟩ := h k u k1 k2 hu
  by_cases ut : u = t
  · subst ut
    by_cases a : A k
    · refine ⟨m ||| 2 ^ r, ?_, ?_, fun r' hr' => ?_, fun q => absurd q (by omega)⟩
      · exact Nat.or_lt_two_pow (n := 9) m1 (Nat.pow_lt_pow_right (by omega) (by omega))
      · rw [c1 k u k1 k2 rfl a, m2, ps_or m m1 r (by omega)]
      · rw [Nat.testBit_or, Nat.testBit_two_pow]
        by_cases rr : r = r'
        · subst rr
          rw [d1 k k1 k2 a]
          simp
        · rw [d2 _ (fun q q1 q2 _ => by omega), m3 r' hr']
          simp [rr]
    · refine ⟨m, m1, ?_, fun r' hr' => ?_, m4⟩
      · rw [c2 k u (fun w => a w.2.2.2), m2]
      · rw [d2 _ (fun q q1 q2 a' e => ?_), m3 r' hr']
        have : q = k := by omega
        rw [this] at a'
        exact a a'
  · refine ⟨m, m1, ?_, fun r' hr' => ?_, m4⟩
    · rw [c2 k u (fun w => ut w.2.2.1), m2]
    · rw [d2 _ (fun q q1 q2 _ => by omega), m3 r' hr']
end
section
/-! the trial: one task's tick -/
def ps_r3 (lat : Int64) (ln : Nat → Int64) (x1 : Int64) (w3 w4 c x : Int32) (rf : cr_S) : cr_S :=
  cr_up (lo_Ref_plain_183 lat ln x1 w3 w4 c x (md_Ref_tickOf rf lat ln x (rf 15 x.toNatClampNeg)) 11 (cr_up rf 16 x.toNatClampNeg (md_Ref_tickOf rf lat ln x (rf 15 x.toNatClampNeg))) (1 : Int32)) 15 x.toNatClampNeg (((lo_Ref_plain_183 lat ln x1 w3 w4 c x (md_Ref_tickOf rf lat ln x (rf 15 x.toNatClampNeg)) 11 (cr_up rf 16 x.toNatClampNeg (md_Ref_tickOf rf lat ln x (rf 15 x.toNatClampNeg))) (1 : Int32)) 15 x.toNatClampNeg) + (1 : Int32))
def ps_rt (lat : Int64) (ln : Nat → Int64) (x1 : Int64) (w3 w4 c x : Int32) (rf : cr_S) : cr_S :=
  (if md_Ref_tickOf (ps_r3 lat ln x1 w3 w4 c x rf) lat ln x ((ps_r3 lat ln x1 w3 w4 c x rf) 15 x.toNatClampNeg) = md_Ref_tickOf rf lat ln x (rf 15 x.toNatClampNeg) then (if 0 ≤ md_Ref_tickOf (ps_r3 lat ln x1 w3 w4 c x rf) lat ln x ((ps_r3 lat ln x1 w3 w4 c x rf) 15 x.toNatClampNeg) then (cr_up (cr_up (ps_r3 lat ln x1 w3 w4 c x rf) 16 x.toNatClampNeg (md_Ref_tickOf rf lat ln x (rf 15 x.toNatClampNeg))) 13 x.toNatClampNeg (1 : Int32)) else (cr_up (cr_up (ps_r3 lat ln x1 w3 w4 c x rf) 16 x.toNatClampNeg (md_Ref_tickOf rf lat ln x (rf 15 x.toNatClampNeg))) 13 x.toNatClampNeg (2 : Int32))) else (if 0 ≤ md_Ref_tickOf (ps_r3 lat ln x1 w3 w4 c x rf) lat ln x ((ps_r3 lat ln x1 w3 w4 c x rf) 15 x.toNatClampNeg) then (cr_up (cr_up (ps_r3 lat ln x1 w3 w4 c x rf) 16 x.toNatClampNeg (0 : Int32)) 13 x.toNatClampNeg (1 : Int32)) else (cr_up (cr_up (ps_r3 lat ln x1 w3 w4 c x rf) 16 x.toNatClampNeg (0 : Int32)) 13 x.toNatClampNeg (2 : Int32))))
theorem ps_ite4 (g : cr_S → cr_S) (x y z : Int32) (a b c d : cr_S) : (if x = y then (if 0 ≤ z then g a else g b) else (if 0 ≤ z then g c else g d)) = g (if x = y then (if 0 ≤ z then a else b) else (if 0 ≤ z then c else d)) := by
  by_cases p : x = y
  · rw [if_pos p, if_pos p]
    by_cases q : 0 ≤ z
    · rw [if_pos q, if_pos q]
    · rw [if_neg q, if_neg q]
  · rw [if_neg p, if_neg p]
    by_cases q : 0 ≤ z
    · rw [if_pos q, if_pos q]
    · rw [if_neg q, if_neg q]
theorem ps_134E (lat : Int64) (ln : Nat → Int64) (x1 : Int64) (w3 w4 : Int32) (n : Nat) (rf : cr_S) (v : Int32) : lo_Ref_plain_134 lat ln x1 w3 w4 (n + 1) rf v = if (4 : Int32) ≤ v then rf else (if md_Ref_trialRuns rf lat ln v = 0 then lo_Ref_plain_134 lat ln x1 w3 w4 n rf (v + 1) else lo_Ref_plain_134 lat ln x1 w3 w4 n (ps_rt lat ln x1 w3 w4 v (md_Ref_trialRuns rf lat ln v) rf) (v + 1)) := by
  rw [lo_Ref_plain_134]
  by_cases c1 : (4 : Int32) ≤ v
  · rw [if_pos c1, if_pos c1]
  · rw [if_neg c1, if_neg c1]
    by_cases c2 : md_Ref_trialRuns rf lat ln v = 0
    · rw [if_pos c2, if_pos c2]
    · rw [if_neg c2, if_neg c2]
      exact ps_ite4 (fun s => lo_Ref_plain_134 lat ln x1 w3 w4 n s (v + 1)) _ _ _ _ _ _ _
theorem ps_TQ_mk {pl rf tr tb rfF trF tbF : cr_S} {T R t d : Nat} {s : Int32} (hT : T ≤ 10) (t1 : 1 ≤ t) (Q2 : ps_TH pl tr tb rf T) (Q3 : ps_TS pl tr rf T) (Q4 : ps_TR tb rf T) (B : ps_Bd pl tbF T R) (D : ps_TD trF rfF T) (E : ps_TE trF rfF T) (f5 : ∀ j, tbF 5 j = 0) (fR : cr_RBoard tbF) (fh : cr_rh rfF 16 (-1) 8) (d33 : d + 1 ≤ 33) (t2 : t ≤ T)
    (a1 : trF 1 t = nI (d + 1)) (a1' : ∀ u, u ≠ t → trF 1 u = tr 1 u) (b13 : rfF 13 t = s) (b13' : ∀ u, u ≠ t → rfF 13 u = rf 13 u) (b14 : rfF 14 = rf 14) (b15 : rfF 15 t = nI (d + 1)) (b15' : ∀ u, u ≠ t → rfF 15 u = rf 15 u) (b16 : rfF 16 t = tbF 3 t) (b16' : ∀ u, u ≠ t → rfF 16 u = rf 16 u)
    (c1' : ∀ u, u ≠ t → tbF 1 u = tb 1 u) (c2 : tbF 2 = tb 2) (c3' : ∀ u, u ≠ t → tbF 3 u = tb 3 u) (c4' : ∀ u j, u ≠ t → 1 ≤ u → u ≤ 10 → (tbF 4 j = nI u ↔ tb 4 j = nI u))
    (hh : (tbF 3 t = 0 ∧ ∀ j, tbF 4 j ≠ nI t) ∨ ∃ r, 1 ≤ r ∧ r ≤ 8 ∧ tbF 3 t = nI r ∧ (∀ j, tbF 4 j = nI t ↔ j = r) ∧ ps_ra pl (nI t) (nI (d + 1)) = nI r) (rd : tb 1 t = 1)
    (hs : (s = 1 ∧ tbF 1 t = 1 ∧ ((d + 1 : Nat) : Int) < (ps_to pl (nI t)).toInt) ∨ (s = 2 ∧ tbF 1 t = 0 ∧ ((d + 1 : Nat) : Int) = (ps_to pl (nI t)).toInt)) : ps_TQ pl rfF trF tbF T R := by
  refine ⟨B, fun u u1 u2 => ?_, fun u u1 u2 => ?_, fun u u1 u2 => ?_, D, E, f5, fR, fh⟩
  · by_cases w : u = t
    · subst w
      rw [a1]
      exact ⟨b16, hh⟩
    · obtain ⟨q1, q2⟩ := Q2 u u1 u2
      rw [b16' u w, c3' u w, a1' u w]
      refine ⟨q1, ?_⟩
      rcases q2 with ⟨z, z'⟩ | ⟨r, r1, r2, r3, r4, r5⟩
      · exact Or.inl ⟨z, fun j q => z' j ((c4' u j w u1 (by omega)).mp q)⟩
      · exact Or.inr ⟨r, r1, r2, r3, fun j => (c4' u j w u1 (by omega)).trans (r4 j), r5⟩
  · by_cases w : u = t
    · subst w
      refine ⟨d + 1, d33, a1, b15, Or.inr ?_⟩
      rw [b13]
      rcases hs with ⟨q1, _, q3⟩ | ⟨q1, _, q3⟩
      · exact Or.inl ⟨q1, q3⟩
      · exact Or.inr ⟨q1, q3⟩
    · rw [a1' u w, b13' u w, b15' u w]
      exact Q3 u u1 u2
  · by_cases w : u = t
    · subst w
      rw [b13, c2, b14]
      rcases hs with ⟨q1, q2, _⟩ | ⟨q1, q2, _⟩
      · rw [q1, q2]
        exact ⟨Iff.rfl, fun _ => (Q4 u u1 u2).2 rd⟩
      · rw [q1, q2]
        exact ⟨⟨fun q => absurd q (by decide), fun q => absurd q (by decide)⟩, fun q => absurd q (by decide)⟩
    · rw [b13' u w, c1' u w, c2, b14]
      exact Q4 u u1 u2
/-- what holds of the board in the middle of a tick of t -/
def ps_Mid (pl tb tb1 : cr_S) (T R t : Nat) : Prop := ps_Bd pl tb1 T R ∧ tb1 0 = tb 0 ∧ tb1 1 = tb 1 ∧ tb1 2 = tb 2 ∧ (∀ u, u ≠ t → tb1 3 u = tb 3 u) ∧ (∀ u j, u ≠ t → 1 ≤ u → u ≤ 10 → (tb1 4 j = nI u ↔ tb 4 j = nI u)) ∧ (∀ j, tb1 5 j = 0) ∧ cr_RBoard tb1
def ps_Hd (tb1 : cr_S) (t r : Nat) : Prop := (r = 0 ∧ tb1 3 t = 0 ∧ ∀ j, tb1 4 j ≠ nI t) ∨ (1 ≤ r ∧ r ≤ 8 ∧ tb1 3 t = nI r ∧ ∀ j, tb1 4 j = nI t ↔ j = r)
theorem ps_hv1 {pl rf tr tb : cr_S} {ln : Nat → Int64} {T R t d r : Nat} (hP : ps_Pl pl rf ln T R) (hQ : ps_TQ pl rf tr tb T R) (t1 : 1 ≤ t) (t2 : t ≤ T) (hf : ps_fs pl tb R (pl 2 t) (T + 1) t) (lat x1 : Int64) (w3 w4 : Int32) (hd : tr 1 t = nI d) (hr : r = 0 ∨ (1 ≤ r ∧ r ≤ R ∧ ps_us pl t r)) (e2 : ps_ra pl (nI t) (nI d) = nI r) :
    ∃ tr1 tb1 rf2, md_Trial_haveTick pl tr tb (nI t) = jn_Trial_haveTick_44 pl (nI t) tr1 tb1 (nI r) ∧ lo_Ref_plain_183 lat ln x1 w3 w4 (pl 2 t) (nI t) (nI r) 11 (cr_up rf 16 t (nI r)) 1 = rf2 ∧ (∀ c, c ≤ 3 → tr1 c = tr c) ∧ ps_TD tr1 rf2 T ∧ (∀ c, c ≠ 16 → c ≠ 17 → rf2 c = rf c) ∧ rf2 16 = upd (rf 16) t (nI r) ∧ ps_Mid pl tb tb1 T R t ∧ ps_Hd tb1 t r := by
  obtain ⟨Q1, Q2, Q3, Q4, Q5, Q6, Q7, Q8, Q9⟩ := id hQ
  obtain ⟨⟨a1, a2, a3, a4, a5, a6, a7, a8, a9⟩, pL, pR, pU, pC, pO⟩ := id hP
  have hv : md_Trial_resourceAt pl tr tb (nI t) (tr 1 (nI t).toNatClampNeg) = nI r := by rw [ps_raE, ps_nI_c (k := t) (by omega), hd, e2]
  have c16 : (cr_up rf 16 t (nI r)) 16 = upd (rf 16) t (nI r) := pu_up_fn _ _ _ _
  have th := (Q2 t t1 t2).2
  rw [hd, e2] at th
  unfold md_Trial_haveTick
  rw [hv]
  rcases hr with z | ⟨r1, r2, ru⟩
  · subst z
    refine ⟨tr, tb, cr_up rf 16 t (nI 0), if_pos rfl, ?_, fun _ _ => rfl, ?_, fun c c1 c2 => pu_up_cell _ _ _ c1, c16, ⟨Q1, rfl, rfl, rfl, fun _ _ => rfl, fun _ _ _ _ _ => Iff.rfl, Q7, Q8⟩, ?_⟩
    · rw [lo_Ref_plain_183]
      by_cases c : (cr_up rf 16 t (nI 0)) 0 0 < 1
      · rw [if_pos c]
      · rw [if_neg c, if_pos (show nI 0 ≤ 0 by decide)]
    · unfold ps_TD
      rw [pu_up_cell rf t (nI 0) (show (17 : Nat) ≠ 16 by decide)]
      exact Q5
    · refine Or.inl ⟨rfl, ?_⟩
      rcases th with q | ⟨r0, b1, b2, b3, b4, b5⟩
      · exact q
      · exact absurd (ps_inj b5 (by omega) (by omega)) (by omega)
  · have rn := ps_nz r1 (show r < 100000 by omega)
    rw [if_neg rn, ps_nI_c (k := r) (by omega)]
    obtain ⟨m1, m2, m3⟩ := ps_mkL (pl := pl) lat ln x1 w3 w4 (T := T) (t := t) (r := r) a1 (by omega) r1 (by omega) 11 1 (cr_up rf 16 t (nI r)) (by rw [← a4]; simp [cr_up]) (by rw [a7]; simp [cr_up]) (by rw [a8]; simp [cr_up]) (by omega) (by omega) (by omega)
    have e13 : (cr_up rf 16 t (nI r)) 13 = rf 13 := by simp [cr_up]
    have e17 : (cr_up rf 16 t (nI r)) 17 = rf 17 := by simp [cr_up]
    rw [e13] at m2 m3
    rw [e17] at m3
    -- the notes over any board with the states of tb
    have nd : ∀ tb1 : cr_S, tb1 1 = tb 1 → ∃ rf2, lo_Ref_plain_183 lat ln x1 w3 w4 (pl 2 t) (nI t) (nI r) 11 (cr_up rf 16 t (nI r)) 1 = rf2 ∧ (∀ c, c ≤ 3 → (md_Trial_noteDelays pl tr tb1 (nI t) (nI r)) c = tr c) ∧ ps_TD (md_Trial_noteDelays pl tr tb1 (nI t) (nI r)) rf2 T ∧ (∀ c, c ≠ 16 → c ≠ 17 → rf2 c = rf c) ∧ rf2 16 = upd (rf 16) t (nI r) := fun tb1 hb => by
      obtain ⟨n1, n2, n3⟩ := ps_ndL (tb := tb1) (r := r) a1 a3 (show t ≤ 10 by omega) 11 1 tr (by omega) (by omega) (by omega)
      refine ⟨_, rfl, n1, ?_, fun c c1 c2 => (m1 c c2).trans (pu_up_cell _ _ _ c1), (m1 16 (by decide)).trans c16⟩
      refine ps_TD_mark (pl := pl) Q5 t1 t2 a1 r1 (by omega) (fun q => tb 1 q = 1 ∧ ps_bel pl t q) (fun q u q1 q2 q3 q4 => n2 q u q1 q2 q3 (by rw [hb]; exact q4.1) q4.2) (fun q u w => n3 q u (fun y => w ⟨y.1, y.2.1, y.2.2.1, by rw [← hb]; exact y.2.2.2.1, y.2.2.2.2⟩)) (fun q q1 q2 q3 => m2 q q1 q2 ((Q4 q q1 q2).1.mpr q3.1) q3.2) (fun i w => m3 i (fun q q1 q2 q3 q4 => w q q1 q2 ⟨(Q4 q q1 q2).1.mp q3, q4⟩))
    rcases th with ⟨z, z'⟩ | ⟨r0, b1, b2, b3, b4, b5⟩
    · have h0 : tb 4 r = 0 := (ps_freeR Q1 a1 a2 pC pO hf t1 (by omega) ru).resolve_right (z' r)
      obtain ⟨k1, k2, k3, k4, k5, k6, k7, k8⟩ := ps_tk Q1 Q8 a1 a2 hf t1 t2 r1 r2 ru h0
      rw [if_neg (show ¬ tb 4 r = nI t from z' r)]
      obtain ⟨rf2, g1, g2, g3, g4, g5⟩ := nd (md_Board_take pl tb (nI t) (nI r)) k4
      refine ⟨_, _, rf2, rfl, g1, g2, g3, g4, g5, ⟨k1, k3, k4, k5, fun u hu => by rw [k6, ps_us_n _ _ hu], fun u j hu u1 u2 => ?_, fun j => ?_, k2⟩, Or.inr ⟨r1, by omega, by rw [k6, ps_us_s], fun j => ?_⟩⟩
      · rw [k7]
        by_cases jr : j = r
        · rw [jr, ps_us_s, h0]
          exact ⟨fun q => absurd (ps_inj q (by omega) (by omega)).symm hu, fun q => absurd q.symm (ps_nz u1 (by omega))⟩
        · rw [ps_us_n _ _ jr]
      · rw [k8]
        by_cases jr : j = r
        · rw [jr, ps_us_s]
          exact z
        · rw [ps_us_n _ _ jr]
          exact Q7 j
      · rw [k7]
        by_cases jr : j = r
        · rw [jr, ps_us_s]
          exact ⟨fun _ => rfl, fun _ => rfl⟩
        · rw [ps_us_n _ _ jr]
          exact ⟨fun q => absurd q (z' j), fun q => absurd q jr⟩
    · have rr : r = r0 := ps_inj b5 (by omega) (by omega)
      subst rr
      rw [if_pos (show tb 4 r = nI t from (b4 r).mpr rfl)]
      obtain ⟨rf2, g1, g2, g3, g4, g5⟩ := nd tb rfl
      exact ⟨_, _, rf2, rfl, g1, g2, g3, g4, g5, ⟨Q1, rfl, rfl, rfl, fun _ _ => rfl, fun _ _ _ _ _ => Iff.rfl, Q7, Q8⟩, Or.inr ⟨r1, b2, b3, b4⟩⟩
theorem ps_hv2 {pl tb tr1 tb1 : cr_S} {T R t d r : Nat} (hT : T ≤ 10) (t1 : 1 ≤ t) (t2 : t ≤ T) (hm : ps_Mid pl tb tb1 T R t) (hh : ps_Hd tb1 t r) (hd : tr1 1 t = nI d) (d33 : d ≤ 33) :
    ∃ tb2, jn_Trial_haveTick_44 pl (nI t) tr1 tb1 (nI r) = jn_Trial_haveTick_81 pl (nI t) (cr_up tr1 1 t (nI (d + 1))) tb2 ∧ ps_Mid pl tb tb2 T R t ∧ ((ps_ra pl (nI t) (nI (d + 1)) = nI r ∧ tb2 3 t = nI r ∧ ps_Hd tb2 t r) ∨ (ps_ra pl (nI t) (nI (d + 1)) ≠ nI r ∧ tb2 3 t = 0 ∧ ∀ j, tb2 4 j ≠ nI t)) := by
  have ad : tr1 1 t + 1 = nI (d + 1) := by rw [hd]; exact nI_1 d
  unfold jn_Trial_haveTick_44
  rw [ps_nI_c (k := t) (by omega), ad, pu_up_same, ps_raE]
  rcases hh with ⟨z, h1, h2⟩ | ⟨r1, r2, h1, h2⟩
  · subst z
    refine ⟨tb1, if_pos rfl, hm, ?_⟩
    by_cases c : ps_ra pl (nI t) (nI (d + 1)) = nI 0
    · exact Or.inl ⟨c, h1, Or.inl ⟨rfl, h1, h2⟩⟩
    · exact Or.inr ⟨c, h1, h2⟩
  · rw [if_neg (ps_nz r1 (by omega))]
    by_cases c : ps_ra pl (nI t) (nI (d + 1)) = nI r
    · rw [if_pos c]
      exact ⟨tb1, rfl, hm, Or.inl ⟨c, h1, Or.inr ⟨r1, r2, h1, h2⟩⟩⟩
    · rw [if_neg c, ps_gbE pl (by omega) r1 r2 h1]
      obtain ⟨b1, b2, b3, b4, b5, b6, b7, b8⟩ := hm
      have z : 0 ≤ (0 : Int32).toInt ∧ (0 : Int32).toInt ≤ 8 := by decide
      have c0 : (cr_up (cr_up (cr_up tb1 3 t (tb1 5 r)) 5 r 0) 4 r 0) 0 = tb1 0 := by simp [cr_up]
      have c1 : (cr_up (cr_up (cr_up tb1 3 t (tb1 5 r)) 5 r 0) 4 r 0) 1 = tb1 1 := by simp [cr_up]
      have c2 : (cr_up (cr_up (cr_up tb1 3 t (tb1 5 r)) 5 r 0) 4 r 0) 2 = tb1 2 := by simp [cr_up]
      have c3 : (cr_up (cr_up (cr_up tb1 3 t (tb1 5 r)) 5 r 0) 4 r 0) 3 = upd (tb1 3) t (tb1 5 r) := by simp [cr_up]
      have c4 : (cr_up (cr_up (cr_up tb1 3 t (tb1 5 r)) 5 r 0) 4 r 0) 4 = upd (tb1 4) r 0 := by simp [cr_up]
      have c5 : (cr_up (cr_up (cr_up tb1 3 t (tb1 5 r)) 5 r 0) 4 r 0) 5 = upd (tb1 5) r 0 := by simp [cr_up]
      have cR : cr_RBoard (cr_up (cr_up (cr_up tb1 3 t (tb1 5 r)) 5 r 0) 4 r 0) :=
        ⟨cr_rg_up (cr_rg_up (cr_rg_up b8.1 (fun _ => b8.2 r)) (fun q => absurd q (by decide))) (fun q => absurd q (by decide)), cr_rg_up (cr_rg_up (cr_rg_up b8.2 (fun q => absurd q (by decide))) (fun _ => z)) (fun q => absurd q (by decide))⟩
      generalize cr_up (cr_up (cr_up tb1 3 t (tb1 5 r)) 5 r 0) 4 r 0 = s at c0 c1 c2 c3 c4 c5 cR ⊢
      have dr : ∀ j, s 4 j = tb1 4 j ∨ s 4 j = 0 := fun j => by
        rw [c4]
        by_cases jr : j = r
        · rw [jr, ps_us_s]
          exact Or.inr rfl
        · rw [ps_us_n _ _ jr]
          exact Or.inl rfl
      refine ⟨s, rfl, ⟨ps_Bd_drop b1 hT (by rw [c0]) c2 dr (fun u => Or.inl (by rw [c1])), c0.trans b2, c1.trans b3, c2.trans b4, fun u hu => by rw [c3, ps_us_n _ _ hu]; exact b5 u hu, fun u j hu u1 u2 => ?_, fun j => ?_, cR⟩, Or.inr ⟨c, by rw [c3, ps_us_s, b7 r], fun j => ?_⟩⟩
      · rw [← b6 u j hu u1 u2, c4]
        by_cases jr : j = r
        · rw [jr, ps_us_s, (h2 r).mpr rfl]
          exact ⟨fun q => absurd q.symm (ps_nz u1 (by omega)), fun q => absurd (ps_inj q (by omega) (by omega)).symm hu⟩
        · rw [ps_us_n _ _ jr]
      · rw [c5]
        by_cases jr : j = r
        · rw [jr, ps_us_s]
        · rw [ps_us_n _ _ jr]
          exact b7 j
      · rw [c4]
        by_cases jr : j = r
        · rw [jr, ps_us_s]
          exact fun q => ps_nz t1 (by omega) q.symm
        · rw [ps_us_n _ _ jr]
          exact fun q => jr ((h2 j).mp q)
theorem ps_sl0 {bd : cr_S} (pl : cr_S) {t : Nat} (ht : t ≤ 10) (h : bd 3 t = 0) : md_Board_putToSleep pl bd (nI t) = cr_up bd 1 t 0 := by
  have z : md_Board_holdsAny pl bd (nI t) = 0 := by
    unfold md_Board_holdsAny
    rw [ps_nI_c (k := t) (by omega), if_pos h]
  unfold md_Board_putToSleep
  rw [lo_Board_putToSleep_2, if_neg (show ¬ (8 : Int32) ≤ 0 by decide), if_pos z, ps_nI_c (k := t) (by omega)]
end
section
/-! the trial: a tick of the one that runs, on both sides -/
theorem ps_TQ_tick {pl rf tr tb : cr_S} {ln : Nat → Int64} {T R t : Nat} (hP : ps_Pl pl rf ln T R) (hQ : ps_TQ pl rf tr tb T R) (t1 : 1 ≤ t) (t2 : t ≤ T) (hf : ps_fs pl tb R (pl 2 t) (T + 1) t) (lat x1 : Int64) (w3 w4 : Int32) :
    ∃ rf' tr' tb', ps_rt lat ln x1 w3 w4 (pl 2 t) (nI t) rf = rf' ∧ md_Trial_haveTick pl tr tb (nI t) = (tr', tb') ∧ ps_TQ pl rf' tr' tb' T R ∧ ps_TF rf rf' ∧ tb' 0 = tb 0 ∧ (∀ u, u ≠ t → rf' 13 u = rf 13 u) ∧ rf' 13 t ≠ 0 ∧ rf 13 t ≠ 0 ∧ (∀ u, u ≠ t → tr' 1 u = tr 1 u) ∧ (tr' 1 t).toInt = (tr 1 t).toInt + 1 := by
  obtain ⟨Q1, Q2, Q3, Q4, Q5, Q6, Q7, Q8, Q9⟩ := id hQ
  have a1 := hP.1.1
  have rd : tb 1 t = 1 := (ps_best_r hf (by omega)).2.2.2
  have r13 : rf 13 t = 1 := (Q4 t t1 t2).1.mpr rd
  obtain ⟨d, d1, d2, d3, d4⟩ := Q3 t t1 t2
  have to := ps_to33 hP (t := t) (by omega)
  have dto : (d : Int) < (ps_to pl (nI t)).toInt := by
    rcases d4 with ⟨q, _⟩ | ⟨_, q⟩ | ⟨q, _⟩
    · rw [r13] at q
      exact absurd q (by decide)
    · exact q
    · rw [r13] at q
      exact absurd q (by decide)
  rcases ps_tick hP lat (t := t) (d := d) (by omega) (by omega) with ⟨r, hr, e1, e2, e3⟩ | ⟨_, _, e⟩
  rotate_left
  · omega
  have r8 : r ≤ 8 := by
    have := hP.1.2.1
    rcases hr with q | ⟨_, q, _⟩ <;> omega
  have dt := ps_nI_t (k := d) (by omega)
  have dt1 := ps_nI_t (k := d + 1) (by omega)
  obtain ⟨tr1, tb1, rf2, g1, g2, g3, g4, g5, g6, g7, g8⟩ := ps_hv1 hP hQ t1 t2 hf lat x1 w3 w4 d2 hr e2
  obtain ⟨tb2, k1, k2, k3⟩ := ps_hv2 (d := d) a1 t1 t2 g7 g8 (show tr1 1 t = nI d by rw [g3 1 (by omega)]; exact d2) (by omega)
  have r3 : ps_r3 lat ln x1 w3 w4 (pl 2 t) (nI t) rf = cr_up rf2 15 t (nI (d + 1)) := by
    unfold ps_r3
    rw [ps_nI_c (k := t) (by omega), d3, e1, g2, g5 15 (by decide) (by decide), d3, show nI d + 1 = nI (d + 1) from nI_1 d]
  have rt : ps_rt lat ln x1 w3 w4 (pl 2 t) (nI t) rf = (if md_Ref_tickOf (cr_up rf2 15 t (nI (d + 1))) lat ln (nI t) (nI (d + 1)) = nI r then (if 0 ≤ md_Ref_tickOf (cr_up rf2 15 t (nI (d + 1))) lat ln (nI t) (nI (d + 1)) then cr_up (cr_up (cr_up rf2 15 t (nI (d + 1))) 16 t (nI r)) 13 t 1 else cr_up (cr_up (cr_up rf2 15 t (nI (d + 1))) 16 t (nI r)) 13 t 2) else (if 0 ≤ md_Ref_tickOf (cr_up rf2 15 t (nI (d + 1))) lat ln (nI t) (nI (d + 1)) then cr_up (cr_up (cr_up rf2 15 t (nI (d + 1))) 16 t 0) 13 t 1 else cr_up (cr_up (cr_up rf2 15 t (nI (d + 1))) 16 t 0) 13 t 2)) := by
    unfold ps_rt
    rw [r3, ps_nI_c (k := t) (by omega), d3, e1, pu_up_same]
  have f15 : (cr_up rf2 15 t (nI (d + 1))) 15 = upd (rf 15) t (nI (d + 1)) := by rw [pu_up_fn, g5 15 (by decide) (by decide)]
  have f16 : (cr_up rf2 15 t (nI (d + 1))) 16 = upd (rf 16) t (nI r) := by rw [pu_up_cell _ _ _ (show (16 : Nat) ≠ 15 by decide), g6]
  have f17 : (cr_up rf2 15 t (nI (d + 1))) 17 = rf2 17 := pu_up_cell _ _ _ (show (17 : Nat) ≠ 15 by decide)
  have fc : ∀ c, c ≠ 15 → c ≠ 16 → c ≠ 17 → (cr_up rf2 15 t (nI (d + 1))) c = rf c := fun c q1 q2 q3 => (pu_up_cell _ _ _ q1).trans (g5 c q2 q3)
  have hP3 : ps_Pl pl (cr_up rf2 15 t (nI (d + 1))) ln T R := ps_Pl_F hP (by rw [fc 0 (by decide) (by decide) (by decide)]) (by rw [fc 0 (by decide) (by decide) (by decide)]) (fc 1 (by decide) (by decide) (by decide)) (fc 2 (by decide) (by decide) (by decide))
  have nx := ps_tick hP3 lat (t := t) (d := d + 1) (by omega) (by omega)
  generalize cr_up rf2 15 t (nI (d + 1)) = rf3 at rt f15 f16 f17 fc hP3 nx
  obtain ⟨b1, b2, b3, b4, b5, b6, b7, b8⟩ := k2
  have tv := b8.1 t
  -- the cells of the reference behind the tick
  have cell : ∀ hv s : Int32, (cr_up (cr_up rf3 16 t hv) 13 t s) 13 = upd (rf 13) t s ∧ (cr_up (cr_up rf3 16 t hv) 13 t s) 14 = rf 14 ∧ (cr_up (cr_up rf3 16 t hv) 13 t s) 15 = upd (rf 15) t (nI (d + 1)) ∧ (cr_up (cr_up rf3 16 t hv) 13 t s) 16 t = hv ∧ (∀ u, u ≠ t → (cr_up (cr_up rf3 16 t hv) 13 t s) 16 u = rf 16 u) ∧ (cr_up (cr_up rf3 16 t hv) 13 t s) 17 = rf2 17 ∧ ps_TF rf (cr_up (cr_up rf3 16 t hv) 13 t s) := fun hv s => by
    refine ⟨?_, ?_, ?_, ?_, fun u hu => ?_, ?_, fun k q1 q2 q3 q4 q5 => ?_⟩
    · rw [pu_up_fn, pu_up_cell _ _ _ (show (13 : Nat) ≠ 16 by decide), fc 13 (by decide) (by decide) (by decide)]
    · rw [pu_up_cell _ _ _ (show (14 : Nat) ≠ 13 by decide), pu_up_cell _ _ _ (show (14 : Nat) ≠ 16 by decide), fc 14 (by decide) (by decide) (by decide)]
    · rw [pu_up_cell _ _ _ (show (15 : Nat) ≠ 13 by decide), pu_up_cell _ _ _ (show (15 : Nat) ≠ 16 by decide), f15]
    · rw [pu_up_cell _ _ _ (show (16 : Nat) ≠ 13 by decide), pu_up_same]
    · rw [pu_up_cell _ _ _ (show (16 : Nat) ≠ 13 by decide), pu_up_place _ _ _ hu, f16, ps_us_n _ _ hu]
    · rw [pu_up_cell _ _ _ (show (17 : Nat) ≠ 13 by decide), pu_up_cell _ _ _ (show (17 : Nat) ≠ 16 by decide), f17]
    · rw [pu_up_cell _ _ _ q1, pu_up_cell _ _ _ q4, fc k q3 q4 q5]
  have mk : ∀ (hv s : Int32) (tbF trF : cr_S), hv = tb2 3 t → (∀ k, trF (3 + k) = tr1 (3 + k)) → trF 1 = upd (tr 1) t (nI (d + 1)) → trF 0 0 = nI (ps_cnt (upd (rf 13) t s) 2 T) → ps_Bd pl tbF T R → cr_RBoard tbF → tbF 0 = tb 0 → (∀ u, u ≠ t → tbF 1 u = tb 1 u) → tbF 2 = tb 2 → tbF 3 = tb2 3 → tbF 4 = tb2 4 → tbF 5 = tb2 5 → ((tb2 3 t = 0 ∧ ∀ j, tb2 4 j ≠ nI t) ∨ ∃ r, 1 ≤ r ∧ r ≤ 8 ∧ tb2 3 t = nI r ∧ (∀ j, tb2 4 j = nI t ↔ j = r) ∧ ps_ra pl (nI t) (nI (d + 1)) = nI r) → ((s = 1 ∧ tbF 1 t = 1 ∧ ((d + 1 : Nat) : Int) < (ps_to pl (nI t)).toInt) ∨ (s = 2 ∧ tbF 1 t = 0 ∧ ((d + 1 : Nat) : Int) = (ps_to pl (nI t)).toInt)) → ps_TQ pl (cr_up (cr_up rf3 16 t hv) 13 t s) trF tbF T R ∧ ps_TF rf (cr_up (cr_up rf3 16 t hv) 13 t s) ∧ tbF 0 = tb 0 ∧ (∀ u, u ≠ t → (cr_up (cr_up rf3 16 t hv) 13 t s) 13 u = rf 13 u) ∧ (cr_up (cr_up rf3 16 t hv) 13 t s) 13 t ≠ 0 ∧ rf 13 t ≠ 0 ∧ (∀ u, u ≠ t → trF 1 u = tr 1 u) ∧ (trF 1 t).toInt = (tr 1 t).toInt + 1 := fun hv s tbF trF p1 p2 p3 p4 p5 p6 p7 p8 p9 p10 p11 p12 p13 p14 => by
    obtain ⟨l13, l14, l15, l16, l16', l17, lF⟩ := cell hv s
    have s0 : s ≠ 0 := by
      rcases p14 with ⟨q, _⟩ | ⟨q, _⟩
      · rw [q]
        decide
      · rw [q]
        decide
    refine ⟨ps_TQ_mk (d := d) (s := s) a1 t1 Q2 Q3 Q4 p5 ?_ ?_ (fun j => by rw [p12]; exact b7 j) p6 ?_ (by omega) t2 (by rw [p3, ps_us_s]) (fun u hu => by rw [p3, ps_us_n _ _ hu]) (by rw [l13, ps_us_s]) (fun u hu => by rw [l13, ps_us_n _ _ hu]) l14 (by rw [l15, ps_us_s]) (fun u hu => by rw [l15, ps_us_n _ _ hu]) (by rw [l16, p10]; exact p1) l16' p8 p9 (fun u hu => by rw [p10]; exact b5 u hu) (fun u j q1 q2 q3 => by rw [p11]; exact b6 u j q1 q2 q3) (by rw [p10, p11]; exact p13) rd p14, lF, p7, fun u hu => by rw [l13, ps_us_n _ _ hu], by rw [l13, ps_us_s]; exact s0, by rw [r13]; decide, fun u hu => by rw [p3, ps_us_n _ _ hu], ?_⟩
    · intro k u q1 q2 q3
      obtain ⟨m, m1, m2, m3, m4⟩ := g4 k u q1 q2 q3
      refine ⟨m, m1, by rw [p2 k]; exact m2, fun r' hr' => ?_, m4⟩
      rw [l17]
      exact m3 r' hr'
    · unfold ps_TE
      rw [p4, l13]
    · intro j
      by_cases w : j = t
      · rw [w, l16, p1]
        omega
      · rw [l16' j w]
        exact Q9 j
    · rw [p3, ps_us_s, d2]
      omega
  have j81 : md_Trial_haveTick pl tr tb (nI t) = (if nI (d + 1) < ps_to pl (nI t) then (cr_up tr1 1 t (nI (d + 1)), tb2) else (cr_up (cr_up tr1 1 t (nI (d + 1))) 0 0 ((cr_up tr1 1 t (nI (d + 1))) 0 0 + 1), md_Board_putToSleep pl tb2 (nI t))) := by
    rw [g1, k1]
    unfold jn_Trial_haveTick_81
    rw [ps_nI_c (k := t) (by omega), pu_up_same, ps_toE]
  have u1 : (cr_up tr1 1 t (nI (d + 1))) 1 = upd (tr 1) t (nI (d + 1)) := by rw [pu_up_fn, g3 1 (by omega)]
  have u0 : (cr_up tr1 1 t (nI (d + 1))) 0 0 = nI (ps_cnt (rf 13) 2 T) := by
    rw [pu_up_cell _ _ _ (show (0 : Nat) ≠ 1 by decide), g3 0 (by omega)]
    exact Q6
  rcases nx with ⟨r', hr', n1, n2, n3⟩ | ⟨n1, n2, n3⟩
  · have lt : nI (d + 1) < ps_to pl (nI t) := by rw [pu_lt]; omega
    have ge : (0 : Int32) ≤ nI r' := by
      have : r' ≤ 8 := by
        have := hP.1.2.1
        rcases hr' with q | ⟨_, q, _⟩ <;> omega
      have := ps_nI_t (k := r') (by omega)
      rw [pu_le, this]
      show (0 : Int) ≤ r'
      omega
    rw [if_pos lt] at j81
    have cs : ps_cnt (upd (rf 13) t 1) 2 T = ps_cnt (rf 13) 2 T := ps_cnt_same 2 T (fun j _ _ => by
      by_cases w : j = t
      · rw [w, ps_us_s, r13]
      · rw [ps_us_n _ _ w])
    have go := fun hv (p1 : hv = tb2 3 t) p13 => mk hv 1 tb2 (cr_up tr1 1 t (nI (d + 1))) p1 (fun k => pu_up_cell _ _ _ (show 3 + k ≠ 1 by omega)) u1 (by rw [cs]; exact u0) b1 b8 b2 (fun u _ => by rw [b3]) b4 rfl rfl rfl p13 (Or.inl ⟨rfl, by rw [b3]; exact rd, by omega⟩)
    rw [n1] at rt
    rcases k3 with ⟨q1, q2, q3⟩ | ⟨q1, q2, q3⟩
    · rw [if_pos (show nI r' = nI r from n2.symm.trans q1), if_pos ge] at rt
      refine ⟨_, _, _, rt, j81, go (nI r) q2.symm ?_⟩
      rcases q3 with ⟨_, q4, q5⟩ | ⟨q4, q5, q6, q7⟩
      · exact Or.inl ⟨q4, q5⟩
      · exact Or.inr ⟨r, q4, q5, q6, q7, q1⟩
    · rw [if_neg (show ¬ nI r' = nI r from fun q => q1 (n2.trans q)), if_pos ge] at rt
      exact ⟨_, _, _, rt, j81, go 0 q2.symm (Or.inl ⟨q2, q3⟩)⟩
  · have nlt : ¬ nI (d + 1) < ps_to pl (nI t) := by rw [pu_lt]; omega
    have no : tb2 3 t = 0 ∧ ∀ j, tb2 4 j ≠ nI t := by
      rcases k3 with ⟨q1, q2, q3⟩ | ⟨q1, q2, q3⟩
      · rcases q3 with ⟨_, q4, q5⟩ | ⟨q4, q5, q6, q7⟩
        · exact ⟨q4, q5⟩
        · rw [n2] at q1
          exact absurd q1.symm (ps_nz q4 (by omega))
      · exact ⟨q2, q3⟩
    rw [if_neg nlt, ps_sl0 pl (by omega) no.1, u0] at j81
    have m1 : ¬ (-1 : Int32) = nI r := fun q => by
      have := cr_eq q
      have := ps_nI_t (k := r) (by omega)
      have km : (-1 : Int32).toInt = -1 := by decide
      omega
    rw [n1, if_neg m1, if_neg (show ¬ (0 : Int32) ≤ -1 by decide)] at rt
    have cs := ps_cnt_dec (f := upd (rf 13) t 2) (f' := rf 13) (x := 2) t1 (by rw [ps_us_s]) (by rw [r13]; decide) (fun j hj => by rw [ps_us_n _ _ hj]) T t2
    have c1 : (cr_up tb2 1 t 0) 1 = upd (tb 1) t 0 := by rw [pu_up_fn, b3]
    have c4 : (cr_up tb2 1 t 0) 4 = tb2 4 := pu_up_cell _ _ _ (show (4 : Nat) ≠ 1 by decide)
    have nb : ps_Bd pl (cr_up tb2 1 t 0) T R := by
      refine ps_Bd_drop b1 a1 (by rw [pu_up_cell _ _ _ (show (0 : Nat) ≠ 1 by decide)]) (pu_up_cell _ _ _ (show (2 : Nat) ≠ 1 by decide)) (fun j => Or.inl (by rw [c4])) (fun u => ?_)
      rw [c1, c4]
      by_cases w : u = t
      · rw [w, ps_us_s]
        exact Or.inr ⟨Or.inl rfl, no.2⟩
      · rw [ps_us_n _ _ w, b3]
        exact Or.inl rfl
    refine ⟨_, _, _, rt, j81, mk 0 2 (cr_up tb2 1 t 0) (cr_up (cr_up tr1 1 t (nI (d + 1))) 0 0 (nI (ps_cnt (rf 13) 2 T) + 1)) no.1.symm (fun k => ?_) ?_ ?_ nb ⟨cr_rg_up b8.1 (fun q => absurd q (by decide)), cr_rg_up b8.2 (fun q => absurd q (by decide))⟩ ?_ (fun u hu => by rw [c1, ps_us_n _ _ hu]) ?_ (pu_up_cell _ _ _ (show (3 : Nat) ≠ 1 by decide)) c4 (pu_up_cell _ _ _ (show (5 : Nat) ≠ 1 by decide)) (Or.inl no) (Or.inr ⟨rfl, by rw [c1, ps_us_s], by omega⟩)⟩
    · rw [pu_up_cell _ _ _ (show 3 + k ≠ 0 by omega), pu_up_cell _ _ _ (show 3 + k ≠ 1 by omega)]
    · rw [pu_up_cell _ _ _ (show (1 : Nat) ≠ 0 by decide), u1]
    · rw [pu_up_same, ← cs]
      exact nI_1 _
    · rw [pu_up_cell _ _ _ (show (0 : Nat) ≠ 1 by decide), b2]
    · rw [pu_up_cell _ _ _ (show (2 : Nat) ≠ 1 by decide), b4]
end
section
/-! the trial: the starts -/
def ps_ph (x1 : Int64) (k : Nat) : Int64 := (x1.toUInt64 >>> (((3 : Int32) * (nI k - (1 : Int32))).toInt64.toUInt64 &&& Int64.toUInt64 63)).toInt64 &&& (7 : Int64)
def ps_PH (x1 : Int64) (τ k : Nat) (rf : cr_S) (T : Nat) : Prop := ∀ q : Nat, 1 ≤ q → q ≤ T → (q < k → (rf 13 q = 0 ↔ (τ : Int) + 1 ≤ (ps_ph x1 q).toInt)) ∧ (k ≤ q → (rf 13 q = 0 ↔ (τ : Int) ≤ (ps_ph x1 q).toInt))
theorem ps_i32_64 {k : Nat} (h : k < 100000) : (nI k).toInt64.toInt = k := by
  rw [ps_i64, ps_nI_t h]
theorem ps_stL {pl tr : cr_S} {ln : Nat → Int64} {T R τ : Nat} (lat x1 : Int64) (hτ : τ < 1000) (ph : ∀ q, 1 ≤ q → q ≤ 10 → (x1 >>> (((3 : Int32) * (nI q - (1 : Int32))).toInt64 &&& 63)) &&& (7 : Int64) = ps_ph x1 q) : ∀ (d k : Nat) (rf tb : cr_S) (v : Int32), ps_Pl pl rf ln T R → ps_TQ pl rf tr tb T R → ps_PH x1 τ k rf T → tb 0 0 = v → 0 ≤ v.toInt → v.toInt ≤ 80000 + k → 1 ≤ k → k ≤ T + 1 → 11 < d + k → ∃ rf' tb' v', lo_Trial_startThoseDue_3 pl tr x1 (nI τ) d tb (nI k) = tb' ∧ lo_Ref_plain_75 lat ln x1 (nI τ) d rf v (nI k) = (rf', v') ∧ ps_TQ pl rf' tr tb' T R ∧ ps_TF rf rf' ∧ ps_PH x1 (τ + 1) 1 rf' T ∧ tb' 0 0 = v' ∧ 0 ≤ v'.toInt ∧ v'.toInt ≤ v.toInt + (T + 1 - k : Nat)
  | 0, k, rf, tb, v, hP, _, _, _, _, _, _, a, b => absurd b (by have := hP.1.1; omega)
  | d + 1, k, rf, tb, v, hP, hQ, hH, hv, v0, v1, h1, hk, hd => by
    obtain ⟨a1, a2, a3, a4, -⟩ := hP.1
    have kt := ps_nI_t (k := k) (by omega)
    have Tt := ps_nI_t (k := T) (by omega)
    rw [lo_Trial_startThoseDue_3, lo_Ref_plain_75, a3, a4]
    by_cases e : k = T + 1
    · have lt : nI T < nI k := by rw [pu_lt]; omega
      rw [if_pos lt, if_pos lt]
      refine ⟨rf, tb, v, rfl, rfl, hQ, ps_TF_r rf, fun q q1 q2 => ⟨fun q3 => absurd q3 (by omega), fun _ => ?_⟩, hv, v0, by omega⟩
      have := (hH q q1 q2).1 (by omega)
      rw [this]
      omega
    · have nlt : ¬ nI T < nI k := by rw [pu_lt]; omega
      have ec : (x1.toUInt64 >>> (((3 : Int32) * (nI k - (1 : Int32))).toInt64.toUInt64 &&& Int64.toUInt64 63)).toInt64 &&& (7 : Int64) = ps_ph x1 k := rfl
      rw [if_neg nlt, if_neg nlt, ph k h1 (by omega), ec, show nI k + 1 = nI (k + 1) from nI_1 k, ps_nI_c (k := k) (by omega)]
      have b1 : 1 ≤ k + 1 := by omega
      have b2 : k + 1 ≤ T + 1 := by omega
      have b3 : 11 < d + (k + 1) := by omega
      have kT : k ≤ T := by omega
      have tt := ps_i32_64 (k := τ) (by omega)
      have hk0 := (hH k h1 kT).2 (Nat.le_refl _)
      by_cases c : lg_cmp (ps_ph x1 k) (nI τ).toInt64 = 0
      · rw [if_pos c, if_pos c]
        rw [lg_cmp_eq] at c
        have s0 : rf 13 k = 0 := hk0.mpr (by rw [c]; omega)
        obtain ⟨Q1, Q2, Q3, Q4, Q5, Q6, Q7, Q8, Q9⟩ := hQ
        have nr : tb 1 k ≠ 1 := fun q => by
          have := (Q4 k h1 kT).1.mpr q
          rw [s0] at this
          exact absurd this (by decide)
        obtain ⟨m1, m2, m3, m4, m5, m6, m7, m8⟩ := ps_mr Q1 a1 (by rw [hv]; exact v0) (by rw [hv]; omega) h1 kT nr
        rw [hv] at m2 m3 m5
        have to := ps_to33 hP (t := k) (by omega)
        have c13 : (cr_up (cr_up rf 13 k 1) 14 k (v + 1)) 13 = upd (rf 13) k 1 := by simp [cr_up]
        have c14 : (cr_up (cr_up rf 13 k 1) 14 k (v + 1)) 14 = upd (rf 14) k (v + 1) := by simp [cr_up]
        have cc : ∀ c, c ≠ 13 → c ≠ 14 → (cr_up (cr_up rf 13 k 1) 14 k (v + 1)) c = rf c := fun c q1 q2 => by rw [pu_up_cell _ _ _ q2, pu_up_cell _ _ _ q1]
        have e15 := cc 15 (by decide) (by decide)
        have e16 := cc 16 (by decide) (by decide)
        have e17 := cc 17 (by decide) (by decide)
        have tf : ps_TF rf (cr_up (cr_up rf 13 k 1) 14 k (v + 1)) := fun c q1 q2 _ _ _ => cc c q1 q2
        generalize cr_up (cr_up rf 13 k 1) 14 k (v + 1) = rf1 at c13 c14 cc e15 e16 e17 tf ⊢
        have q' : ps_TQ pl rf1 tr (md_Board_makeReady pl tb (nI k)) T R := by
          refine ⟨m1, fun u u1 u2 => ?_, fun u u1 u2 => ?_, fun u u1 u2 => ?_, fun q u q1 q2 q3 => ?_, ?_, fun j => by rw [m8]; exact Q7 j, ?_, ps_rh_F Q9 e16⟩
          · rw [e16, m6, m7]
            exact Q2 u u1 u2
          · obtain ⟨dd, d1, d2, d3, d4⟩ := Q3 u u1 u2
            refine ⟨dd, d1, d2, by rw [e15]; exact d3, ?_⟩
            by_cases w : u = k
            · subst w
              rw [c13, ps_us_s]
              rcases d4 with ⟨_, q⟩ | ⟨q, _⟩ | ⟨q, _⟩
              · exact Or.inr (Or.inl ⟨rfl, by omega⟩)
              · rw [s0] at q
                exact absurd q (by decide)
              · rw [s0] at q
                exact absurd q (by decide)
            · rw [c13, ps_us_n _ _ w]
              exact d4
          · rw [c13, c14, m4, m5]
            by_cases w : u = k
            · rw [w, ps_us_s, ps_us_s, ps_us_s, ps_us_s]
              exact ⟨Iff.rfl, fun _ => rfl⟩
            · rw [ps_us_n _ _ w, ps_us_n _ _ w, ps_us_n _ _ w, ps_us_n _ _ w]
              exact Q4 u u1 u2
          · obtain ⟨m, n1, n2, n3, n4⟩ := Q5 q u q1 q2 q3
            refine ⟨m, n1, n2, fun r hr => ?_, n4⟩
            rw [e17]
            exact n3 r hr
          · have cs : ps_cnt (upd (rf 13) k 1) 2 T = ps_cnt (rf 13) 2 T := ps_cnt_iff 2 T (fun j _ _ => by
              by_cases w : j = k
              · rw [w, ps_us_s, s0]
                exact ⟨fun z => absurd z (by decide), fun z => absurd z (by decide)⟩
              · rw [ps_us_n _ _ w])
            unfold ps_TE
            rw [c13, cs]
            exact Q6
          · unfold cr_RBoard cr_rg
            rw [m6, m8]
            exact Q8
        have h' : ps_PH x1 τ (k + 1) rf1 T := fun q q1 q2 => by
          rw [c13]
          refine ⟨fun q3 => ?_, fun q3 => ?_⟩
          · by_cases w : q = k
            · rw [w, ps_us_s, c]
              exact ⟨fun z => absurd z (by decide), fun z => absurd z (by omega)⟩
            · rw [ps_us_n _ _ w]
              exact (hH q q1 q2).1 (by omega)
          · rw [ps_us_n _ _ (show q ≠ k by omega)]
            exact (hH q q1 q2).2 (by omega)
        obtain ⟨rf', tb', v', i1, i2, i3, i4, i5, i6, i7, i8⟩ := ps_stL (R := R) lat x1 hτ ph d (k + 1) rf1 (md_Board_makeReady pl tb (nI k)) (v + 1) (ps_Pl_TF hP tf) q' h' m2 (by omega) (by omega) b1 b2 b3
        exact ⟨rf', tb', v', i1, i2, i3, ps_TF_t tf i4, i5, i6, i7, by omega⟩
      · rw [if_neg c, if_neg c]
        rw [lg_cmp_eq, ← Int64.toInt_inj, tt] at c
        have h' : ps_PH x1 τ (k + 1) rf T := fun q q1 q2 => by
          refine ⟨fun q3 => ?_, fun q3 => (hH q q1 q2).2 (by omega)⟩
          by_cases w : q = k
          · rw [w, hk0]
            omega
          · exact (hH q q1 q2).1 (by omega)
        obtain ⟨rf', tb', v', i1, i2, i3, i4, i5, i6, i7, i8⟩ := ps_stL (R := R) lat x1 hτ ph d (k + 1) rf tb v hP hQ h' hv v0 (by omega) b1 b2 b3
        exact ⟨rf', tb', v', i1, i2, i3, i4, i5, i6, i7, by omega⟩
end
section
/-! the trial: the three cores at one tick -/
theorem ps_trk {pl rf tr tb : cr_S} {ln : Nat → Int64} {T R t : Nat} (hP : ps_Pl pl rf ln T R) (hQ : ps_TQ pl rf tr tb T R) (lat : Int64) (t1 : 1 ≤ t) (t2 : t ≤ T) : (md_Ref_trialRank rf lat ln (nI t)).toInt = ps_rn pl (tb 4) t R := by
  obtain ⟨⟨a1, a2, a3, a4, a5, a6, a7, a8, a9⟩, pL, pR, pU, pC, pO⟩ := id hP
  obtain ⟨q1, q2⟩ := hQ.2.1 t t1 t2
  have k0 : (0 : Int32).toInt = 0 := by decide
  unfold md_Ref_trialRank
  rw [ps_nI_c (k := t) (by omega), q1, ← a7]
  rcases q2 with ⟨z, w⟩ | ⟨r, r1, r2, r3, r4, r5⟩
  · rw [z, if_pos (show (0 : Int32) ≤ 0 by decide), ps_rn_free R w]
  · have rt := ps_nI_t (k := r) (by omega)
    have bh := ps_B4h hQ.1.2.2.2.1 a1 t1 (by omega) ((r4 r).mpr rfl)
    have g := ps_rn_ge pl (tb 4) t R
    have c := ps_rn_c pl (tb 4) t R r r1 bh.2.2.2.1 ((r4 r).mpr rfl)
    rw [r3, if_neg (show ¬ nI r ≤ 0 by rw [pu_le]; omega), ps_ceilE (ps_Pl_P hP) lat r2]
    by_cases y : pl 3 r ≤ pl 1 t
    · rw [if_pos y]
      have y' := cr_le y
      have le := ps_rn_le (pl := pl) (f := tb 4) (t := t) (m := (pl 1 t).toInt) (Int.le_refl _) R (fun j _ _ hj => by rw [(r4 j).mp hj]; exact y')
      omega
    · rw [if_neg y]
      have y' := cr_nle y
      have le := ps_rn_le (pl := pl) (f := tb 4) (t := t) (m := (pl 3 r).toInt) (by omega) R (fun j _ _ hj => by rw [(r4 j).mp hj]; exact Int.le_refl _)
      omega
/-- both sides choose the same task for a core -/
theorem ps_pick {pl rf tr tb : cr_S} {ln : Nat → Int64} {T R : Nat} (hP : ps_Pl pl rf ln T R) (hQ : ps_TQ pl rf tr tb T R) (lat : Int64) (c : Int32) : ∃ g, md_Board_firstOn pl tb c = nI g ∧ md_Ref_trialRuns rf lat ln c = nI g ∧ ps_fs pl tb R c (T + 1) g ∧ g ≤ T := by
  obtain ⟨⟨a1, a2, a3, a4, a5, a6, a7, a8, a9⟩, pL, pR, pU, pC, pO⟩ := id hP
  obtain ⟨Q1, Q2, Q3, Q4, Q5, Q6, Q7, Q8, Q9⟩ := id hQ
  obtain ⟨f, ef, hf⟩ := ps_fst a1 a2 a3 a5 c (fun u x y => (pR u x y).1) Q1.2.2.1
  obtain ⟨g, eg, hg⟩ := ps_truL lat ln a1 a4 c (fun u => ps_rn pl (tb 4) u R) (fun u u1 u2 _ => by
      have b := ps_rn20 a2 pR pC (tb 4) u1 u2
      exact ⟨ps_trk hP hQ lat u1 u2, by omega, b.2⟩) (fun x y x1 x2 y1 y2 hx hy ne => by
      have hx' := (Q4 x x1 x2).1.mp hx
      have hy' := (Q4 y y1 y2).1.mp hy
      rw [← (Q4 x x1 x2).2 hx', ← (Q4 y y1 y2).2 hy']
      exact Q1.2.2.1 x y hx' hy' ne) 11 1 0 (by omega) (by omega) (by omega) (ps_best_1 _ _ _)
  have eg' : md_Ref_trialRuns rf lat ln c = nI g := eg
  have hg' : ps_fs pl tb R c (T + 1) g := by
    refine ps_best_c (fun u u1 u2 => ?_) (fun u _ _ _ => rfl) (fun u u1 u2 q => ?_) hg
    · unfold ps_rd
      rw [a8, (Q4 u u1 (by omega)).1]
    · show (rf 14 u).toInt = (tb 2 u).toInt
      rw [(Q4 u u1 (by omega)).2 ((Q4 u u1 (by omega)).1.mp q.2)]
  have fg : f = g := ps_best_u hf hg'
  subst fg
  have := ps_best_b hf (by omega)
  exact ⟨f, ef, eg', hf, by omega⟩
def ps_sum (g : Nat → Int32) : Nat → Int
  | 0 => 0
  | n + 1 => ps_sum g n + (g (n + 1)).toInt
theorem ps_sum_same {g g' : Nat → Int32} : ∀ n : Nat, (∀ j, 1 ≤ j → j ≤ n → g' j = g j) → ps_sum g' n = ps_sum g n
  | 0, _ => rfl
  | n + 1, h => by
    rw [ps_sum, ps_sum, ps_sum_same n (fun j a b => h j a (by omega)), h (n + 1) (by omega) (Nat.le_refl _)]
theorem ps_sum_up {g g' : Nat → Int32} {t : Nat} (t1 : 1 ≤ t) (ht : (g' t).toInt = (g t).toInt + 1) (ho : ∀ u, u ≠ t → g' u = g u) : ∀ n : Nat, t ≤ n → ps_sum g' n = ps_sum g n + 1
  | 0, h => absurd h (by omega)
  | n + 1, h => by
    rw [ps_sum, ps_sum]
    by_cases c : t = n + 1
    · have s := ps_sum_same (g := g) (g' := g') n (fun j _ b => ho j (by omega))
      rw [← c, s, ht]
      omega
    · rw [ps_sum_up t1 ht ho n (by omega), ho (n + 1) (by omega)]
      omega
theorem ps_coL {pl : cr_S} {ln : Nat → Int64} {T R : Nat} (lat x1 : Int64) (w3 w3' w4 : Int32) : ∀ (d c : Nat) (rf tr tb : cr_S), ps_Pl pl rf ln T R → ps_TQ pl rf tr tb T R → 1 ≤ c → c ≤ 4 → 4 < d + c → ∃ rf' tr' tb', lo_Trial_mostDelays_36 pl x1 w3 d tr tb (nI c) = (tr', tb') ∧ lo_Ref_plain_134 lat ln x1 w3' w4 d rf (nI c) = rf' ∧ ps_TQ pl rf' tr' tb' T R ∧ ps_TF rf rf' ∧ tb' 0 = tb 0 ∧ (∀ u, rf' 13 u = 0 ↔ rf 13 u = 0) ∧ ps_sum (tr 1) T ≤ ps_sum (tr' 1) T ∧ ((∃ u, 1 ≤ u ∧ u ≤ T ∧ tb 1 u = 1 ∧ (c : Int) ≤ (pl 2 u).toInt ∧ (pl 2 u).toInt ≤ 3) → ps_sum (tr 1) T + 1 ≤ ps_sum (tr' 1) T)
  | 0, c, rf, tr, tb, _, _, _, a, b => absurd b (by omega)
  | d + 1, c, rf, tr, tb, hP, hQ, h1, hc, hd => by
    have ct := ps_nI_t (k := c) (by omega)
    have k3 : (3 : Int32).toInt = 3 := by decide
    have k4 : (4 : Int32).toInt = 4 := by decide
    have a1 := hP.1.1
    rw [lo_Trial_mostDelays_36, ps_134E]
    by_cases e : c = 4
    · rw [if_pos (show (3 : Int32) < nI c by rw [pu_lt]; omega), if_pos (show (4 : Int32) ≤ nI c by rw [pu_le]; omega)]
      exact ⟨rf, tr, tb, rfl, rfl, hQ, ps_TF_r rf, rfl, fun _ => Iff.rfl, Int.le_refl _, fun ⟨u, _, _, _, q1, q2⟩ => absurd q2 (by omega)⟩
    · rw [if_neg (show ¬ (3 : Int32) < nI c by rw [pu_lt]; omega), if_neg (show ¬ (4 : Int32) ≤ nI c by rw [pu_le]; omega), show nI c + 1 = nI (c + 1) from nI_1 c]
      have b1 : 1 ≤ c + 1 := by omega
      have b2 : c + 1 ≤ 4 := by omega
      have b3 : 4 < d + (c + 1) := by omega
      obtain ⟨g, g1, g2, g3, g4⟩ := ps_pick hP hQ lat (nI c)
      rw [g1, g2]
      by_cases z : g = 0
      · have z' : nI g = 0 := by rw [z]; rfl
        rw [if_pos z', if_pos z']
        obtain ⟨rf', tr', tb', i1, i2, i3, i4, i5, i6, i7, i8⟩ := ps_coL lat x1 w3 w3' w4 d (c + 1) rf tr tb hP hQ b1 b2 b3
        refine ⟨rf', tr', tb', i1, i2, i3, i4, i5, i6, i7, fun ⟨u, u1, u2, u3, u4, u5⟩ => i8 ⟨u, u1, u2, u3, ?_, u5⟩⟩
        have ne : (pl 2 u).toInt ≠ c := fun q => by
          rcases g3 with ⟨_, w⟩ | ⟨w, _⟩
          · exact w u u1 (by omega) ⟨by rw [pu_eq, ct]; exact q, u3⟩
          · omega
        omega
      · have z' : ¬ nI g = 0 := ps_nz (by omega) (by omega)
        rw [if_neg z', if_neg z']
        have gr := ps_best_r g3 z
        have pc : pl 2 g = nI c := gr.2.2.1
        have hf : ps_fs pl tb R (pl 2 g) (T + 1) g := by rw [pc]; exact g3
        obtain ⟨rf1, tr1, tb1, m1, m2, m3, m4, m5, m6, m7, m8, m9, m10⟩ := ps_TQ_tick hP hQ gr.1 g4 hf lat x1 w3' w4
        rw [pc] at m1
        rw [m1, m2]
        obtain ⟨rf', tr', tb', i1, i2, i3, i4, i5, i6, i7, i8⟩ := ps_coL lat x1 w3 w3' w4 d (c + 1) rf1 tr1 tb1 (ps_Pl_TF hP m4) m3 b1 b2 b3
        have su := ps_sum_up (g := tr 1) (g' := tr1 1) gr.1 m10 m9 T g4
        refine ⟨rf', tr', tb', i1, i2, i3, ps_TF_t m4 i4, i5.trans m5, fun u => (i6 u).trans ?_, by omega, fun _ => by omega⟩
        by_cases w : u = g
        · rw [w]
          exact ⟨fun q => absurd q m7, fun q => absurd q m8⟩
        · rw [m6 u w]
end
section
/-! the trial: counting the delays -/
def ps_bits (m : Nat) : Nat → Nat
  | 0 => 0
  | n + 1 => ps_bits m n + (if m.testBit n then 1 else 0)
theorem ps_bc : ∀ m, m < 512 → md_Integer_bitCount (nI m) = nI (ps_bits m 9) := by decide +kernel
def ps_cc (rf : cr_S) (k : Nat) : Nat → Nat
  | 0 => 0
  | j + 1 => ps_cc rf k j + (if rf 17 (99 * k + j) = 0 then 0 else 1)
theorem ps_cc_le (rf : cr_S) (k : Nat) : ∀ j : Nat, ps_cc rf k j ≤ j
  | 0 => Nat.le_refl _
  | j + 1 => by
    have ih := ps_cc_le rf k j
    rw [ps_cc]
    by_cases c : rf 17 (99 * k + j) = 0
    · rw [if_pos c]
      omega
    · rw [if_neg c]
      omega
theorem ps_ccL (rf : cr_S) (lat : Int64) (ln : Nat → Int64) (x1 : Int64) (w4 : Int32) {k : Nat} (hk : k ≤ 10) : ∀ (d j : Nat), j ≤ 99 → 99 < d + j → lo_Ref_plain_359 rf lat ln x1 w4 (nI k) d (nI (ps_cc rf k j)) (nI j) = nI (ps_cc rf k 99)
  | 0, j, a, b => absurd b (by omega)
  | d + 1, j, hj, hd => by
    have jt := ps_nI_t (k := j) (by omega)
    have k99 : (99 : Int32).toInt = 99 := by decide
    rw [lo_Ref_plain_359]
    by_cases e : j = 99
    · rw [if_pos (show (99 : Int32) ≤ nI j by rw [pu_le]; omega), e]
    · have ix : ((99 : Int32) * nI k + nI j).toNatClampNeg = 99 * k + j := by
        rw [show (99 : Int32) = nI 99 from rfl, pk_mul, nI_add, ps_nI_c (by omega)]
      rw [if_neg (show ¬ (99 : Int32) ≤ nI j by rw [pu_le]; omega), ix, show nI j + 1 = nI (j + 1) from nI_1 j]
      have ih := ps_ccL rf lat ln x1 w4 hk d (j + 1) (by omega) (by omega)
      rw [ps_cc] at ih
      by_cases c : rf 17 (99 * k + j) = 0
      · rw [if_pos c] at ih ⊢
        exact ih
      · rw [if_neg c] at ih ⊢
        rw [show nI (ps_cc rf k j) + 1 = nI (ps_cc rf k j + 1) from nI_1 _]
        exact ih
theorem ps_cc9 {rf : cr_S} {k u m : Nat} (h : ∀ r, r ≤ 8 → rf 17 (99 * k + 9 * u + r) = if m.testBit r then 1 else 0) : ∀ n : Nat, n ≤ 9 → ps_cc rf k (9 * u + n) = ps_cc rf k (9 * u) + ps_bits m n
  | 0, _ => rfl
  | n + 1, hn => by
    have ih := ps_cc9 h n (by omega)
    have e := h n (by omega)
    rw [show 9 * u + (n + 1) = 9 * u + n + 1 from rfl, ps_cc, ps_bits, ih, show 99 * k + (9 * u + n) = 99 * k + 9 * u + n by omega, e]
    by_cases c : m.testBit n = true
    · rw [if_pos c, if_neg (show ¬ (1 : Int32) = 0 by decide), if_pos c]
      omega
    · rw [if_neg c, if_pos rfl, if_neg c]
      omega
theorem ps_b0 : ∀ n : Nat, ps_bits 0 n = 0
  | 0 => rfl
  | n + 1 => by
    rw [ps_bits, ps_b0 n, Nat.zero_testBit]
    rfl
theorem ps_ccZ {rf tr : cr_S} {T k : Nat} (h : ps_TD tr rf T) (k1 : 1 ≤ k) (k2 : k ≤ T) : ∀ i : Nat, T + 1 + i ≤ 11 → ps_cc rf k (9 * (T + 1 + i)) = ps_cc rf k (9 * (T + 1))
  | 0, _ => rfl
  | i + 1, hi => by
    have ih := ps_ccZ h k1 k2 i (by omega)
    obtain ⟨m, m1, m2, m3, m4⟩ := h k (T + 1 + i) k1 k2 (by omega)
    have z := m4 (Or.inr (by omega))
    have s := ps_cc9 m3 9 (by omega)
    rw [z, ps_b0] at s
    rw [show 9 * (T + 1 + (i + 1)) = 9 * (T + 1 + i) + 9 by omega, s, ih]
    rfl
theorem ps_cdL {pl rf tr : cr_S} (tb : cr_S) {T k : Nat} (hT : T ≤ 10) (e0 : pl 0 0 = nI T) (h : ps_TD tr rf T) (k1 : 1 ≤ k) (k2 : k ≤ T) : ∀ (d u : Nat), 1 ≤ u → u ≤ T + 1 → 11 < d + u → lo_Trial_countDelays_4 pl tr tb (nI k) d (nI (ps_cc rf k (9 * u))) (nI u) = nI (ps_cc rf k (9 * (T + 1)))
  | 0, u, _, a, b => absurd b (by omega)
  | d + 1, u, h1, hu, hd => by
    have ut := ps_nI_t (k := u) (by omega)
    have Tt := ps_nI_t (k := T) (by omega)
    rw [lo_Trial_countDelays_4, e0]
    by_cases e : u = T + 1
    · rw [if_pos (show nI T < nI u by rw [pu_lt]; omega), e]
    · obtain ⟨m, m1, m2, m3, m4⟩ := h k u k1 k2 (by omega)
      have s := ps_cc9 m3 9 (by omega)
      rw [if_neg (show ¬ nI T < nI u by rw [pu_lt]; omega), ps_nI_c (k := k) (by omega), ps_nI_c (k := u) (by omega), m2, ps_bc m m1, nI_add, ← s, show nI u + 1 = nI (u + 1) from nI_1 u, show 9 * u + 9 = 9 * (u + 1) by omega]
      exact ps_cdL tb hT e0 h k1 k2 d (u + 1) (by omega) (by omega) (by omega)
theorem ps_cd {pl rf tr : cr_S} (tb : cr_S) {T k : Nat} (hT : T ≤ 10) (e0 : pl 0 0 = nI T) (h : ps_TD tr rf T) (k1 : 1 ≤ k) (k2 : k ≤ T) (lat : Int64) (ln : Nat → Int64) (x1 : Int64) (w4 : Int32) : md_Trial_countDelays pl tr tb (nI k) = lo_Ref_plain_359 rf lat ln x1 w4 (nI k) 100 0 0 := by
  obtain ⟨m, m1, m2, m3, m4⟩ := h k 0 k1 k2 (by omega)
  have z := m4 (Or.inl rfl)
  have s := ps_cc9 m3 9 (by omega)
  rw [z, ps_b0] at s
  have s0 : ps_cc rf k (9 * 1) = 0 := s
  have a := ps_cdL tb hT e0 h k1 k2 11 1 (by omega) (by omega) (by omega)
  rw [s0] at a
  have b := ps_ccL rf lat ln x1 w4 (k := k) (by omega) 100 0 (by omega) (by omega)
  have c := ps_ccZ h k1 k2 (10 - T) (by omega)
  rw [show 9 * (T + 1 + (10 - T)) = 99 by omega] at c
  have a' : md_Trial_countDelays pl tr tb (nI k) = nI (ps_cc rf k (9 * (T + 1))) := a
  have b' : lo_Ref_plain_359 rf lat ln x1 w4 (nI k) 100 0 0 = nI (ps_cc rf k 99) := b
  rw [a', b', c]
theorem ps_moL {pl rf tr : cr_S} (tb : cr_S) {ln : Nat → Int64} {T : Nat} (hT : T ≤ 10) (e0 : pl 0 0 = nI T) (e0' : rf 0 0 = nI T) (h : ps_TD tr rf T) (lat x1 : Int64) : ∀ (d k : Nat) (v : Int32), 1 ≤ k → k ≤ T + 1 → 11 < d + k → ∃ a, lo_Trial_mostDelays_81 pl tr tb x1 d v (nI k) = (a, tr, tb) ∧ lo_Ref_plain_344 rf lat ln x1 d v (nI k) = (a, rf)
  | 0, k, v, _, a, b => absurd b (by omega)
  | d + 1, k, v, h1, hk, hd => by
    have kt := ps_nI_t (k := k) (by omega)
    have Tt := ps_nI_t (k := T) (by omega)
    rw [lo_Trial_mostDelays_81, lo_Ref_plain_344, e0, e0']
    by_cases e : k = T + 1
    · have lt : nI T < nI k := by rw [pu_lt]; omega
      rw [if_pos lt, if_pos lt]
      exact ⟨v, rfl, rfl⟩
    · have nlt : ¬ nI T < nI k := by rw [pu_lt]; omega
      rw [if_neg nlt, if_neg nlt, show nI k + 1 = nI (k + 1) from nI_1 k, ps_cd tb hT e0 h h1 (by omega) lat ln x1 v]
      have ih := fun v' => ps_moL tb (ln := ln) hT e0 e0' h lat x1 d (k + 1) v' (by omega) (by omega) (by omega)
      unfold cr_max
      by_cases c : lo_Ref_plain_359 rf lat ln x1 v (nI k) 100 0 0 ≤ v
      · have c' := cr_le c
        rw [if_pos c, if_neg (show ¬ v < lo_Ref_plain_359 rf lat ln x1 v (nI k) 100 0 0 by rw [pu_lt]; omega)]
        exact ih v
      · have c' := cr_nle c
        rw [if_neg c, if_pos (show v < lo_Ref_plain_359 rf lat ln x1 v (nI k) 100 0 0 by rw [pu_lt]; omega)]
        exact ih _
end
section
/-! the trial: ticks that do nothing, and the loop of ticks -/
theorem ps_st0 {rf : cr_S} (lat : Int64) (ln : Nat → Int64) (x1 : Int64) (w : Int32) {T : Nat} (hT : T ≤ 10) (e0 : rf 0 0 = nI T) (ph : ∀ q, 1 ≤ q → q ≤ 10 → (x1 >>> (((3 : Int32) * (nI q - (1 : Int32))).toInt64 &&& 63)) &&& (7 : Int64) = ps_ph x1 q) (no : ∀ q, 1 ≤ q → q ≤ T → ps_ph x1 q ≠ w.toInt64) (v : Int32) : ∀ (d k : Nat), 1 ≤ k → k ≤ T + 1 → 11 < d + k → lo_Ref_plain_75 lat ln x1 w d rf v (nI k) = (rf, v)
  | 0, k, _, a, b => absurd b (by omega)
  | d + 1, k, h1, hk, hd => by
    have kt := ps_nI_t (k := k) (by omega)
    have Tt := ps_nI_t (k := T) (by omega)
    rw [lo_Ref_plain_75, e0]
    by_cases e : k = T + 1
    · rw [if_pos (show nI T < nI k by rw [pu_lt]; omega)]
    · rw [if_neg (show ¬ nI T < nI k by rw [pu_lt]; omega), ph k h1 (by omega), if_neg (show ¬ lg_cmp (ps_ph x1 k) w.toInt64 = 0 by rw [lg_cmp_eq]; exact no k h1 (by omega)), show nI k + 1 = nI (k + 1) from nI_1 k]
      exact ps_st0 lat ln x1 w hT e0 ph no v d (k + 1) (by omega) (by omega) (by omega)
theorem ps_co0 {rf : cr_S} (lat : Int64) (ln : Nat → Int64) (x1 : Int64) (w3 w4 : Int32) (no : ∀ c, md_Ref_trialRuns rf lat ln c = 0) : ∀ (d c : Nat), 1 ≤ c → c ≤ 4 → 4 < d + c → lo_Ref_plain_134 lat ln x1 w3 w4 d rf (nI c) = rf
  | 0, c, _, a, b => absurd b (by omega)
  | d + 1, c, h1, hc, hd => by
    have ct := ps_nI_t (k := c) (by omega)
    have k4 : (4 : Int32).toInt = 4 := by decide
    rw [ps_134E]
    by_cases e : c = 4
    · rw [if_pos (show (4 : Int32) ≤ nI c by rw [pu_le]; omega)]
    · rw [if_neg (show ¬ (4 : Int32) ≤ nI c by rw [pu_le]; omega), if_pos (no (nI c)), show nI c + 1 = nI (c + 1) from nI_1 c]
      exact ps_co0 lat ln x1 w3 w4 no d (c + 1) (by omega) (by omega) (by omega)
theorem ps_idle {rf : cr_S} (lat : Int64) (ln : Nat → Int64) (x1 : Int64) {T : Nat} (hT : T ≤ 10) (e0 : rf 0 0 = nI T) (ph : ∀ q, 1 ≤ q → q ≤ 10 → (x1 >>> (((3 : Int32) * (nI q - (1 : Int32))).toInt64 &&& 63)) &&& (7 : Int64) = ps_ph x1 q) (no : ∀ c, md_Ref_trialRuns rf lat ln c = 0) (v : Int32) : ∀ (d τ : Nat), τ ≤ 400 → 400 < d + τ → (∀ q, 1 ≤ q → q ≤ T → (ps_ph x1 q).toInt < τ) → lo_Ref_plain_64 lat ln x1 d rf v (nI τ) = lo_Ref_plain_344 rf lat ln x1 11 0 1
  | 0, τ, a, b, _ => absurd b (by omega)
  | d + 1, τ, hτ, hd, hp => by
    have tt := ps_nI_t (k := τ) (by omega)
    have k4 : (400 : Int32).toInt = 400 := by decide
    rw [lo_Ref_plain_64]
    by_cases e : τ = 400
    · rw [if_pos (show (400 : Int32) ≤ nI τ by rw [pu_le]; omega)]
    · have s : lo_Ref_plain_75 lat ln x1 (nI τ) 11 rf v 1 = (rf, v) := ps_st0 lat ln x1 (nI τ) hT e0 ph (fun q q1 q2 z => by
        have a := hp q q1 q2
        have b := ps_i32_64 (k := τ) (by omega)
        rw [z, b] at a
        omega) v 11 1 (by omega) (by omega) (by omega)
      have c : lo_Ref_plain_134 lat ln x1 v (nI τ) 4 rf 1 = rf := ps_co0 lat ln x1 v (nI τ) no 4 1 (by omega) (by omega) (by omega)
      rw [if_neg (show ¬ (400 : Int32) ≤ nI τ by rw [pu_le]; omega), s, show nI τ + 1 = nI (τ + 1) from nI_1 τ]
      show lo_Ref_plain_64 lat ln x1 d (lo_Ref_plain_134 lat ln x1 v (nI τ) 4 rf 1) v (nI (τ + 1)) = _
      rw [c]
      exact ps_idle lat ln x1 hT e0 ph no v d (τ + 1) (by omega) (by omega) (fun q q1 q2 => by have := hp q q1 q2; omega)
theorem ps_sum_nn {pl tr rf : cr_S} {T : Nat} (h : ps_TS pl tr rf T) : ∀ n : Nat, n ≤ T → 0 ≤ ps_sum (tr 1) n ∧ ps_sum (tr 1) n ≤ 33 * (n : Int)
  | 0, _ => ⟨Int.le_refl _, Int.le_refl _⟩
  | n + 1, hn => by
    have ih := ps_sum_nn h n (by omega)
    obtain ⟨d, d1, d2, d3, d4⟩ := h (n + 1) (by omega) hn
    have dt := ps_nI_t (k := d) (by omega)
    rw [ps_sum, d2, dt]
    omega
theorem ps_full {pl tr rf : cr_S} {ln : Nat → Int64} {T R : Nat} (hP : ps_Pl pl rf ln T R) (h : ps_TS pl tr rf T) : ∀ n : Nat, n ≤ T → 33 * (n : Int) ≤ ps_sum (tr 1) n → ∀ q, 1 ≤ q → q ≤ n → rf 13 q = 2
  | 0, _, _, q, a, b => absurd b (by omega)
  | n + 1, hn, hs, q, q1, q2 => by
    have a1 := hP.1.1
    have up := ps_sum_nn h n (by omega)
    obtain ⟨d, d1, d2, d3, d4⟩ := h (n + 1) (by omega) hn
    have dt := ps_nI_t (k := d) (by omega)
    have to := ps_to33 hP (t := n + 1) (by omega)
    rw [ps_sum, d2, dt] at hs
    by_cases w : q = n + 1
    · rw [w]
      rcases d4 with ⟨_, z⟩ | ⟨_, z⟩ | ⟨z, _⟩
      · omega
      · omega
      · exact z
    · exact ps_full hP h n (by omega) (by omega) q q1 (by omega)
theorem ps_main {pl : cr_S} {ln : Nat → Int64} {T R : Nat} (lat x1 : Int64) (ph : ∀ q, 1 ≤ q → q ≤ 10 → (x1 >>> (((3 : Int32) * (nI q - (1 : Int32))).toInt64 &&& 63)) &&& (7 : Int64) = ps_ph x1 q) (phr : ∀ q, 1 ≤ q → q ≤ 10 → 0 ≤ (ps_ph x1 q).toInt ∧ (ps_ph x1 q).toInt ≤ 7) : ∀ (d τ : Nat) (rf tr tb : cr_S) (v : Int32), ps_Pl pl rf ln T R → ps_TQ pl rf tr tb T R → ps_PH x1 τ 1 rf T → tb 0 0 = v → 0 ≤ v.toInt → v.toInt ≤ 20 * τ → τ ≤ 338 → d + τ = 339 → (τ : Int) - 8 ≤ ps_sum (tr 1) T → ∃ a rf' tr' tb', lo_Trial_mostDelays_6 pl x1 d tr tb (nI τ) = (a, tr', tb') ∧ lo_Ref_plain_64 lat ln x1 (401 - τ) rf v (nI τ) = (a, rf') ∧ ps_TQ pl rf' tr' tb' T R ∧ ps_TF rf rf'
  | 0, τ, rf, tr, tb, v, _, _, _, _, _, _, a, b, _ => absurd b (by omega)
  | d + 1, τ, rf, tr, tb, v, hP, hQ, hH, hv, v0, v1, hτ, hd, hs => by
    obtain ⟨⟨a1, a2, a3, a4, a5, a6, a7, a8, a9⟩, pL, pR, pU, pC, pO⟩ := id hP
    obtain ⟨Q1, Q2, Q3, Q4, Q5, Q6, Q7, Q8, Q9⟩ := id hQ
    have tt := ps_nI_t (k := τ) (by omega)
    have Tt := ps_nI_t (k := T) (by omega)
    have k338 : (338 : Int32).toInt = 338 := by decide
    have k400 : (400 : Int32).toInt = 400 := by decide
    have fin : (∀ q, 1 ≤ q → q ≤ T → rf 13 q = 2) → ∃ a rf' tr' tb', lo_Trial_mostDelays_81 pl tr tb x1 11 0 1 = (a, tr', tb') ∧ lo_Ref_plain_64 lat ln x1 (401 - τ) rf v (nI τ) = (a, rf') ∧ ps_TQ pl rf' tr' tb' T R ∧ ps_TF rf rf' := fun all => by
      have no : ∀ c, md_Ref_trialRuns rf lat ln c = 0 := fun c => by
        obtain ⟨g, g1, g2, g3, g4⟩ := ps_pick hP hQ lat c
        by_cases z : g = 0
        · rw [g2, z]
          rfl
        · have gr := ps_best_r g3 z
          have := (Q4 g gr.1 g4).1.mpr gr.2.2.2
          rw [all g gr.1 g4] at this
          exact absurd this (by decide)
      have idl := ps_idle lat ln x1 a1 a4 ph no v (401 - τ) τ (by omega) (by omega) (fun q q1 q2 => by
        have h2 := (hH q q1 q2).2 q1
        rw [all q q1 q2] at h2
        rcases Int.lt_or_le (ps_ph x1 q).toInt τ with w | w
        · exact w
        · exact absurd (h2.mpr w) (by decide))
      obtain ⟨a, m1, m2⟩ := ps_moL tb (ln := ln) a1 a3 a4 Q5 lat x1 11 1 0 (by omega) (by omega) (by omega)
      exact ⟨a, rf, tr, tb, m1, idl.trans m2, hQ, ps_TF_r rf⟩
    rw [lo_Trial_mostDelays_6, a3]
    by_cases e : τ = 338
    · rw [if_pos (show (338 : Int32) ≤ nI τ by rw [pu_le]; omega)]
      exact fin (ps_full hP Q3 T (Nat.le_refl _) (by omega))
    · rw [if_neg (show ¬ (338 : Int32) ≤ nI τ by rw [pu_le]; omega)]
      by_cases c : nI T ≤ tr 0 0
      · rw [if_pos c]
        refine fin (fun q q1 q2 => ps_cnt_all T ?_ q q1 q2)
        have c' := cr_le c
        have le := ps_cnt_le (rf 13) 2 T
        have ct := ps_nI_t (k := ps_cnt (rf 13) 2 T) (by omega)
        rw [Q6, ct, Tt] at c'
        omega
      · rw [if_neg c]
        obtain ⟨rf1, tb1, v', s1, s2, s3, s4, s5, s6, s7, s8⟩ := ps_stL (pl := pl) (tr := tr) (ln := ln) (T := T) (R := R) (τ := τ) lat x1 (by omega) ph 11 1 rf tb v hP hQ hH hv v0 (by omega) (by omega) (by omega) (by omega)
        have s1' : md_Trial_startThoseDue pl tr tb x1 (nI τ) = tb1 := s1
        have s2' : lo_Ref_plain_75 lat ln x1 (nI τ) 11 rf v 1 = (rf1, v') := s2
        have hP1 := ps_Pl_TF hP s4
        obtain ⟨rf2, tr2, tb2, c1, c2, c3, c4, c5, c6, c7, c8⟩ := ps_coL lat x1 (nI τ) v' (nI τ) 4 1 rf1 tr tb1 hP1 s3 (by omega) (by omega) (by omega)
        have c1' : lo_Trial_mostDelays_36 pl x1 (nI τ) 4 tr tb1 1 = (tr2, tb2) := c1
        have c2' : lo_Ref_plain_134 lat ln x1 v' (nI τ) 4 rf1 1 = rf2 := c2
        have sn := ps_sum_nn c3.2.2.1 T (Nat.le_refl _)
        have h2 : ps_PH x1 (τ + 1) 1 rf2 T := fun q q1 q2 => by
          rw [c6 q]
          exact s5 q q1 q2
        have sm : ((τ + 1 : Nat) : Int) - 8 ≤ ps_sum (tr2 1) T := by
          by_cases w : τ ≤ 7
          · omega
          · by_cases ex : ∃ q, 1 ≤ q ∧ q ≤ T ∧ rf1 13 q ≠ 2
            · obtain ⟨q, q1, q2, q3⟩ := ex
              have b1 : tb1 1 q = 1 := by
                obtain ⟨dd, _, _, _, d4⟩ := s3.2.2.1 q q1 q2
                rcases d4 with ⟨z, _⟩ | ⟨z, _⟩ | ⟨z, _⟩
                · have y := ((s5 q q1 q2).2 q1).mp z
                  have := phr q q1 (by omega)
                  omega
                · exact (s3.2.2.2.1 q q1 q2).1.mp z
                · exact absurd z q3
              have pr := pR q q1 q2
              have := c8 ⟨q, q1, q2, b1, pr.2.2.1, pr.2.2.2⟩
              omega
            · have al : ∀ q, 1 ≤ q → q ≤ T → rf1 13 q = 2 := fun q q1 q2 => Decidable.byContradiction (fun q3 => ex ⟨q, q1, q2, q3⟩)
              have cf := ps_cnt_full T al
              have q6 : tr 0 0 = nI (ps_cnt (rf1 13) 2 T) := s3.2.2.2.2.2.1
              rw [cf] at q6
              exact absurd (show nI T ≤ tr 0 0 by rw [q6, pu_le]; exact Int.le_refl _) c
        obtain ⟨a, rf', tr', tb', i1, i2, i3, i4⟩ := ps_main lat x1 ph phr d (τ + 1) rf2 tr2 tb2 v' (ps_Pl_TF hP1 c4) c3 h2 (by rw [c5]; exact s6) s7 (by omega) (by omega) (by omega) sm
        refine ⟨a, rf', tr', tb', ?_, ?_, i3, ps_TF_t s4 (ps_TF_t c4 i4)⟩
        · rw [s1', c1', show nI τ + 1 = nI (τ + 1) from nI_1 τ]
          exact i1
        · rw [show 401 - τ = (401 - (τ + 1)) + 1 by omega, lo_Ref_plain_64, if_neg (show ¬ (400 : Int32) ≤ nI τ by rw [pu_le]; omega), s2', show nI τ + 1 = nI (τ + 1) from nI_1 τ]
          show lo_Ref_plain_64 lat ln x1 (401 - (τ + 1)) (lo_Ref_plain_134 lat ln x1 v' (nI τ) 4 rf1 1) v' (nI (τ + 1)) = _
          rw [c2']
          exact i2
end
section
/-! the trial: the beginning -/
theorem ps_r17L (lat : Int64) (ln : Nat → Int64) (x1 : Int64) : ∀ (d j : Nat) (rf : cr_S), j ≤ 1089 → 1089 < d + j → (∀ i, i < j → rf 17 i = 0) → ∃ rf', lo_Ref_plain_2 lat ln x1 d rf (nI j) = lo_Ref_plain_24 lat ln x1 11 rf' 1 ∧ (∀ c, c ≠ 17 → rf' c = rf c) ∧ ∀ i, i < 1089 → rf' 17 i = 0
  | 0, j, rf, a, b, _ => absurd b (by omega)
  | d + 1, j, rf, hj, hd, hz => by
    have jt := ps_nI_t (k := j) (by omega)
    have k : (1089 : Int32).toInt = 1089 := by decide
    rw [lo_Ref_plain_2]
    by_cases e : j = 1089
    · rw [if_pos (show (1089 : Int32) ≤ nI j by rw [pu_le]; omega)]
      exact ⟨rf, rfl, fun _ _ => rfl, fun i hi => hz i (by omega)⟩
    · rw [if_neg (show ¬ (1089 : Int32) ≤ nI j by rw [pu_le]; omega), ps_nI_c (k := j) (by omega), show nI j + 1 = nI (j + 1) from nI_1 j]
      obtain ⟨rf', i1, i2, i3⟩ := ps_r17L lat ln x1 d (j + 1) (cr_up rf 17 j 0) (by omega) (by omega) (fun i hi => by
        by_cases w : i = j
        · rw [w, pu_up_same]
        · rw [pu_up_place _ _ _ w]
          exact hz i (by omega))
      exact ⟨rf', i1, fun c hc => by rw [i2 c hc, pu_up_cell _ _ _ hc], i3⟩
theorem ps_r24L (lat : Int64) (ln : Nat → Int64) (x1 : Int64) {T : Nat} (hT : T ≤ 10) : ∀ (d k : Nat) (rf : cr_S), rf 0 0 = nI T → 1 ≤ k → k ≤ T + 1 → 11 < d + k → (∀ q, 1 ≤ q → q < k → rf 13 q = 0 ∧ rf 15 q = 0 ∧ rf 16 q = 0) → cr_rh rf 16 (-1) 8 → ∃ rf', lo_Ref_plain_24 lat ln x1 d rf (nI k) = lo_Ref_plain_64 lat ln x1 401 rf' 0 0 ∧ (∀ c, c ≠ 13 → c ≠ 15 → c ≠ 16 → rf' c = rf c) ∧ (∀ q, 1 ≤ q → q ≤ T → rf' 13 q = 0 ∧ rf' 15 q = 0 ∧ rf' 16 q = 0) ∧ cr_rh rf' 16 (-1) 8
  | 0, k, rf, _, _, a, b, _, _ => absurd b (by omega)
  | d + 1, k, rf, e0, h1, hk, hd, hz, hh => by
    have kt := ps_nI_t (k := k) (by omega)
    have Tt := ps_nI_t (k := T) (by omega)
    rw [lo_Ref_plain_24, e0]
    by_cases e : k = T + 1
    · rw [if_pos (show nI T < nI k by rw [pu_lt]; omega)]
      exact ⟨rf, rfl, fun _ _ _ _ => rfl, fun q q1 q2 => hz q q1 (by omega), hh⟩
    · rw [if_neg (show ¬ nI T < nI k by rw [pu_lt]; omega), ps_nI_c (k := k) (by omega), show nI k + 1 = nI (k + 1) from nI_1 k]
      have c13 : (cr_up (cr_up (cr_up rf 13 k 0) 15 k 0) 16 k 0) 13 = upd (rf 13) k 0 := by simp [cr_up]
      have c15 : (cr_up (cr_up (cr_up rf 13 k 0) 15 k 0) 16 k 0) 15 = upd (rf 15) k 0 := by simp [cr_up]
      have c16 : (cr_up (cr_up (cr_up rf 13 k 0) 15 k 0) 16 k 0) 16 = upd (rf 16) k 0 := by simp [cr_up]
      have cc : ∀ c, c ≠ 13 → c ≠ 15 → c ≠ 16 → (cr_up (cr_up (cr_up rf 13 k 0) 15 k 0) 16 k 0) c = rf c := fun c q1 q2 q3 => by rw [pu_up_cell _ _ _ q3, pu_up_cell _ _ _ q2, pu_up_cell _ _ _ q1]
      generalize cr_up (cr_up (cr_up rf 13 k 0) 15 k 0) 16 k 0 = rf1 at c13 c15 c16 cc ⊢
      obtain ⟨rf', i1, i2, i3, i4⟩ := ps_r24L lat ln x1 hT d (k + 1) rf1 (by rw [cc 0 (by decide) (by decide) (by decide)]; exact e0) (by omega) (by omega) (by omega) (fun q q1 q2 => by
        rw [c13, c15, c16]
        by_cases w : q = k
        · rw [w, ps_us_s, ps_us_s, ps_us_s]
          exact ⟨rfl, rfl, rfl⟩
        · rw [ps_us_n _ _ w, ps_us_n _ _ w, ps_us_n _ _ w]
          exact hz q q1 (by omega)) (fun j => by
        rw [c16]
        by_cases w : j = k
        · rw [w, ps_us_s]
          decide
        · rw [ps_us_n _ _ w]
          exact hh j)
      exact ⟨rf', i1, fun c q1 q2 q3 => (i2 c q1 q2 q3).trans (cc c q1 q2 q3), i3, i4⟩
theorem ps_clL {pl : cr_S} {T : Nat} (hT : T ≤ 10) (e0 : pl 0 0 = nI T) : ∀ (d k : Nat) (tr tb : cr_S), 1 ≤ k → k ≤ T + 1 → 11 < d + k → (∀ q u, 1 ≤ q → q < k → u ≤ 10 → tr (3 + q) u = 0) → ∃ tr', lo_Trial_clear_22 pl d tr tb (nI k) = (tr', tb) ∧ (∀ c, c ≤ 3 → tr' c = tr c) ∧ ∀ q u, 1 ≤ q → q ≤ T → u ≤ 10 → tr' (3 + q) u = 0
  | 0, k, tr, tb, _, a, b, _ => absurd b (by omega)
  | d + 1, k, tr, tb, h1, hk, hd, hz => by
    have kt := ps_nI_t (k := k) (by omega)
    have Tt := ps_nI_t (k := T) (by omega)
    rw [lo_Trial_clear_22, e0]
    by_cases e : k = T + 1
    · rw [if_pos (show nI T < nI k by rw [pu_lt]; omega)]
      exact ⟨tr, rfl, fun _ _ => rfl, fun q u q1 q2 q3 => hz q u q1 (by omega) q3⟩
    · rw [if_neg (show ¬ nI T < nI k by rw [pu_lt]; omega), ps_nI_c (k := k) (by omega), show nI k + 1 = nI (k + 1) from nI_1 k]
      obtain ⟨tr', i1, i2, i3⟩ := ps_clL hT e0 d (k + 1) (cr_fill tr (3 + k) 11 0) tb (by omega) (by omega) (by omega) (fun q u q1 q2 q3 => by
        unfold cr_fill
        by_cases w : q = k
        · rw [w, if_pos rfl]
          unfold cr_fl
          rw [if_pos (show u < 11 by omega)]
        · rw [if_neg (show ¬ 3 + q = 3 + k by omega)]
          exact hz q u q1 (by omega) q3)
      refine ⟨tr', i1, fun c hc => ?_, i3⟩
      rw [i2 c hc]
      unfold cr_fill
      rw [if_neg (show ¬ c = 3 + k by omega)]
theorem ps_cnt_no {f : Nat → Int32} {x : Int32} : ∀ n : Nat, (∀ j, 1 ≤ j → j ≤ n → f j ≠ x) → ps_cnt f x n = 0
  | 0, _ => rfl
  | n + 1, h => by
    rw [ps_cnt, ps_cnt_no n (fun j a b => h j a (by omega)), if_neg (h (n + 1) (by omega) (Nat.le_refl _))]
/-- the beginning of a trial -/
theorem ps_TQ0 {pl rf tr tb : cr_S} {ln : Nat → Int64} {T R : Nat} (hP : ps_Pl pl rf ln T R) (c1 : ∀ j, tb 1 j = 0) (c4 : ∀ j, tb 4 j = 0) (c5 : ∀ j, tb 5 j = 0) (c3 : ∀ j, j ≤ 10 → tb 3 j = 0) (cR : cr_RBoard tb) (t0 : tr 0 0 = 0) (t1 : ∀ j, j ≤ 10 → tr 1 j = 0) (t3 : ∀ q u, 1 ≤ q → q ≤ T → u ≤ 10 → tr (3 + q) u = 0) (r17 : ∀ i, i < 1089 → rf 17 i = 0) (rz : ∀ q, 1 ≤ q → q ≤ T → rf 13 q = 0 ∧ rf 15 q = 0 ∧ rf 16 q = 0) (rh : cr_rh rf 16 (-1) 8) : ps_TQ pl rf tr tb T R := by
  have a1 := hP.1.1
  have n01 : ¬ (0 : Int32) = 1 := by decide
  have no1 : ∀ t, tb 1 t = 1 → False := fun t q => by
    rw [c1 t] at q
    exact n01 q
  have no4 : ∀ a j, 1 ≤ a → a ≤ T → tb 4 j = nI a → False := fun a j q1 q2 q3 => by
    rw [c4 j] at q3
    exact ps_nz q1 (by omega) q3.symm
  refine ⟨⟨fun t => Or.inl (c1 t), fun t q => (no1 t q).elim, fun t u q => (no1 t q).elim, fun j => Or.inl (c4 j), fun a b j q1 q2 q3 => (no4 a j q1 q2 q3).elim, fun a b i j _ q1 q2 _ _ q3 => (no4 a i q1 q2 q3).elim⟩, fun t q1 q2 => ?_, fun t q1 q2 => ?_, fun t q1 q2 => ?_, fun k u q1 q2 q3 => ?_, ?_, c5, cR, rh⟩
  · rw [(rz t q1 q2).2.2, c3 t (by omega)]
    exact ⟨rfl, Or.inl ⟨rfl, fun j q => no4 t j q1 q2 q⟩⟩
  · refine ⟨0, by omega, ?_, ?_, Or.inl ⟨(rz t q1 q2).1, rfl⟩⟩
    · rw [t1 t (by omega)]
      rfl
    · rw [(rz t q1 q2).2.1]
      rfl
  · rw [(rz t q1 q2).1, c1 t]
    exact ⟨⟨fun q => absurd q n01, fun q => absurd q n01⟩, fun q => absurd q n01⟩
  · refine ⟨0, by omega, ?_, fun r hr => ?_, fun _ => rfl⟩
    · rw [t3 k u q1 q2 q3]
      rfl
    · rw [r17 _ (by omega), Nat.zero_testBit]
      rfl
  · unfold ps_TE
    rw [t0, ps_cnt_no T (fun j q1 q2 => by rw [(rz j q1 q2).1]; decide)]
    rfl
theorem ps_clear {pl tr tb : cr_S} {T : Nat} (hT : T ≤ 10) (e0 : pl 0 0 = nI T) (h : ps_TZ tb) : ∃ tr' tb', md_Trial_clear pl tr tb = (tr', tb') ∧ (∀ j, tb' 1 j = 0) ∧ (∀ j, tb' 4 j = 0) ∧ (∀ j, tb' 5 j = 0) ∧ (∀ j, j ≤ 10 → tb' 3 j = 0) ∧ cr_RBoard tb' ∧ tb' 0 0 = 0 ∧ tr' 0 0 = 0 ∧ (∀ j, j ≤ 10 → tr' 1 j = 0) ∧ ∀ q u, 1 ≤ q → q ≤ T → u ≤ 10 → tr' (3 + q) u = 0 := by
  obtain ⟨hR, z1, z4, z5⟩ := h
  have z : 0 ≤ (0 : Int32).toInt ∧ (0 : Int32).toInt ≤ 8 := by decide
  obtain ⟨tr', i1, i2, i3⟩ := ps_clL hT e0 11 1 (cr_fill (cr_up tr 0 0 0) 1 11 0) (md_Board_clear pl tb) (by omega) (by omega) (by omega) (fun q u q1 q2 => absurd q2 (by omega))
  refine ⟨tr', md_Board_clear pl tb, i1, fun j => ?_, fun j => ?_, fun j => ?_, fun j hj => ?_, ⟨?_, ?_⟩, ?_, ?_, fun j hj => ?_, i3⟩
  · by_cases w : j < 11
    · simp [md_Board_clear, cr_fill, cr_fl, cr_up, w]
    · simp [md_Board_clear, cr_fill, cr_fl, cr_up, w, z1 j (by omega)]
  · by_cases w : j < 9
    · simp [md_Board_clear, cr_fill, cr_fl, cr_up, w]
    · simp [md_Board_clear, cr_fill, cr_fl, cr_up, w, z4 j (by omega)]
  · by_cases w : j < 9
    · simp [md_Board_clear, cr_fill, cr_fl, cr_up, w]
    · simp [md_Board_clear, cr_fill, cr_fl, cr_up, w, z5 j (by omega)]
  · have w : j < 11 := by omega
    simp [md_Board_clear, cr_fill, cr_fl, cr_up, w]
  · exact cr_rg_fill (cr_rg_fill (cr_rg_fill (cr_rg_up (cr_rg_fill (cr_rg_fill hR.1 (fun _ => z)) (fun _ => z)) (fun _ => z)) (fun _ => z)) (fun _ => z)) (fun _ => z)
  · exact cr_rg_fill (cr_rg_fill (cr_rg_fill (cr_rg_up (cr_rg_fill (cr_rg_fill hR.2 (fun _ => z)) (fun _ => z)) (fun _ => z)) (fun _ => z)) (fun _ => z)) (fun _ => z)
  · simp [md_Board_clear, cr_fill, cr_fl, cr_up, upd]
  · rw [i2 0 (by omega)]
    simp [cr_fill, cr_up, upd]
  · rw [i2 1 (by omega)]
    have w : j < 11 := by omega
    simp [cr_fill, cr_fl, w]
end
section
/-! the trial: phases, and the whole -/
theorem ps_sh (x a : Int64) (b : UInt64) (s : Nat) (hs : s ≤ 60) (ha : (a.toBitVec.smod 64#64).toNat = s) (hb : (b.toBitVec % 64#64).toNat = s) : (x >>> a) &&& (7 : Int64) = (x.toUInt64 >>> b).toInt64 &&& (7 : Int64) := by
  apply Int64.toBitVec_inj.mp
  show (x >>> a).toBitVec &&& 7#64 = (x.toUInt64 >>> b).toBitVec &&& 7#64
  have l : (x >>> a).toBitVec = x.toBitVec.sshiftRight s := by
    rw [← ha]
    exact Int64.toBitVec_shiftRight x a
  have r : (x.toUInt64 >>> b).toBitVec = x.toBitVec >>> s := by
    rw [← hb]
    exact UInt64.toBitVec_shiftRight x.toUInt64 b
  rw [l, r]
  apply BitVec.eq_of_getLsbD_eq
  intro i hi
  rw [BitVec.getLsbD_and, BitVec.getLsbD_and]
  by_cases w : i < 3
  · have e : (x.toBitVec.sshiftRight s).getLsbD i = (x.toBitVec >>> s).getLsbD i := by
      rw [BitVec.getLsbD_sshiftRight, BitVec.getLsbD_ushiftRight]
      have h1 : ¬ 64 ≤ i := by omega
      have h2 : s + i < 64 := by omega
      simp [h1, h2]
    rw [e]
  · have e : (7#64).getLsbD i = false := by
      have : ∀ i, i < 64 → ¬ i < 3 → (7#64).getLsbD i = false := by decide
      exact this i hi w
    rw [e, Bool.and_false, Bool.and_false]
theorem ps_phE (x1 : Int64) (q : Nat) (h1 : 1 ≤ q) (h2 : q ≤ 10) : (x1 >>> (((3 : Int32) * (nI q - (1 : Int32))).toInt64 &&& 63)) &&& (7 : Int64) = ps_ph x1 q := by
  unfold ps_ph
  have A : ∀ q, q < 11 → 1 ≤ q → (((((3 : Int32) * (nI q - (1 : Int32))).toInt64 &&& 63)).toBitVec.smod 64#64).toNat = 3 * (q - 1) := by decide +kernel
  have B : ∀ q, q < 11 → 1 ≤ q → ((((3 : Int32) * (nI q - (1 : Int32))).toInt64.toUInt64 &&& Int64.toUInt64 63).toBitVec % 64#64).toNat = 3 * (q - 1) := by decide +kernel
  exact ps_sh x1 _ _ (3 * (q - 1)) (by omega) (A q (by omega) h1) (B q (by omega) h1)
theorem ps_and7 (x : Int64) : 0 ≤ (x &&& (7 : Int64)).toInt ∧ (x &&& (7 : Int64)).toInt ≤ 7 := by
  have h : (x &&& (7 : Int64)).toBitVec.toNat ≤ 7 := by
    show (x.toBitVec &&& 7#64).toNat ≤ 7
    rw [BitVec.toNat_and]
    exact Nat.and_le_right
  have e : (x &&& (7 : Int64)).toInt = (x &&& (7 : Int64)).toBitVec.toNat := by
    show (x &&& (7 : Int64)).toBitVec.toInt = _
    rw [BitVec.toInt_eq_toNat_of_lt]
    omega
  rw [e]
  omega
theorem ps_phr (x1 : Int64) (q : Nat) : 0 ≤ (ps_ph x1 q).toInt ∧ (ps_ph x1 q).toInt ≤ 7 := ps_and7 _
theorem ps_TZ_of {pl rf tr tb : cr_S} {T R : Nat} (hT : T ≤ 10) (hR : R ≤ 8) (h : ps_TQ pl rf tr tb T R) : ps_TZ tb := by
  refine ⟨h.2.2.2.2.2.2.2.1, fun j hj => ?_, fun j hj => ?_, fun j _ => h.2.2.2.2.2.2.1 j⟩
  · rcases h.1.1 j with q | q
    · exact q
    · omega
  · rcases h.1.2.2.2.1 j with q | ⟨t, q1, q2, q3, q4, q5, q6, q7⟩
    · exact q
    · omega
theorem ps_plain0 {pl tr tb rf : cr_S} {ln : Nat → Int64} {T R : Nat} (hP : ps_Pl pl rf ln T R) (hz : ps_TZ tb) (hh : cr_rh rf 16 (-1) 8) (lat x1 : Int64) : ∃ a rf' tr' tb', md_Trial_mostDelays pl tr tb x1 = (a, tr', tb') ∧ md_Ref_plain rf lat ln x1 = (a, rf') ∧ ps_TZ tb' ∧ cr_rh rf' 16 (-1) 8 ∧ ps_TF rf rf' := by
  obtain ⟨a1, a2, a3, a4, -⟩ := hP.1
  obtain ⟨tr0, tb0, k1, k2, k3, k4, k5, k6, k7, k8, k9, k10⟩ := ps_clear (tr := tr) a1 a3 hz
  obtain ⟨rf1, m1, m2, m3⟩ := ps_r17L lat ln x1 1090 0 rf (by omega) (by omega) (fun i hi => absurd hi (by omega))
  obtain ⟨rf0, n1, n2, n3, n4⟩ := ps_r24L lat ln x1 a1 11 1 rf1 (by rw [m2 0 (by decide)]; exact a4) (by omega) (by omega) (by omega) (fun q q1 q2 => absurd q2 (by omega)) (ps_rh_F hh (m2 16 (by decide)))
  have tf : ps_TF rf rf0 := fun c c1 c2 c3 c4 c5 => (n2 c c1 c3 c4).trans (m2 c c5)
  have hP0 := ps_Pl_TF hP tf
  have Q := ps_TQ0 hP0 k2 k3 k4 k5 k6 k8 k9 k10 (fun i hi => by rw [n2 17 (by decide) (by decide) (by decide)]; exact m3 i hi) n3 n4
  obtain ⟨a, rf', tr', tb', i1, i2, i3, i4⟩ := ps_main lat x1 (fun q q1 q2 => ps_phE x1 q q1 q2) (fun q _ _ => ps_phr x1 q) 339 0 rf0 tr0 tb0 0 hP0 Q (fun q q1 q2 => ⟨fun w => absurd w (by omega), fun _ => by
    rw [(n3 q q1 q2).1]
    have := ps_phr x1 q
    exact ⟨fun _ => this.1, fun _ => rfl⟩⟩) k7 (by decide) (by decide) (by omega) (by omega) (by
    have := ps_sum_nn Q.2.2.1 T (Nat.le_refl _)
    omega)
  refine ⟨a, rf', tr', tb', ?_, ?_, ps_TZ_of a1 a2 i3, i3.2.2.2.2.2.2.2.2, ps_TF_t tf i4⟩
  · unfold md_Trial_mostDelays
    rw [k1]
    exact i1
  · unfold md_Ref_plain
    exact (m1.trans n1).trans i2
theorem ps_plain (N : Nat) (mn : cr_S) (lt : Int64) (pl bd lk tr tb rf : cr_S) (lat : Int64) (ln : Nat → Int64) (y0 : Int64) (hN : N < 512) (h : ps_Sim N mn lt pl bd lk tr tb rf lat ln) : (md_Main_plain mn lt pl bd lk tr tb y0).1 = (md_Ref_plain rf lat ln y0).1 ∧ ps_Sim (N + 1) mn lt pl bd lk (md_Main_plain mn lt pl bd lk tr tb y0).2.1 (md_Main_plain mn lt pl bd lk tr tb y0).2.2 (md_Ref_plain rf lat ln y0).2 lat ln := by
  obtain ⟨T, R, hP, hW, hL, hm, hl, h0, hb, hh⟩ := h
  obtain ⟨a, rf', tr', tb', e1, e2, e3, e4, e5⟩ := ps_plain0 (tr := tr) hP hb hh lat y0
  unfold md_Main_plain
  rw [e1, e2]
  have f := fun k h1 h2 h3 h4 h5 => e5 k h1 h2 h3 h4 h5
  have S : ps_Sim (N + 1) mn lt pl bd lk tr' tb' rf' lat ln := by
    refine ⟨T, R, ps_Pl_TF hP e5, ps_W_cells (ps_W_mono hW) (f 3 (by decide) (by decide) (by decide) (by decide) (by decide)) (f 4 (by decide) (by decide) (by decide) (by decide) (by decide)) (by rw [f 0 (by decide) (by decide) (by decide) (by decide) (by decide)]) (f 7 (by decide) (by decide) (by decide) (by decide) (by decide)) (f 8 (by decide) (by decide) (by decide) (by decide) (by decide)), ps_L_F (ps_L_mono hL) (f 9 (by decide) (by decide) (by decide) (by decide) (by decide)) (f 10 (by decide) (by decide) (by decide) (by decide) (by decide)) (f 11 (by decide) (by decide) (by decide) (by decide) (by decide)) (f 12 (by decide) (by decide) (by decide) (by decide) (by decide)) (by rw [f 0 (by decide) (by decide) (by decide) (by decide) (by decide)]), ?_, hl, h0, e3, e4⟩
    rw [f 5 (by decide) (by decide) (by decide) (by decide) (by decide)]
    exact hm
  exact ⟨rfl, S⟩
end
section
/-! the relation: ranges, the other calls, the beginning -/
theorem ps_ranges (N : Nat) (mn : cr_S) (lt : Int64) (pl bd lk tr tb rf : cr_S) (lat : Int64) (ln : Nat → Int64) (h : ps_Sim N mn lt pl bd lk tr tb rf lat ln) : cr_RPlan pl ∧ cr_RBoard bd ∧ cr_RLocks lk ∧ cr_RBoard tb ∧ cr_RRef rf := by
  obtain ⟨T, R, hP, hW, hL, hm, hl, h0, hb, hh⟩ := h
  obtain ⟨⟨a1, a2, a3, a4, a5, a6, a7, a8, a9⟩, -⟩ := id hP
  obtain ⟨l1, l2, l3, l4, l5⟩ := hL.1
  have Tt := ps_nI_t (k := T) (by omega)
  have Rt := ps_nI_t (k := R) (by omega)
  have b : ∀ (f g : cr_S) (i j : Nat) (m : Int), f i = g j → cr_rg f i m → cr_rg g j m := fun f g i j m e q k => by
    rw [← e]
    exact q k
  refine ⟨⟨?_, ?_, a9⟩, hW.2.2.2.2.2.2.2.2, ⟨l3, l4⟩, hb.1, ?_, ?_, b pl rf 2 2 3 a8 a9, b lk rf 1 9 3 l1 l3, b lk rf 2 11 8 l2 l4, hh⟩
  · unfold cr_rf
    rw [a3]
    omega
  · unfold cr_rf
    rw [a5]
    omega
  · unfold cr_rf
    rw [a4]
    omega
  · unfold cr_rf
    rw [a6]
    omega
theorem ps_lockS (N : Nat) (mn : cr_S) (lt : Int64) (pl bd lk tr tb rf : cr_S) (lat : Int64) (ln : Nat → Int64) (y0 y1 : Int32) (hN : N < 512) (h : ps_Sim N mn lt pl bd lk tr tb rf lat ln) : (md_Main_lock mn lt pl bd lk tr tb y0 y1).1 = (md_Ref_lock rf lat ln y0 y1).1 ∧ ps_Sim (N + 1) mn lt pl bd (md_Main_lock mn lt pl bd lk tr tb y0 y1).2 tr tb (md_Ref_lock rf lat ln y0 y1).2 lat ln := by
  obtain ⟨T, R, hP, hW, hL, hm, hl, h0, hb, hh⟩ := h
  obtain ⟨e1, e2, e3⟩ := ps_lock hL hN mn lt pl bd tr tb lat ln y0 y1
  have f := e3.1
  refine ⟨e1, T, R, ps_Pl_F hP (e3.2 0 (by decide)) (e3.2 2 (by decide)) (f 1 (by decide) (by decide) (by decide) (by decide) (by decide)) (f 2 (by decide) (by decide) (by decide) (by decide) (by decide)), ps_W_cells (ps_W_mono hW) (f 3 (by decide) (by decide) (by decide) (by decide) (by decide)) (f 4 (by decide) (by decide) (by decide) (by decide) (by decide)) (e3.2 1 (by decide)) (f 7 (by decide) (by decide) (by decide) (by decide) (by decide)) (f 8 (by decide) (by decide) (by decide) (by decide) (by decide)), e2, ?_, hl, h0, hb, ps_rh_F hh (f 16 (by decide) (by decide) (by decide) (by decide) (by decide))⟩
  rw [f 5 (by decide) (by decide) (by decide) (by decide) (by decide)]
  exact hm
theorem ps_init : ps_Sim 0 (fun _ _ => 0) 0 (fun _ _ => 0) (fun _ _ => 0) (fun _ _ => 0) (fun _ _ => 0) (fun _ _ => 0) (fun _ _ => 0) 0 (fun _ => 0) := by
  have z3 : 0 ≤ (0 : Int32).toInt ∧ (0 : Int32).toInt ≤ 3 := by decide
  have z8 : 0 ≤ (0 : Int32).toInt ∧ (0 : Int32).toInt ≤ 8 := by decide
  have zi : (0 : Int32).toInt = 0 := by decide
  have z64 : (0 : Int64) = (0 : Int32).toInt64 := by decide
  have zm : -1 ≤ (0 : Int32).toInt ∧ (0 : Int32).toInt ≤ 8 := by decide
  have zk : (0 : Int32).toInt ≤ 1000 := by decide
  have n01 : ¬ (0 : Int32) = 1 := by decide
  have nu : ∀ t r, ¬ ps_us (fun _ _ => 0) t r := fun t r q => by
    have q' : 0 < (0 : Int32).toInt := q
    omega
  refine ⟨0, 0, ⟨⟨by omega, by omega, rfl, rfl, rfl, rfl, rfl, rfl, fun _ => z3⟩, fun t r _ _ => ⟨z64, z8.1, zk⟩, fun t t1 t2 => absurd t2 (by omega), fun t r _ _ q => absurd q (nu t r), fun r _ => ⟨z8.1, fun t t1 t2 => absurd t2 (by omega), Or.inl zi⟩, fun r _ => Or.inl ⟨rfl, fun t _ => nu t r⟩⟩, ⟨rfl, rfl, rfl, rfl, by decide, by decide, ⟨fun t => Or.inl rfl, fun t q => absurd q n01, fun t u q => absurd q n01, fun j => Or.inl rfl, fun a b j q1 q2 => absurd q2 (by omega), fun a b i j _ q1 q2 => absurd q2 (by omega)⟩, ⟨fun j q => absurd rfl q, fun t t1 t2 => Or.inl ⟨rfl, fun j q => ps_nz t1 (by omega) q.symm⟩, fun r t t1 t2 q => absurd q.symm (ps_nz t1 (by omega))⟩, fun _ => z8, fun _ => z8⟩, ?_, rfl, rfl, by decide, ⟨⟨fun _ => z8, fun _ => z8⟩, fun _ _ => rfl, fun _ _ => rfl, fun _ _ => rfl⟩, fun _ => zm⟩
  refine ⟨⟨rfl, rfl, fun _ => z3, fun _ => z8, rfl⟩, fun n m _ _ _ _ q => absurd rfl q, fun c d _ _ _ _ q => absurd rfl q, ⟨by decide, by decide, by decide, by decide⟩, fun c _ _ q => absurd rfl q, fun n _ _ q => absurd rfl q, fun c n _ _ _ _ q => absurd rfl q⟩
end
