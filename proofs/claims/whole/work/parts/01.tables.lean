-- ===== PART A: goes FIRST, ahead of the names: the tables' words, and 'selects' of the private methods out of them =====
/-- a private method of a class that the tables say can be made, by its rows of tables_1 -/
def lw_okq (q : MethodName × Nat) : Prop := (q.1.cls ≠ "java/lang/invoke/MethodHandle" ∧ q.1.cls ≠ "java/lang/invoke/VarHandle") ∧ Cond.instantiable q.1.cls q.2 ∈ tables_1 ∧ Cond.privateMethod q.1 ∈ tables_1 ∧ Cond.instanceMethod q.1 ∈ tables_1
theorem lw_p0 : lw_okq (⟨"CeilingRows", "perform", "(III)I"⟩, 6) := ⟨⟨by decide +kernel, by decide +kernel⟩, List.mem_of_getElem? (i := 11) (by decide +kernel), List.mem_of_getElem? (i := 219) (by decide +kernel), List.mem_of_getElem? (i := 220) (by decide +kernel)⟩
theorem lw_p1 : lw_okq (⟨"CeilingRows", "startTask", "(I)I"⟩, 6) := ⟨⟨by decide +kernel, by decide +kernel⟩, List.mem_of_getElem? (i := 11) (by decide +kernel), List.mem_of_getElem? (i := 223) (by decide +kernel), List.mem_of_getElem? (i := 224) (by decide +kernel)⟩
theorem lw_p2 : lw_okq (⟨"CeilingRows", "runs", "(I)Z"⟩, 6) := ⟨⟨by decide +kernel, by decide +kernel⟩, List.mem_of_getElem? (i := 11) (by decide +kernel), List.mem_of_getElem? (i := 231) (by decide +kernel), List.mem_of_getElem? (i := 232) (by decide +kernel)⟩
theorem lw_p3 : lw_okq (⟨"CeilingRows", "sendEvent", "(I)I"⟩, 6) := ⟨⟨by decide +kernel, by decide +kernel⟩, List.mem_of_getElem? (i := 11) (by decide +kernel), List.mem_of_getElem? (i := 248) (by decide +kernel), List.mem_of_getElem? (i := 249) (by decide +kernel)⟩
theorem lw_p4 : lw_okq (⟨"CeilingRows", "takeResource", "(II)I"⟩, 6) := ⟨⟨by decide +kernel, by decide +kernel⟩, List.mem_of_getElem? (i := 11) (by decide +kernel), List.mem_of_getElem? (i := 252) (by decide +kernel), List.mem_of_getElem? (i := 253) (by decide +kernel)⟩
theorem lw_p5 : lw_okq (⟨"CeilingRows", "giveBackResource", "(II)I"⟩, 6) := ⟨⟨by decide +kernel, by decide +kernel⟩, List.mem_of_getElem? (i := 11) (by decide +kernel), List.mem_of_getElem? (i := 260) (by decide +kernel), List.mem_of_getElem? (i := 261) (by decide +kernel)⟩
theorem lw_p6 : lw_okq (⟨"CeilingRows", "endTask", "(I)I"⟩, 6) := ⟨⟨by decide +kernel, by decide +kernel⟩, List.mem_of_getElem? (i := 11) (by decide +kernel), List.mem_of_getElem? (i := 268) (by decide +kernel), List.mem_of_getElem? (i := 269) (by decide +kernel)⟩
theorem lw_p7 : lw_okq (⟨"CeilingRows", "waitForEvent", "(I)I"⟩, 6) := ⟨⟨by decide +kernel, by decide +kernel⟩, List.mem_of_getElem? (i := 11) (by decide +kernel), List.mem_of_getElem? (i := 282) (by decide +kernel), List.mem_of_getElem? (i := 283) (by decide +kernel)⟩
theorem lw_p8 : lw_okq (⟨"CeilingRows$Locks", "lastTakenBy", "(I)I"⟩, 4) := ⟨⟨by decide +kernel, by decide +kernel⟩, List.mem_of_getElem? (i := 95) (by decide +kernel), List.mem_of_getElem? (i := 317) (by decide +kernel), List.mem_of_getElem? (i := 318) (by decide +kernel)⟩
theorem lw_p9 : lw_okq (⟨"CeilingRows$Locks", "longestSpinnerFor", "(I)I"⟩, 4) := ⟨⟨by decide +kernel, by decide +kernel⟩, List.mem_of_getElem? (i := 95) (by decide +kernel), List.mem_of_getElem? (i := 325) (by decide +kernel), List.mem_of_getElem? (i := 326) (by decide +kernel)⟩
theorem lw_p10 : lw_okq (⟨"CeilingRows$Trial", "clear", "()V"⟩, 5) := ⟨⟨by decide +kernel, by decide +kernel⟩, List.mem_of_getElem? (i := 114) (by decide +kernel), List.mem_of_getElem? (i := 350) (by decide +kernel), List.mem_of_getElem? (i := 351) (by decide +kernel)⟩
theorem lw_p11 : lw_okq (⟨"CeilingRows$Trial", "startThoseDue", "(JI)V"⟩, 5) := ⟨⟨by decide +kernel, by decide +kernel⟩, List.mem_of_getElem? (i := 114) (by decide +kernel), List.mem_of_getElem? (i := 362) (by decide +kernel), List.mem_of_getElem? (i := 363) (by decide +kernel)⟩
theorem lw_p12 : lw_okq (⟨"CeilingRows$Trial", "haveTick", "(I)V"⟩, 5) := ⟨⟨by decide +kernel, by decide +kernel⟩, List.mem_of_getElem? (i := 114) (by decide +kernel), List.mem_of_getElem? (i := 369) (by decide +kernel), List.mem_of_getElem? (i := 370) (by decide +kernel)⟩
theorem lw_p13 : lw_okq (⟨"CeilingRows$Trial", "resourceAt", "(II)I"⟩, 5) := ⟨⟨by decide +kernel, by decide +kernel⟩, List.mem_of_getElem? (i := 114) (by decide +kernel), List.mem_of_getElem? (i := 373) (by decide +kernel), List.mem_of_getElem? (i := 374) (by decide +kernel)⟩
theorem lw_p14 : lw_okq (⟨"CeilingRows$Trial", "ticksWith", "(II)I"⟩, 5) := ⟨⟨by decide +kernel, by decide +kernel⟩, List.mem_of_getElem? (i := 114) (by decide +kernel), List.mem_of_getElem? (i := 378) (by decide +kernel), List.mem_of_getElem? (i := 379) (by decide +kernel)⟩
theorem lw_p15 : lw_okq (⟨"CeilingRows$Trial", "noteDelays", "(II)V"⟩, 5) := ⟨⟨by decide +kernel, by decide +kernel⟩, List.mem_of_getElem? (i := 114) (by decide +kernel), List.mem_of_getElem? (i := 386) (by decide +kernel), List.mem_of_getElem? (i := 387) (by decide +kernel)⟩
def lw_privs_1 : List (MethodName × Nat) := [(⟨"CeilingRows", "perform", "(III)I"⟩, 6), (⟨"CeilingRows", "startTask", "(I)I"⟩, 6), (⟨"CeilingRows", "runs", "(I)Z"⟩, 6), (⟨"CeilingRows", "sendEvent", "(I)I"⟩, 6), (⟨"CeilingRows", "takeResource", "(II)I"⟩, 6), (⟨"CeilingRows", "giveBackResource", "(II)I"⟩, 6), (⟨"CeilingRows", "endTask", "(I)I"⟩, 6), (⟨"CeilingRows", "waitForEvent", "(I)I"⟩, 6), (⟨"CeilingRows$Locks", "lastTakenBy", "(I)I"⟩, 4), (⟨"CeilingRows$Locks", "longestSpinnerFor", "(I)I"⟩, 4), (⟨"CeilingRows$Trial", "clear", "()V"⟩, 5), (⟨"CeilingRows$Trial", "startThoseDue", "(JI)V"⟩, 5), (⟨"CeilingRows$Trial", "haveTick", "(I)V"⟩, 5), (⟨"CeilingRows$Trial", "resourceAt", "(II)I"⟩, 5), (⟨"CeilingRows$Trial", "ticksWith", "(II)I"⟩, 5), (⟨"CeilingRows$Trial", "noteDelays", "(II)V"⟩, 5)]
theorem lw_r1 : ∀ q ∈ lw_privs_1, lw_okq q := List.forall_mem_cons.mpr ⟨lw_p0, List.forall_mem_cons.mpr ⟨lw_p1, List.forall_mem_cons.mpr ⟨lw_p2, List.forall_mem_cons.mpr ⟨lw_p3, List.forall_mem_cons.mpr ⟨lw_p4, List.forall_mem_cons.mpr ⟨lw_p5, List.forall_mem_cons.mpr ⟨lw_p6, List.forall_mem_cons.mpr ⟨lw_p7, List.forall_mem_cons.mpr ⟨lw_p8, List.forall_mem_cons.mpr ⟨lw_p9, List.forall_mem_cons.mpr ⟨lw_p10, List.forall_mem_cons.mpr ⟨lw_p11, List.forall_mem_cons.mpr ⟨lw_p12, List.forall_mem_cons.mpr ⟨lw_p13, List.forall_mem_cons.mpr ⟨lw_p14, List.forall_mem_cons.mpr ⟨lw_p15, fun _ h => absurd h List.not_mem_nil⟩⟩⟩⟩⟩⟩⟩⟩⟩⟩⟩⟩⟩⟩⟩⟩
theorem lw_p16 : lw_okq (⟨"CeilingRows$Trial", "ticksOf", "(I)I"⟩, 5) := ⟨⟨by decide +kernel, by decide +kernel⟩, List.mem_of_getElem? (i := 114) (by decide +kernel), List.mem_of_getElem? (i := 392) (by decide +kernel), List.mem_of_getElem? (i := 393) (by decide +kernel)⟩
theorem lw_p17 : lw_okq (⟨"CeilingRows$Trial", "countDelays", "(I)I"⟩, 5) := ⟨⟨by decide +kernel, by decide +kernel⟩, List.mem_of_getElem? (i := 114) (by decide +kernel), List.mem_of_getElem? (i := 397) (by decide +kernel), List.mem_of_getElem? (i := 398) (by decide +kernel)⟩
theorem lw_p18 : lw_okq (⟨"CeilingRowsModel", "isTask", "(I)Z"⟩, 22) := ⟨⟨by decide +kernel, by decide +kernel⟩, List.mem_of_getElem? (i := 408) (by decide +kernel), List.mem_of_getElem? (i := 494) (by decide +kernel), List.mem_of_getElem? (i := 495) (by decide +kernel)⟩
theorem lw_p19 : lw_okq (⟨"CeilingRowsModel", "isResource", "(I)Z"⟩, 22) := ⟨⟨by decide +kernel, by decide +kernel⟩, List.mem_of_getElem? (i := 408) (by decide +kernel), List.mem_of_getElem? (i := 498) (by decide +kernel), List.mem_of_getElem? (i := 499) (by decide +kernel)⟩
theorem lw_p20 : lw_okq (⟨"CeilingRowsModel", "ceilingOf", "(I)I"⟩, 22) := ⟨⟨by decide +kernel, by decide +kernel⟩, List.mem_of_getElem? (i := 408) (by decide +kernel), List.mem_of_getElem? (i := 507) (by decide +kernel), List.mem_of_getElem? (i := 508) (by decide +kernel)⟩
theorem lw_p21 : lw_okq (⟨"CeilingRowsModel", "acts", "(III)I"⟩, 22) := ⟨⟨by decide +kernel, by decide +kernel⟩, List.mem_of_getElem? (i := 408) (by decide +kernel), List.mem_of_getElem? (i := 516) (by decide +kernel), List.mem_of_getElem? (i := 517) (by decide +kernel)⟩
theorem lw_p22 : lw_okq (⟨"CeilingRowsModel", "ready", "(I)V"⟩, 22) := ⟨⟨by decide +kernel, by decide +kernel⟩, List.mem_of_getElem? (i := 408) (by decide +kernel), List.mem_of_getElem? (i := 520) (by decide +kernel), List.mem_of_getElem? (i := 521) (by decide +kernel)⟩
theorem lw_p23 : lw_okq (⟨"CeilingRowsModel", "runs", "(I)Z"⟩, 22) := ⟨⟨by decide +kernel, by decide +kernel⟩, List.mem_of_getElem? (i := 408) (by decide +kernel), List.mem_of_getElem? (i := 524) (by decide +kernel), List.mem_of_getElem? (i := 525) (by decide +kernel)⟩
theorem lw_p24 : lw_okq (⟨"CeilingRowsModel", "running", "(I)I"⟩, 22) := ⟨⟨by decide +kernel, by decide +kernel⟩, List.mem_of_getElem? (i := 408) (by decide +kernel), List.mem_of_getElem? (i := 528) (by decide +kernel), List.mem_of_getElem? (i := 529) (by decide +kernel)⟩
theorem lw_p25 : lw_okq (⟨"CeilingRowsModel", "rankNow", "(I)I"⟩, 22) := ⟨⟨by decide +kernel, by decide +kernel⟩, List.mem_of_getElem? (i := 408) (by decide +kernel), List.mem_of_getElem? (i := 532) (by decide +kernel), List.mem_of_getElem? (i := 533) (by decide +kernel)⟩
theorem lw_p26 : lw_okq (⟨"CeilingRowsModel", "last", "(I)I"⟩, 22) := ⟨⟨by decide +kernel, by decide +kernel⟩, List.mem_of_getElem? (i := 408) (by decide +kernel), List.mem_of_getElem? (i := 536) (by decide +kernel), List.mem_of_getElem? (i := 537) (by decide +kernel)⟩
theorem lw_p27 : lw_okq (⟨"CeilingRowsModel", "mayKeep", "(III)Z"⟩, 22) := ⟨⟨by decide +kernel, by decide +kernel⟩, List.mem_of_getElem? (i := 408) (by decide +kernel), List.mem_of_getElem? (i := 553) (by decide +kernel), List.mem_of_getElem? (i := 554) (by decide +kernel)⟩
theorem lw_p28 : lw_okq (⟨"CeilingRowsModel", "have", "(II)V"⟩, 22) := ⟨⟨by decide +kernel, by decide +kernel⟩, List.mem_of_getElem? (i := 408) (by decide +kernel), List.mem_of_getElem? (i := 565) (by decide +kernel), List.mem_of_getElem? (i := 566) (by decide +kernel)⟩
theorem lw_p29 : lw_okq (⟨"CeilingRowsModel", "lastLock", "(I)I"⟩, 22) := ⟨⟨by decide +kernel, by decide +kernel⟩, List.mem_of_getElem? (i := 408) (by decide +kernel), List.mem_of_getElem? (i := 569) (by decide +kernel), List.mem_of_getElem? (i := 570) (by decide +kernel)⟩
theorem lw_p30 : lw_okq (⟨"CeilingRowsModel", "trialRuns", "(I)I"⟩, 22) := ⟨⟨by decide +kernel, by decide +kernel⟩, List.mem_of_getElem? (i := 408) (by decide +kernel), List.mem_of_getElem? (i := 582) (by decide +kernel), List.mem_of_getElem? (i := 583) (by decide +kernel)⟩
theorem lw_p31 : lw_okq (⟨"CeilingRowsModel", "trialRank", "(I)I"⟩, 22) := ⟨⟨by decide +kernel, by decide +kernel⟩, List.mem_of_getElem? (i := 408) (by decide +kernel), List.mem_of_getElem? (i := 586) (by decide +kernel), List.mem_of_getElem? (i := 587) (by decide +kernel)⟩
def lw_privs_2 : List (MethodName × Nat) := [(⟨"CeilingRows$Trial", "ticksOf", "(I)I"⟩, 5), (⟨"CeilingRows$Trial", "countDelays", "(I)I"⟩, 5), (⟨"CeilingRowsModel", "isTask", "(I)Z"⟩, 22), (⟨"CeilingRowsModel", "isResource", "(I)Z"⟩, 22), (⟨"CeilingRowsModel", "ceilingOf", "(I)I"⟩, 22), (⟨"CeilingRowsModel", "acts", "(III)I"⟩, 22), (⟨"CeilingRowsModel", "ready", "(I)V"⟩, 22), (⟨"CeilingRowsModel", "runs", "(I)Z"⟩, 22), (⟨"CeilingRowsModel", "running", "(I)I"⟩, 22), (⟨"CeilingRowsModel", "rankNow", "(I)I"⟩, 22), (⟨"CeilingRowsModel", "last", "(I)I"⟩, 22), (⟨"CeilingRowsModel", "mayKeep", "(III)Z"⟩, 22), (⟨"CeilingRowsModel", "have", "(II)V"⟩, 22), (⟨"CeilingRowsModel", "lastLock", "(I)I"⟩, 22), (⟨"CeilingRowsModel", "trialRuns", "(I)I"⟩, 22), (⟨"CeilingRowsModel", "trialRank", "(I)I"⟩, 22)]
theorem lw_r2 : ∀ q ∈ lw_privs_2, lw_okq q := List.forall_mem_cons.mpr ⟨lw_p16, List.forall_mem_cons.mpr ⟨lw_p17, List.forall_mem_cons.mpr ⟨lw_p18, List.forall_mem_cons.mpr ⟨lw_p19, List.forall_mem_cons.mpr ⟨lw_p20, List.forall_mem_cons.mpr ⟨lw_p21, List.forall_mem_cons.mpr ⟨lw_p22, List.forall_mem_cons.mpr ⟨lw_p23, List.forall_mem_cons.mpr ⟨lw_p24, List.forall_mem_cons.mpr ⟨lw_p25, List.forall_mem_cons.mpr ⟨lw_p26, List.forall_mem_cons.mpr ⟨lw_p27, List.forall_mem_cons.mpr ⟨lw_p28, List.forall_mem_cons.mpr ⟨lw_p29, List.forall_mem_cons.mpr ⟨lw_p30, List.forall_mem_cons.mpr ⟨lw_p31, fun _ h => absurd h List.not_mem_nil⟩⟩⟩⟩⟩⟩⟩⟩⟩⟩⟩⟩⟩⟩⟩⟩
theorem lw_p32 : lw_okq (⟨"CeilingRowsModel", "tickOf", "(II)I"⟩, 22) := ⟨⟨by decide +kernel, by decide +kernel⟩, List.mem_of_getElem? (i := 408) (by decide +kernel), List.mem_of_getElem? (i := 590) (by decide +kernel), List.mem_of_getElem? (i := 591) (by decide +kernel)⟩
def lw_privs_3 : List (MethodName × Nat) := [(⟨"CeilingRowsModel", "tickOf", "(II)I"⟩, 22)]
theorem lw_r3 : ∀ q ∈ lw_privs_3, lw_okq q := List.forall_mem_cons.mpr ⟨lw_p32, fun _ h => absurd h List.not_mem_nil⟩
def lw_privs : List (MethodName × Nat) := lw_privs_1 ++ (lw_privs_2 ++ (lw_privs_3))
def lw_tbl : List Cond := k2_sels lw_privs ++ tables_1
theorem lw_privs_ok : ∀ q ∈ lw_privs, lw_okq q := by
  show ∀ q ∈ lw_privs_1 ++ (lw_privs_2 ++ (lw_privs_3)), lw_okq q
  exact List.forall_mem_append.mpr ⟨lw_r1, List.forall_mem_append.mpr ⟨lw_r2, lw_r3⟩⟩
/-! words by their places among the tables' words; what a call needs of them -/
def ng_tbl : List Cond := lw_tbl.filter goodWord
theorem ng_sub : ∀ w ∈ ng_tbl, w ∈ lw_tbl := fun _ h => (List.mem_filter.mp h).1
theorem ng_t {w : Cond} (i : Nat) (h : tables_1[i]? = some w) (hg : goodWord w = true) : w ∈ ng_tbl := List.mem_filter.mpr ⟨List.mem_append_right _ (List.mem_of_getElem? h), hg⟩
theorem ng_p {w : Cond} (i : Nat) (h : (k2_sels lw_privs)[i]? = some w) (hg : goodWord w = true) : w ∈ ng_tbl := List.mem_filter.mpr ⟨List.mem_append_left _ (List.mem_of_getElem? h), hg⟩
theorem ng_g : ∀ w ∈ ng_tbl, (w.onTables && w.keeps) = true ∨ ∃ ty, w = .arrayClass ty := fun _ h => good_of_word (List.mem_filter.mp h).2
theorem ng_pl {ws : List Cond} (ps : List Nat) (hp : ws = ps.filterMap (fun i => tables_1[i]?)) (hg : ws.all goodWord = true) : ∀ w ∈ ws, w ∈ ng_tbl := by
  intro w hw
  have h2 := List.all_eq_true.mp hg w hw
  rw [hp] at hw
  obtain ⟨i, -, hi⟩ := List.mem_filterMap.mp hw
  exact ng_t i hi h2
theorem ng_C {y : MethodName} {b : ByteArray} {n : Nat} {r : Option FieldType} (h5 : Cond.code y b n r ∈ ng_tbl) : GoodIn ng_tbl (Cond.code y b n r :: ng_tbl) := by
  intro w hw
  rcases List.mem_cons.mp hw with rfl | hw
  · exact ⟨h5, ng_g _ h5⟩
  · exact ⟨hw, ng_g _ hw⟩
theorem ng_V {own C : String} {idx : Nat} {y : MethodName} {b : ByteArray} {n : Nat} {r : Option FieldType} (h1 : Cond.methodLink own idx y ∈ ng_tbl) (h2 : Cond.instanceMethod y ∈ ng_tbl) (h3 : Cond.selects C y y ∈ ng_tbl) (h4 : Cond.initialized C ∈ ng_tbl) (h5 : Cond.code y b n r ∈ ng_tbl) : GoodIn ng_tbl (wsV own idx C y (Cond.code y b n r :: ng_tbl)) := by
  intro w hw
  rcases List.mem_append.mp hw with hw | hw
  · have hm : w ∈ ng_tbl := by
      rcases List.mem_cons.mp hw with rfl | hw
      · exact h1
      rcases List.mem_cons.mp hw with rfl | hw
      · exact h2
      rcases List.mem_cons.mp hw with rfl | hw
      · exact h3
      rcases List.mem_cons.mp hw with rfl | hw
      · exact h4
      exact absurd hw List.not_mem_nil
    exact ⟨hm, ng_g _ hm⟩
  · exact ng_C h5 w hw
theorem ng_S {own : String} {idx : Nat} {y : MethodName} {b : ByteArray} {n : Nat} {r : Option FieldType} (h1 : Cond.methodLink own idx y ∈ ng_tbl) (h2 : Cond.static y ∈ ng_tbl) (h4 : Cond.initialized y.cls ∈ ng_tbl) (h5 : Cond.code y b n r ∈ ng_tbl) : GoodIn ng_tbl (va_wsS own idx y (Cond.code y b n r :: ng_tbl)) := by
  intro w hw
  rcases List.mem_append.mp hw with hw | hw
  · have hm : w ∈ ng_tbl := by
      rcases List.mem_cons.mp hw with rfl | hw
      · exact h1
      rcases List.mem_cons.mp hw with rfl | hw
      · exact h2
      rcases List.mem_cons.mp hw with rfl | hw
      · exact h4
      exact absurd hw List.not_mem_nil
    exact ⟨hm, ng_g _ hm⟩
  · exact ng_C h5 w hw
def nf_Plan : u_T := fun k => match k with
  | 0 => ("CeilingRows$Plan", "taskCount", "I", false)
  | 1 => ("CeilingRows$Plan", "resourceCount", "I", false)
  | 2 => ("CeilingRows$Plan", "rankOf", "[I", true)
  | 3 => ("CeilingRows$Plan", "coreOf", "[I", true)
  | 4 => ("CeilingRows$Plan", "ceilingOf", "[I", true)
  | 5 => ("CeilingRows$Plan", "userCoreOf", "[I", true)
  | _ => ("CeilingRows$Plan", "lengthOf", "[[I", true)
def nt_Plan : Nat → FieldType := fun k => match k with
  | 0 => .int
  | 1 => .int
  | 2 => (.array .int)
  | 3 => (.array .int)
  | 4 => (.array .int)
  | 5 => (.array .int)
  | _ => (.array (.array .int))
theorem nno_Plan : ∀ a, a < 7 → ∀ b, b < 7 → a ≠ b → (nf_Plan a).2.1 ≠ (nf_Plan b).2.1 := by decide +kernel
theorem nto_Plan : ∀ k, k < 7 → parseFieldDescriptor (nf_Plan k).2.2.1 = some (nt_Plan k) := by decide +kernel
set_option maxRecDepth 20000 in
theorem nin_Plan : ∀ w ∈ u_ws "CeilingRows$Plan" nf_Plan 7, w ∈ ng_tbl := ng_pl [45, 47, 49, 51, 53, 55, 57] (by decide +kernel) (by decide +kernel)
def nf_Board : u_T := fun k => match k with
  | 0 => ("CeilingRows$Board", "plan", "LCeilingRows$Plan;", true)
  | 1 => ("CeilingRows$Board", "stateOf", "[I", true)
  | 2 => ("CeilingRows$Board", "readyOrderOf", "[I", true)
  | 3 => ("CeilingRows$Board", "readyOrder", "I", false)
  | 4 => ("CeilingRows$Board", "lastTakenBy", "[I", true)
  | 5 => ("CeilingRows$Board", "holderOf", "[I", true)
  | _ => ("CeilingRows$Board", "takenBefore", "[I", true)
def nt_Board : Nat → FieldType := fun k => match k with
  | 0 => (.object "CeilingRows$Plan")
  | 1 => (.array .int)
  | 2 => (.array .int)
  | 3 => .int
  | 4 => (.array .int)
  | 5 => (.array .int)
  | _ => (.array .int)
theorem nno_Board : ∀ a, a < 7 → ∀ b, b < 7 → a ≠ b → (nf_Board a).2.1 ≠ (nf_Board b).2.1 := by decide +kernel
theorem nto_Board : ∀ k, k < 7 → parseFieldDescriptor (nf_Board k).2.2.1 = some (nt_Board k) := by decide +kernel
set_option maxRecDepth 20000 in
theorem nin_Board : ∀ w ∈ u_ws "CeilingRows$Board" nf_Board 7, w ∈ ng_tbl := ng_pl [79, 81, 83, 85, 87, 89, 91] (by decide +kernel) (by decide +kernel)
def nf_Locks : u_T := fun k => match k with
  | 0 => ("CeilingRows$Locks", "ownerOf", "[I", true)
  | 1 => ("CeilingRows$Locks", "wantedBy", "[I", true)
  | 2 => ("CeilingRows$Locks", "spinOrderOf", "[I", true)
  | _ => ("CeilingRows$Locks", "spinOrder", "I", false)
def nt_Locks : Nat → FieldType := fun k => match k with
  | 0 => (.array .int)
  | 1 => (.array .int)
  | 2 => (.array .int)
  | _ => .int
theorem nno_Locks : ∀ a, a < 4 → ∀ b, b < 4 → a ≠ b → (nf_Locks a).2.1 ≠ (nf_Locks b).2.1 := by decide +kernel
theorem nto_Locks : ∀ k, k < 4 → parseFieldDescriptor (nf_Locks k).2.2.1 = some (nt_Locks k) := by decide +kernel
set_option maxRecDepth 20000 in
theorem nin_Locks : ∀ w ∈ u_ws "CeilingRows$Locks" nf_Locks 4, w ∈ ng_tbl := ng_pl [104, 106, 108, 110] (by decide +kernel) (by decide +kernel)
def nf_Trial : u_T := fun k => match k with
  | 0 => ("CeilingRows$Trial", "plan", "LCeilingRows$Plan;", true)
  | 1 => ("CeilingRows$Trial", "board", "LCeilingRows$Board;", true)
  | 2 => ("CeilingRows$Trial", "ticksHad", "[I", true)
  | 3 => ("CeilingRows$Trial", "delays", "[[I", true)
  | _ => ("CeilingRows$Trial", "endedCount", "I", false)
def nt_Trial : Nat → FieldType := fun k => match k with
  | 0 => (.object "CeilingRows$Plan")
  | 1 => (.object "CeilingRows$Board")
  | 2 => (.array .int)
  | 3 => (.array (.array .int))
  | _ => .int
theorem nno_Trial : ∀ a, a < 5 → ∀ b, b < 5 → a ≠ b → (nf_Trial a).2.1 ≠ (nf_Trial b).2.1 := by decide +kernel
theorem nto_Trial : ∀ k, k < 5 → parseFieldDescriptor (nf_Trial k).2.2.1 = some (nt_Trial k) := by decide +kernel
set_option maxRecDepth 20000 in
theorem nin_Trial : ∀ w ∈ u_ws "CeilingRows$Trial" nf_Trial 5, w ∈ ng_tbl := ng_pl [127, 129, 131, 133, 135] (by decide +kernel) (by decide +kernel)
def nf_Main : u_T := fun k => match k with
  | 0 => ("CeilingRows", "plan", "LCeilingRows$Plan;", true)
  | 1 => ("CeilingRows", "board", "LCeilingRows$Board;", true)
  | 2 => ("CeilingRows", "locks", "LCeilingRows$Locks;", true)
  | 3 => ("CeilingRows", "trial", "LCeilingRows$Trial;", true)
  | 4 => ("CeilingRows", "eventKept", "[Z", true)
  | _ => ("CeilingRows", "latestTime", "J", false)
def nt_Main : Nat → FieldType := fun k => match k with
  | 0 => (.object "CeilingRows$Plan")
  | 1 => (.object "CeilingRows$Board")
  | 2 => (.object "CeilingRows$Locks")
  | 3 => (.object "CeilingRows$Trial")
  | 4 => (.array .boolean)
  | _ => .long
theorem nno_Main : ∀ a, a < 6 → ∀ b, b < 6 → a ≠ b → (nf_Main a).2.1 ≠ (nf_Main b).2.1 := by decide +kernel
theorem nto_Main : ∀ k, k < 6 → parseFieldDescriptor (nf_Main k).2.2.1 = some (nt_Main k) := by decide +kernel
set_option maxRecDepth 20000 in
theorem nin_Main : ∀ w ∈ u_ws "CeilingRows" nf_Main 6, w ∈ ng_tbl := ng_pl [144, 146, 148, 150, 152, 154] (by decide +kernel) (by decide +kernel)
def nf_Ref : u_T := fun k => match k with
  | 0 => ("CeilingRowsModel", "tasks", "I", false)
  | 1 => ("CeilingRowsModel", "rank", "[I", true)
  | 2 => ("CeilingRowsModel", "core", "[I", true)
  | 3 => ("CeilingRowsModel", "state", "[I", true)
  | 4 => ("CeilingRowsModel", "since", "[I", true)
  | 5 => ("CeilingRowsModel", "readies", "I", false)
  | 6 => ("CeilingRowsModel", "kept", "[Z", true)
  | 7 => ("CeilingRowsModel", "resources", "I", false)
  | 8 => ("CeilingRowsModel", "length", "[J", true)
  | 9 => ("CeilingRowsModel", "holder", "[I", true)
  | 10 => ("CeilingRowsModel", "nth", "[I", true)
  | 11 => ("CeilingRowsModel", "latest", "J", false)
  | 12 => ("CeilingRowsModel", "lockOf", "[I", true)
  | 13 => ("CeilingRowsModel", "lockNth", "[I", true)
  | 14 => ("CeilingRowsModel", "spins", "[I", true)
  | 15 => ("CeilingRowsModel", "spinSince", "[I", true)
  | 16 => ("CeilingRowsModel", "locks", "I", false)
  | 17 => ("CeilingRowsModel", "trialState", "[I", true)
  | 18 => ("CeilingRowsModel", "trialSince", "[I", true)
  | 19 => ("CeilingRowsModel", "done", "[I", true)
  | 20 => ("CeilingRowsModel", "held", "[I", true)
  | _ => ("CeilingRowsModel", "met", "[Z", true)
def nt_Ref : Nat → FieldType := fun k => match k with
  | 0 => .int
  | 1 => (.array .int)
  | 2 => (.array .int)
  | 3 => (.array .int)
  | 4 => (.array .int)
  | 5 => .int
  | 6 => (.array .boolean)
  | 7 => .int
  | 8 => (.array .long)
  | 9 => (.array .int)
  | 10 => (.array .int)
  | 11 => .long
  | 12 => (.array .int)
  | 13 => (.array .int)
  | 14 => (.array .int)
  | 15 => (.array .int)
  | 16 => .int
  | 17 => (.array .int)
  | 18 => (.array .int)
  | 19 => (.array .int)
  | 20 => (.array .int)
  | _ => (.array .boolean)
theorem nno_Ref : ∀ a, a < 22 → ∀ b, b < 22 → a ≠ b → (nf_Ref a).2.1 ≠ (nf_Ref b).2.1 := by decide +kernel
theorem nto_Ref : ∀ k, k < 22 → parseFieldDescriptor (nf_Ref k).2.2.1 = some (nt_Ref k) := by decide +kernel
set_option maxRecDepth 20000 in
theorem nin_Ref : ∀ w ∈ u_ws "CeilingRowsModel" nf_Ref 22, w ∈ ng_tbl := ng_pl [435, 437, 439, 441, 443, 445, 447, 449, 451, 453, 455, 457, 459, 461, 463, 465, 467, 469, 471, 473, 475, 477] (by decide +kernel) (by decide +kernel)
abbrev vwCl : List vw_C := [("CeilingRows$Plan", nf_Plan, 7), ("CeilingRows$Board", nf_Board, 7), ("CeilingRows$Locks", nf_Locks, 4), ("CeilingRows$Trial", nf_Trial, 5), ("CeilingRows", nf_Main, 6), ("CeilingRowsModel", nf_Ref, 22)]
def ny_Main_init : MethodName := ⟨"CeilingRows", "<init>", "()V"⟩
def nw_Main_init : List Cond := .code ny_Main_init prog_1_method_1_code 1 none :: ng_tbl
def ny_Plan_init : MethodName := ⟨"CeilingRows$Plan", "<init>", "()V"⟩
def nw_Plan_init : List Cond := .code ny_Plan_init prog_4_method_1_code 1 none :: ng_tbl
def ny_Board_init : MethodName := ⟨"CeilingRows$Board", "<init>", "(LCeilingRows$Plan;)V"⟩
def nw_Board_init : List Cond := .code ny_Board_init prog_2_method_1_code 2 none :: ng_tbl
def ny_Locks_init : MethodName := ⟨"CeilingRows$Locks", "<init>", "()V"⟩
def nw_Locks_init : List Cond := .code ny_Locks_init prog_3_method_1_code 1 none :: ng_tbl
def ny_Trial_init : MethodName := ⟨"CeilingRows$Trial", "<init>", "(LCeilingRows$Plan;)V"⟩
def nw_Trial_init : List Cond := .code ny_Trial_init prog_5_method_1_code 2 none :: ng_tbl
def ny_Main_task : MethodName := ⟨"CeilingRows", "task", "(II)I"⟩
def nw_Main_task : List Cond := .code ny_Main_task prog_1_method_2_code 3 (some .int) :: ng_tbl
def ny_Main_isCore : MethodName := ⟨"CeilingRows", "isCore", "(I)Z"⟩
def nw_Main_isCore : List Cond := .code ny_Main_isCore prog_1_method_14_code 1 (some .boolean) :: ng_tbl
def ny_Plan_addTask : MethodName := ⟨"CeilingRows$Plan", "addTask", "(II)I"⟩
def nw_Plan_addTask : List Cond := .code ny_Plan_addTask prog_4_method_4_code 3 (some .int) :: ng_tbl
def ny_Main_resource : MethodName := ⟨"CeilingRows", "resource", "()I"⟩
def nw_Main_resource : List Cond := .code ny_Main_resource prog_1_method_3_code 1 (some .int) :: ng_tbl
def ny_Plan_addResource : MethodName := ⟨"CeilingRows$Plan", "addResource", "()I"⟩
def nw_Plan_addResource : List Cond := .code ny_Plan_addResource prog_4_method_5_code 1 (some .int) :: ng_tbl
def ny_Main_uses : MethodName := ⟨"CeilingRows", "uses", "(IIJ)I"⟩
def nw_Main_uses : List Cond := .code ny_Main_uses prog_1_method_4_code 7 (some .int) :: ng_tbl
def ny_Plan_hasTask : MethodName := ⟨"CeilingRows$Plan", "hasTask", "(I)Z"⟩
def nw_Plan_hasTask : List Cond := .code ny_Plan_hasTask prog_4_method_2_code 2 (some .boolean) :: ng_tbl
def ny_Plan_hasResource : MethodName := ⟨"CeilingRows$Plan", "hasResource", "(I)Z"⟩
def nw_Plan_hasResource : List Cond := .code ny_Plan_hasResource prog_4_method_3_code 2 (some .boolean) :: ng_tbl
def ny_Board_allSleepOn : MethodName := ⟨"CeilingRows$Board", "allSleepOn", "(I)Z"⟩
def nw_Board_allSleepOn : List Cond := .code ny_Board_allSleepOn prog_2_method_3_code 3 (some .boolean) :: ng_tbl
def ny_Plan_isUsedByAnotherCore : MethodName := ⟨"CeilingRows$Plan", "isUsedByAnotherCore", "(II)Z"⟩
def nw_Plan_isUsedByAnotherCore : List Cond := .code ny_Plan_isUsedByAnotherCore prog_4_method_7_code 3 (some .boolean) :: ng_tbl
def ny_Plan_isUsedBy : MethodName := ⟨"CeilingRows$Plan", "isUsedBy", "(II)Z"⟩
def nw_Plan_isUsedBy : List Cond := .code ny_Plan_isUsedBy prog_4_method_6_code 3 (some .boolean) :: ng_tbl
def ny_Plan_setUse : MethodName := ⟨"CeilingRows$Plan", "setUse", "(III)V"⟩
def nw_Plan_setUse : List Cond := .code ny_Plan_setUse prog_4_method_8_code 4 none :: ng_tbl
def ny_Main_ceiling : MethodName := ⟨"CeilingRows", "ceiling", "(I)I"⟩
def nw_Main_ceiling : List Cond := .code ny_Main_ceiling prog_1_method_5_code 2 (some .int) :: ng_tbl
def ny_Main_step : MethodName := ⟨"CeilingRows", "step", "(IIIJ)I"⟩
def nw_Main_step : List Cond := .code ny_Main_step prog_1_method_6_code 8 (some .int) :: ng_tbl
def ny_Main_perform : MethodName := ⟨"CeilingRows", "perform", "(III)I"⟩
def nw_Main_perform : List Cond := .code ny_Main_perform prog_1_method_16_code 4 (some .int) :: ng_tbl
def ny_Main_startTask : MethodName := ⟨"CeilingRows", "startTask", "(I)I"⟩
def nw_Main_startTask : List Cond := .code ny_Main_startTask prog_1_method_17_code 2 (some .int) :: ng_tbl
def ny_Board_makeReady : MethodName := ⟨"CeilingRows$Board", "makeReady", "(I)V"⟩
def nw_Board_makeReady : List Cond := .code ny_Board_makeReady prog_2_method_4_code 2 none :: ng_tbl
def ny_Main_runs : MethodName := ⟨"CeilingRows", "runs", "(I)Z"⟩
def nw_Main_runs : List Cond := .code ny_Main_runs prog_1_method_15_code 3 (some .boolean) :: ng_tbl
def ny_Locks_spins : MethodName := ⟨"CeilingRows$Locks", "spins", "(I)Z"⟩
def nw_Locks_spins : List Cond := .code ny_Locks_spins prog_3_method_2_code 2 (some .boolean) :: ng_tbl
def ny_Board_firstOn : MethodName := ⟨"CeilingRows$Board", "firstOn", "(I)I"⟩
def nw_Board_firstOn : List Cond := .code ny_Board_firstOn prog_2_method_7_code 7 (some .int) :: ng_tbl
def ny_Board_rankNow : MethodName := ⟨"CeilingRows$Board", "rankNow", "(I)I"⟩
def nw_Board_rankNow : List Cond := .code ny_Board_rankNow prog_2_method_6_code 4 (some .int) :: ng_tbl
def ny_Main_sendEvent : MethodName := ⟨"CeilingRows", "sendEvent", "(I)I"⟩
def nw_Main_sendEvent : List Cond := .code ny_Main_sendEvent prog_1_method_18_code 2 (some .int) :: ng_tbl
def ny_Main_takeResource : MethodName := ⟨"CeilingRows", "takeResource", "(II)I"⟩
def nw_Main_takeResource : List Cond := .code ny_Main_takeResource prog_1_method_19_code 3 (some .int) :: ng_tbl
def ny_Board_take : MethodName := ⟨"CeilingRows$Board", "take", "(II)V"⟩
def nw_Board_take : List Cond := .code ny_Board_take prog_2_method_8_code 3 none :: ng_tbl
def ny_Main_giveBackResource : MethodName := ⟨"CeilingRows", "giveBackResource", "(II)I"⟩
def nw_Main_giveBackResource : List Cond := .code ny_Main_giveBackResource prog_1_method_20_code 3 (some .int) :: ng_tbl
def ny_Board_giveBackLast : MethodName := ⟨"CeilingRows$Board", "giveBackLast", "(I)V"⟩
def nw_Board_giveBackLast : List Cond := .code ny_Board_giveBackLast prog_2_method_9_code 3 none :: ng_tbl
def ny_Main_endTask : MethodName := ⟨"CeilingRows", "endTask", "(I)I"⟩
def nw_Main_endTask : List Cond := .code ny_Main_endTask prog_1_method_21_code 3 (some .int) :: ng_tbl
def ny_Board_holdsAny : MethodName := ⟨"CeilingRows$Board", "holdsAny", "(I)Z"⟩
def nw_Board_holdsAny : List Cond := .code ny_Board_holdsAny prog_2_method_5_code 2 (some .boolean) :: ng_tbl
def ny_Board_putToSleep : MethodName := ⟨"CeilingRows$Board", "putToSleep", "(I)V"⟩
def nw_Board_putToSleep : List Cond := .code ny_Board_putToSleep prog_2_method_10_code 3 none :: ng_tbl
def ny_Main_waitForEvent : MethodName := ⟨"CeilingRows", "waitForEvent", "(I)I"⟩
def nw_Main_waitForEvent : List Cond := .code ny_Main_waitForEvent prog_1_method_22_code 2 (some .int) :: ng_tbl
def ny_Main_rank : MethodName := ⟨"CeilingRows", "rank", "(I)I"⟩
def nw_Main_rank : List Cond := .code ny_Main_rank prog_1_method_7_code 2 (some .int) :: ng_tbl
def ny_Main_holder : MethodName := ⟨"CeilingRows", "holder", "(I)I"⟩
def nw_Main_holder : List Cond := .code ny_Main_holder prog_1_method_8_code 2 (some .int) :: ng_tbl
def ny_Main_blocking : MethodName := ⟨"CeilingRows", "blocking", "(I)J"⟩
def nw_Main_blocking : List Cond := .code ny_Main_blocking prog_1_method_9_code 4 (some .long) :: ng_tbl
def ny_Plan_longestDelay : MethodName := ⟨"CeilingRows$Plan", "longestDelay", "(II)I"⟩
def nw_Plan_longestDelay : List Cond := .code ny_Plan_longestDelay prog_4_method_10_code 5 (some .int) :: ng_tbl
def ny_Plan_isBelow : MethodName := ⟨"CeilingRows$Plan", "isBelow", "(II)Z"⟩
def nw_Plan_isBelow : List Cond := .code ny_Plan_isBelow prog_4_method_9_code 3 (some .boolean) :: ng_tbl
def ny_Main_lock : MethodName := ⟨"CeilingRows", "lock", "(II)I"⟩
def nw_Main_lock : List Cond := .code ny_Main_lock prog_1_method_10_code 3 (some .int) :: ng_tbl
def ny_Locks_acquire : MethodName := ⟨"CeilingRows$Locks", "acquire", "(II)I"⟩
def nw_Locks_acquire : List Cond := .code ny_Locks_acquire prog_3_method_4_code 3 (some .int) :: ng_tbl
def ny_Locks_lastTakenBy : MethodName := ⟨"CeilingRows$Locks", "lastTakenBy", "(I)I"⟩
def nw_Locks_lastTakenBy : List Cond := .code ny_Locks_lastTakenBy prog_3_method_3_code 3 (some .int) :: ng_tbl
def ny_Locks_release : MethodName := ⟨"CeilingRows$Locks", "release", "(II)I"⟩
def nw_Locks_release : List Cond := .code ny_Locks_release prog_3_method_5_code 4 (some .int) :: ng_tbl
def ny_Locks_longestSpinnerFor : MethodName := ⟨"CeilingRows$Locks", "longestSpinnerFor", "(I)I"⟩
def nw_Locks_longestSpinnerFor : List Cond := .code ny_Locks_longestSpinnerFor prog_3_method_6_code 5 (some .int) :: ng_tbl
def ny_Main_ring : MethodName := ⟨"CeilingRows", "ring", "()Z"⟩
def nw_Main_ring : List Cond := .code ny_Main_ring prog_1_method_11_code 2 (some .boolean) :: ng_tbl
def ny_Locks_waitsForItself : MethodName := ⟨"CeilingRows$Locks", "waitsForItself", "(I)Z"⟩
def nw_Locks_waitsForItself : List Cond := .code ny_Locks_waitsForItself prog_3_method_7_code 4 (some .boolean) :: ng_tbl
def ny_Main_lower : MethodName := ⟨"CeilingRows", "lower", "(II)I"⟩
def nw_Main_lower : List Cond := .code ny_Main_lower prog_1_method_12_code 5 (some .int) :: ng_tbl
def ny_Main_plain : MethodName := ⟨"CeilingRows", "plain", "(J)I"⟩
def nw_Main_plain : List Cond := .code ny_Main_plain prog_1_method_13_code 3 (some .int) :: ng_tbl
def ny_Trial_mostDelays : MethodName := ⟨"CeilingRows$Trial", "mostDelays", "(J)I"⟩
def nw_Trial_mostDelays : List Cond := .code ny_Trial_mostDelays prog_5_method_2_code 6 (some .int) :: ng_tbl
def ny_Trial_clear : MethodName := ⟨"CeilingRows$Trial", "clear", "()V"⟩
def nw_Trial_clear : List Cond := .code ny_Trial_clear prog_5_method_3_code 2 none :: ng_tbl
def ny_Board_clear : MethodName := ⟨"CeilingRows$Board", "clear", "()V"⟩
def nw_Board_clear : List Cond := .code ny_Board_clear prog_2_method_2_code 1 none :: ng_tbl
def ny_Arrays_fill : MethodName := ⟨"java/util/Arrays", "fill", "([II)V"⟩
def nw_Arrays_fill : List Cond := .code ny_Arrays_fill prog_10_method_103_code 4 none :: ng_tbl
def ny_Trial_startThoseDue : MethodName := ⟨"CeilingRows$Trial", "startThoseDue", "(JI)V"⟩
def nw_Trial_startThoseDue : List Cond := .code ny_Trial_startThoseDue prog_5_method_4_code 7 none :: ng_tbl
def ny_Trial_haveTick : MethodName := ⟨"CeilingRows$Trial", "haveTick", "(I)V"⟩
def nw_Trial_haveTick : List Cond := .code ny_Trial_haveTick prog_5_method_5_code 3 none :: ng_tbl
def ny_Trial_resourceAt : MethodName := ⟨"CeilingRows$Trial", "resourceAt", "(II)I"⟩
def nw_Trial_resourceAt : List Cond := .code ny_Trial_resourceAt prog_5_method_10_code 6 (some .int) :: ng_tbl
def ny_Trial_ticksWith : MethodName := ⟨"CeilingRows$Trial", "ticksWith", "(II)I"⟩
def nw_Trial_ticksWith : List Cond := .code ny_Trial_ticksWith prog_5_method_8_code 3 (some .int) :: ng_tbl
def ny_Trial_noteDelays : MethodName := ⟨"CeilingRows$Trial", "noteDelays", "(II)V"⟩
def nw_Trial_noteDelays : List Cond := .code ny_Trial_noteDelays prog_5_method_6_code 4 none :: ng_tbl
def ny_Trial_ticksOf : MethodName := ⟨"CeilingRows$Trial", "ticksOf", "(I)I"⟩
def nw_Trial_ticksOf : List Cond := .code ny_Trial_ticksOf prog_5_method_9_code 4 (some .int) :: ng_tbl
def ny_Trial_countDelays : MethodName := ⟨"CeilingRows$Trial", "countDelays", "(I)I"⟩
def nw_Trial_countDelays : List Cond := .code ny_Trial_countDelays prog_5_method_7_code 4 (some .int) :: ng_tbl
def ny_Integer_bitCount : MethodName := ⟨"java/lang/Integer", "bitCount", "(I)I"⟩
def nw_Integer_bitCount : List Cond := .code ny_Integer_bitCount prog_8_method_49_code 1 (some .int) :: ng_tbl
def ny_Ref_init : MethodName := ⟨"CeilingRowsModel", "<init>", "()V"⟩
def nw_Ref_init : List Cond := .code ny_Ref_init prog_7_method_1_code 1 none :: ng_tbl
def ny_Ref_task : MethodName := ⟨"CeilingRowsModel", "task", "(II)I"⟩
def nw_Ref_task : List Cond := .code ny_Ref_task prog_7_method_4_code 3 (some .int) :: ng_tbl
def ny_Ref_resource : MethodName := ⟨"CeilingRowsModel", "resource", "()I"⟩
def nw_Ref_resource : List Cond := .code ny_Ref_resource prog_7_method_5_code 1 (some .int) :: ng_tbl
def ny_Ref_uses : MethodName := ⟨"CeilingRowsModel", "uses", "(IIJ)I"⟩
def nw_Ref_uses : List Cond := .code ny_Ref_uses prog_7_method_6_code 6 (some .int) :: ng_tbl
def ny_Ref_isTask : MethodName := ⟨"CeilingRowsModel", "isTask", "(I)Z"⟩
def nw_Ref_isTask : List Cond := .code ny_Ref_isTask prog_7_method_2_code 2 (some .boolean) :: ng_tbl
def ny_Ref_isResource : MethodName := ⟨"CeilingRowsModel", "isResource", "(I)Z"⟩
def nw_Ref_isResource : List Cond := .code ny_Ref_isResource prog_7_method_3_code 2 (some .boolean) :: ng_tbl
def ny_Ref_ceiling : MethodName := ⟨"CeilingRowsModel", "ceiling", "(I)I"⟩
def nw_Ref_ceiling : List Cond := .code ny_Ref_ceiling prog_7_method_8_code 2 (some .int) :: ng_tbl
def ny_Ref_ceilingOf : MethodName := ⟨"CeilingRowsModel", "ceilingOf", "(I)I"⟩
def nw_Ref_ceilingOf : List Cond := .code ny_Ref_ceilingOf prog_7_method_7_code 4 (some .int) :: ng_tbl
def ny_Ref_step : MethodName := ⟨"CeilingRowsModel", "step", "(IIIJ)I"⟩
def nw_Ref_step : List Cond := .code ny_Ref_step prog_7_method_15_code 7 (some .int) :: ng_tbl
def ny_Ref_acts : MethodName := ⟨"CeilingRowsModel", "acts", "(III)I"⟩
def nw_Ref_acts : List Cond := .code ny_Ref_acts prog_7_method_14_code 6 (some .int) :: ng_tbl
def ny_Ref_ready : MethodName := ⟨"CeilingRowsModel", "ready", "(I)V"⟩
def nw_Ref_ready : List Cond := .code ny_Ref_ready prog_7_method_12_code 2 none :: ng_tbl
def ny_Ref_runs : MethodName := ⟨"CeilingRowsModel", "runs", "(I)Z"⟩
def nw_Ref_runs : List Cond := .code ny_Ref_runs prog_7_method_11_code 2 (some .boolean) :: ng_tbl
def ny_Ref_running : MethodName := ⟨"CeilingRowsModel", "running", "(I)I"⟩
def nw_Ref_running : List Cond := .code ny_Ref_running prog_7_method_10_code 5 (some .int) :: ng_tbl
def ny_Ref_rankNow : MethodName := ⟨"CeilingRowsModel", "rankNow", "(I)I"⟩
def nw_Ref_rankNow : List Cond := .code ny_Ref_rankNow prog_7_method_9_code 4 (some .int) :: ng_tbl
def ny_Ref_last : MethodName := ⟨"CeilingRowsModel", "last", "(I)I"⟩
def nw_Ref_last : List Cond := .code ny_Ref_last prog_7_method_13_code 4 (some .int) :: ng_tbl
def ny_Ref_rank : MethodName := ⟨"CeilingRowsModel", "rank", "(I)I"⟩
def nw_Ref_rank : List Cond := .code ny_Ref_rank prog_7_method_16_code 2 (some .int) :: ng_tbl
def ny_Ref_holder : MethodName := ⟨"CeilingRowsModel", "holder", "(I)I"⟩
def nw_Ref_holder : List Cond := .code ny_Ref_holder prog_7_method_17_code 2 (some .int) :: ng_tbl
def ny_Ref_blocking : MethodName := ⟨"CeilingRowsModel", "blocking", "(I)J"⟩
def nw_Ref_blocking : List Cond := .code ny_Ref_blocking prog_7_method_19_code 6 (some .long) :: ng_tbl
def ny_Ref_mayKeep : MethodName := ⟨"CeilingRowsModel", "mayKeep", "(III)Z"⟩
def nw_Ref_mayKeep : List Cond := .code ny_Ref_mayKeep prog_7_method_18_code 4 (some .boolean) :: ng_tbl
def ny_Ref_lower : MethodName := ⟨"CeilingRowsModel", "lower", "(II)I"⟩
def nw_Ref_lower : List Cond := .code ny_Ref_lower prog_7_method_20_code 7 (some .int) :: ng_tbl
def ny_Ref_lock : MethodName := ⟨"CeilingRowsModel", "lock", "(II)I"⟩
def nw_Ref_lock : List Cond := .code ny_Ref_lock prog_7_method_23_code 5 (some .int) :: ng_tbl
def ny_Ref_have : MethodName := ⟨"CeilingRowsModel", "have", "(II)V"⟩
def nw_Ref_have : List Cond := .code ny_Ref_have prog_7_method_22_code 3 none :: ng_tbl
def ny_Ref_lastLock : MethodName := ⟨"CeilingRowsModel", "lastLock", "(I)I"⟩
def nw_Ref_lastLock : List Cond := .code ny_Ref_lastLock prog_7_method_21_code 4 (some .int) :: ng_tbl
def ny_Ref_ring : MethodName := ⟨"CeilingRowsModel", "ring", "()Z"⟩
def nw_Ref_ring : List Cond := .code ny_Ref_ring prog_7_method_24_code 5 (some .boolean) :: ng_tbl
def ny_Ref_plain : MethodName := ⟨"CeilingRowsModel", "plain", "(J)I"⟩
def nw_Ref_plain : List Cond := .code ny_Ref_plain prog_7_method_28_code 9 (some .int) :: ng_tbl
def ny_Ref_trialRuns : MethodName := ⟨"CeilingRowsModel", "trialRuns", "(I)I"⟩
def nw_Ref_trialRuns : List Cond := .code ny_Ref_trialRuns prog_7_method_27_code 5 (some .int) :: ng_tbl
def ny_Ref_trialRank : MethodName := ⟨"CeilingRowsModel", "trialRank", "(I)I"⟩
def nw_Ref_trialRank : List Cond := .code ny_Ref_trialRank prog_7_method_26_code 2 (some .int) :: ng_tbl
def ny_Ref_tickOf : MethodName := ⟨"CeilingRowsModel", "tickOf", "(II)I"⟩
def nw_Ref_tickOf : List Cond := .code ny_Ref_tickOf prog_7_method_25_code 6 (some .int) :: ng_tbl
