section
-- ===== PART A: goes FIRST, ahead of the names: the tables' words, and 'selects' of the private methods out of them =====
/-- a private method of a class that the tables say can be made, by its rows of tables_1 -/
def lw_okq (q : MethodName × Nat) : Prop := (q.1.cls ≠ "java/lang/invoke/MethodHandle" ∧ q.1.cls ≠ "java/lang/invoke/VarHandle") ∧ Cond.instantiable q.1.cls q.2 ∈ tables_1 ∧ Cond.privateMethod q.1 ∈ tables_1 ∧ Cond.instanceMethod q.1 ∈ tables_1
theorem lw_p0 : lw_okq (⟨"CeilingRows", "perform", "(III)I"⟩, 6) := ⟨⟨by decide +kernel, by decide +kernel⟩, List.mem_of_getElem? (i := 11) (by decide +kernel), List.mem_of_getElem? (i := 219) (by decide +kernel), List.mem_of_getElem? (i := 220) (by decide +kernel)⟩
theorem lw_p1 : lw_okq (⟨"CeilingRows", "startTask", "(I)I"⟩, 6) := ⟨⟨by decide +kernel, by decide +kernel⟩, List.mem_of_getElem? (i := 11) (by decide +kernel), List.mem_of_getElem? (i := 223) (by decide +kernel), List.mem_of_getElem? (i := 224) (by decide +kernel)⟩
theorem lw_p2 : lw_okq (⟨"CeilingRows", "runs", "(I)Z"⟩, 6) := ⟨⟨by decide +kernel, by decide +kernel⟩, List.mem_of_getElem? (i := 11) (by decide +kernel), List.mem_of_getElem? (i := 231) (by decide +kernel), List.mem_of_getElem? (i := 232) (by decide +kernel)⟩
theorem lw_p3 : lw_okq (⟨"CeilingRows", "sendEvent", "(I)I"⟩, 6) := ⟨⟨by decide +kernel, by decide +kernel⟩, List.mem_of_getElem? (i := 11) (by decide +kernel), List.mem_of_getElem? (i := 248) (by decide +kernel), List.mem_of_getElem? (i := 249) (by decide +kernel)⟩
theorem lw_p4 : lw_okq (⟨"CeilingRows", "takeResource", "(II)I"⟩, 6) := ⟨⟨by decide +kernel, by decide +kernel⟩, List.mem_of_getElem? (i := 11) (by decide +kernel), List.mem_of_getElem? (i := 252) (by decide +kernel), List.mem_of_getElem? (i := 253) (by decide +kernel)⟩
theorem lw_p5 : lw_okq (⟨"CeilingRows", "giveBackResource", "(II)I"⟩, 6) := ⟨⟨by decide +kernel, by decide +kernel⟩, List.mem_of_getElem? (i := 11) (by decide +kernel), List.mem_of_getElem? (i := 260) (by decide +kernel), List.mem_of_getElem? (i := 261) (by decide +kernel)⟩
theorem lw_p6 : lw_okq (⟨"CeilingRows", "endTask", "(I)I"⟩, 6) := ⟨⟨by decide +kernel, by decide +kernel⟩, List.mem_of_getElem? (i := 11) (by decide +kernel), List.mem_of_getElem? (i := 268) (by decide +kernel), List.mem_of_getElem? (i := 269) (by decide +kernel)⟩
theorem lw_p7 : lw_okq (⟨"CeilingRows", "waitForEvent", "(I)I"⟩, 6) := ⟨⟨by decide +kernel, by decide +kernel⟩, List.mem_of_getElem? (i := 11) (by decide +kernel), List.mem_of_getElem? (i := 282) (by decide +kernel), List.mem_of_getElem? (i := 283) (by decide +kernel)⟩
theorem lw_p8 : lw_okq (⟨"CeilingRows$Locks", "lastTakenBy", "(I)I"⟩, 4) := ⟨⟨by decide +kernel, by decide +kernel⟩, List.mem_of_getElem? (i := 95) (by decide +kernel), List.mem_of_getElem? (i := 317) (by decide +kernel), List.mem_of_getElem? (i := 318) (by decide +kernel)⟩
theorem lw_p9 : lw_okq (⟨"CeilingRows$Locks", "longestSpinnerFor", "(I)I"⟩, 4) := ⟨⟨by decide +kernel, by decide +kernel⟩, List.mem_of_getElem? (i := 95) (by decide +kernel), List.mem_of_getElem? (i := 325) (by decide +kernel), List.mem_of_getElem? (i := 326) (by decide +kernel)⟩
theorem lw_p10 : lw_okq (⟨"CeilingRows$Trial", "clear", "()V"⟩, 5) := ⟨⟨by decide +kernel, by decide +kernel⟩, List.mem_of_getElem? (i := 114) (by decide +kernel), List.mem_of_getElem? (i := 350) (by decide +kernel), List.mem_of_getElem? (i := 351) (by decide +kernel)⟩
theorem lw_p11 : lw_okq (⟨"CeilingRows$Trial", "startThoseDue", "(JI)V"⟩, 5) := ⟨⟨by decide +kernel, by decide +kernel⟩, List.mem_of_getElem? (i := 114) (by decide +kernel), List.mem_of_getElem? (i := 362) (by decide +kernel), List.mem_of_getElem? (i := 363) (by decide +kernel)⟩
theorem lw_p12 : lw_okq (⟨"CeilingRows$Trial", "haveTick", "(I)V"⟩, 5) := ⟨⟨by decide +kernel, by decide +kernel⟩, List.mem_of_getElem? (i := 114) (by decide +kernel), List.mem_of_getElem? (i := 369) (by decide +kernel), List.mem_of_getElem? (i := 370) (by decide +kernel)⟩
theorem lw_p13 : lw_okq (⟨"CeilingRows$Trial", "resourceAt", "(II)I"⟩, 5) := ⟨⟨by decide +kernel, by decide +kernel⟩, List.mem_of_getElem? (i := 114) (by decide +kernel), List.mem_of_getElem? (i := 373) (by decide +kernel), List.mem_of_getElem? (i := 374) (by decide +kernel)⟩
theorem lw_p14 : lw_okq (⟨"CeilingRows$Trial", "ticksWith", "(II)I"⟩, 5) := ⟨⟨by decide +kernel, by decide +kernel⟩, List.mem_of_getElem? (i := 114) (by decide +kernel), List.mem_of_getElem? (i := 378) (by decide +kernel), List.mem_of_getElem? (i := 379) (by decide +kernel)⟩
theorem lw_p15 : lw_okq (⟨"CeilingRows$Trial", "noteDelays", "(II)V"⟩, 5) := ⟨⟨by decide +kernel, by decide +kernel⟩, List.mem_of_getElem? (i := 114) (by decide +kernel), List.mem_of_getElem? (i := 386) (by decide +kernel), List.mem_of_getElem? (i := 387) (by decide +kernel)⟩
def lw_privs_1 : List (MethodName × Nat) := [(⟨"CeilingRows", "perform", "(III)I"⟩, 6), (⟨"CeilingRows", "startTask", "(I)I"⟩, 6), (⟨"CeilingRows", "runs", "(I)Z"⟩, 6), (⟨"CeilingRows", "sendEvent", "(I)I"⟩, 6), (⟨"CeilingRows", "takeResource", "(II)I"⟩, 6), (⟨"CeilingRows", "giveBackResource", "(II)I"⟩, 6), (⟨"CeilingRows", "endTask", "(I)I"⟩, 6), (⟨"CeilingRows", "waitForEvent", "(I)I"⟩, 6), (⟨"CeilingRows$Locks", "lastTakenBy", "(I)I"⟩, 4), (⟨"CeilingRows$Locks", "longestSpinnerFor", "(I)I"⟩, 4), (⟨"CeilingRows$Trial", "clear", "()V"⟩, 5), (⟨"CeilingRows$Trial", "startThoseDue", "(JI)V"⟩, 5), (⟨"CeilingRows$Trial", "haveTick", "(I)V"⟩, 5), (⟨"CeilingRows$Trial", "resourceAt", "(II)I"⟩, 5), (⟨"CeilingRows$Trial", "ticksWith", "(II)I"⟩, 5), (⟨"CeilingRows$Trial", "noteDelays", "(II)V"⟩, 5)]
theorem lw_r1 : ∀ q ∈ lw_privs_1, lw_okq q := List.forall_mem_cons.mpr ⟨lw_p0, List.forall_mem_cons.mpr ⟨lw_p1, List.forall_mem_cons.mpr ⟨lw_p2, List.forall_mem_cons.mpr ⟨lw_p3, List.forall_mem_cons.mpr ⟨lw_p4, List.forall_mem_cons.mpr ⟨lw_p5, List.forall_mem_cons.mpr ⟨lw_p6, List.forall_mem_cons.mpr ⟨lw_p7, List.forall_mem_cons.mpr ⟨lw_p8, List.forall_mem_cons.mpr ⟨lw_p9, List.forall_mem_cons.mpr ⟨lw_p10, List.forall_mem_cons.mpr ⟨lw_p11, List.forall_mem_cons.mpr ⟨lw_p12, List.forall_mem_cons.mpr ⟨lw_p13, List.forall_mem_cons.mpr ⟨lw_p14, List.forall_mem_cons.mpr ⟨lw_p15, fun _ h => absurd h List.not_mem_nil⟩⟩⟩⟩⟩⟩⟩⟩⟩⟩⟩⟩⟩⟩⟩⟩
theorem lw_p16 : lw_okq (⟨"CeilingRows$Trial", "ticksOf", "(I)I"⟩, 5) := ⟨⟨by decide +kernel, by decide +kernel⟩, List.mem_of_getElem? (i := 114) (by decide +kernel), List.mem_of_getElem? (i := 392) (by decide +kernel), List.mem_of_getElem? (i := 393) (by decide +kernel)⟩
theorem lw_p17 : lw_okq (⟨"CeilingRows$Trial", "countDelays", "(I)I"⟩, 5) := ⟨⟨by decide +kernel, by decide +kernel⟩, List.mem_of_getElem? (i := 114) (by decide +kernel), List.mem_of_getElem? (i := 397) (by decide +kernel), List.mem_of_getElem? (i := 398) (by decide +kernel)⟩
theorem lw_p18 : lw_okq (⟨"CeilingRowsModel", "isTask", "(I)Z"⟩, 22) := ⟨⟨by decide +kernel, by decide +kernel⟩, List.mem_of_getElem? (i := 408) (by decide +kernel), List.mem_of_getElem? (i := 494) (by decide +kernel), List.mem_of_getElem? (i := 495) (by decide +kernel)⟩
theorem lw_p19 : lw_okq (⟨"CeilingRowsModel", "isResource", "(I)Z"⟩, 22) := ⟨⟨by decide +kernel, by decide +kernel⟩, List.mem_of_getElem? (i := 408) (by decide +kernel), List.mem_of_getElem? (i := 498) (by decide +kernel), List.mem_of_getElem? (i := 499) (by decide +kernel)⟩
theorem lw_p20 : lw_okq (⟨"CeilingRowsModel", "ceilingOf", "(I)I"⟩, 22) := ⟨⟨by decide +kernel, by decide +kernel⟩, List.mem_of_getElem? (i := 408) (by decide +kernel), List.mem_of_getElem? (i := 507) (by decide +kernel), List.mem_of_getElem? (i := 508) (by decide +kernel)⟩
theorem lw_p21 : lw_okq (⟨"CeilingRowsModel", "acts", "(III)I"⟩, 22) := ⟨⟨by decide +kernel, by decide +kernel⟩, List.mem_of_getElem? (i := 408) (by decide +kernel), List.mem_of_getElem? (i := 516) (by decide +kernel), List.mem_of_getElem? (i := 517) (by decide +kernel)⟩
theorem lw_p22 : lw_okq (⟨"CeilingRowsModel", "ready", "(I)V"⟩, 22) := ⟨⟨by decide +kernel, by decide +kernel⟩, List.mem_of_getElem? (i := 408) (by decide +kernel), List.mem_of_getElem? (i := 520) (by decide +kernel), List.mem_of_getElem? (i := 521) (by decide +kernel)⟩
theorem lw_p23 : lw_okq (⟨"CeilingRowsModel", "runs", "(I)Z"⟩, 22) := ⟨⟨by decide +kernel, by decide +kernel⟩, List.mem_of_getElem? (i := 408) (by decide +kernel), List.mem_of_getElem? (i := 524) (by decide +kernel), List.mem_of_getElem? (i := 525) (by decide +kernel)⟩
theorem lw_p24 : lw_okq (⟨"CeilingRowsModel", "running", "(I)I"⟩, 22) := ⟨⟨by decide +kernel, by decide +kernel⟩, List.mem_of_getElem? (i := 408) (by decide +kernel), List.mem_of_getElem? (i := 528) (by decide +kernel), List.mem_of_getElem? (i := 529) (by decide +kernel)⟩
theorem lw_p25 : lw_okq (⟨"CeilingRowsModel", "rankNow", "(I)I"⟩, 22) := ⟨⟨by decide +kernel, by decide +kernel⟩, List.mem_of_getElem? (i := 408) (by decide +kernel), List.mem_of_getElem? (i := 532) (by decide +kernel), List.mem_of_getElem? (i := 533) (by decide +kernel)⟩
theorem lw_p26 : lw_okq (⟨"CeilingRowsModel", "last", "(I)I"⟩, 22) := ⟨⟨by decide +kernel, by decide +kernel⟩, List.mem_of_getElem? (i := 408) (by decide +kernel), List.mem_of_getElem? (i := 536) (by decide +kernel), List.mem_of_getElem? (i := 537) (by decide +kernel)⟩
theorem lw_p27 : lw_okq (⟨"CeilingRowsModel", "mayKeep", "(III)Z"⟩, 22) := ⟨⟨by decide +kernel, by decide +kernel⟩, List.mem_of_getElem? (i := 408) (by decide +kernel), List.mem_of_getElem? (i := 553) (by decide +kernel), List.mem_of_getElem? (i := 554) (by decide +kernel)⟩
theorem lw_p28 : lw_okq (⟨"CeilingRowsModel", "have", "(II)V"⟩, 22) := ⟨⟨by decide +kernel, by decide +kernel⟩, List.mem_of_getElem? (i := 408) (by decide +kernel), List.mem_of_getElem? (i := 565) (by decide +kernel), List.mem_of_getElem? (i := 566) (by decide +kernel)⟩
theorem lw_p29 : lw_okq (⟨"CeilingRowsModel", "lastLock", "(I)I"⟩, 22) := ⟨⟨by decide +kernel, by decide +kernel⟩, List.mem_of_getElem? (i := 408) (by decide +kernel), List.mem_of_getElem? (i := 569) (by decide +kernel), List.mem_of_getElem? (i := 570) (by decide +kernel)⟩
theorem lw_p30 : lw_okq (⟨"CeilingRowsModel", "trialRuns", "(I)I"⟩, 22) := ⟨⟨by decide +kernel, by decide +kernel⟩, List.mem_of_getElem? (i := 408) (by decide +kernel), List.mem_of_getElem? (i := 582) (by decide +kernel), List.mem_of_getElem? (i := 583) (by decide +kernel)⟩
theorem lw_p31 : lw_okq (⟨"CeilingRowsModel", "trialRank", "(I)I"⟩, 22) := ⟨⟨by decide +kernel, by decide +kernel⟩, List.mem_of_getElem? (i := 408) (by decide +kernel), List.mem_of_getElem? (i := 586) (by decide +kernel), List.mem_of_getElem? (i := 587) (by decide +kernel)⟩
def lw_privs_2 : List (MethodName × Nat) := [(⟨"CeilingRows$Trial", "ticksOf", "(I)I"⟩, 5), (⟨"CeilingRows$Trial", "countDelays", "(I)I"⟩, 5), (⟨"CeilingRowsModel", "isTask", "(I)Z"⟩, 22), (⟨"CeilingRowsModel", "isResource", "(I)Z"⟩, 22), (⟨"CeilingRowsModel", "ceilingOf", "(I)I"⟩, 22), (⟨"CeilingRowsModel", "acts", "(III)I"⟩, 22), (⟨"CeilingRowsModel", "ready", "(I)V"⟩, 22), (⟨"CeilingRowsModel", "runs", "(I)Z"⟩, 22), (⟨"CeilingRowsModel", "running", "(I)I"⟩, 22), (⟨"CeilingRowsModel", "rankNow", "(I)I"⟩, 22), (⟨"CeilingRowsModel", "last", "(I)I"⟩, 22), (⟨"CeilingRowsModel", "mayKeep", "(III)Z"⟩, 22), (⟨"CeilingRowsModel", "have", "(II)V"⟩, 22), (⟨"CeilingRowsModel", "lastLock", "(I)I"⟩, 22), (⟨"CeilingRowsModel", "trialRuns", "(I)I"⟩, 22), (⟨"CeilingRowsModel", "trialRank", "(I)I"⟩, 22)]
theorem lw_r2 : ∀ q ∈ lw_privs_2, lw_okq q := List.forall_mem_cons.mpr ⟨lw_p16, List.forall_mem_cons.mpr ⟨lw_p17, List.forall_mem_cons.mpr ⟨lw_p18, List.forall_mem_cons.mpr ⟨lw_p19, List.forall_mem_cons.mpr ⟨lw_p20, List.forall_mem_cons.mpr ⟨lw_p21, List.forall_mem_cons.mpr ⟨lw_p22, List.forall_mem_cons.mpr ⟨lw_p23, List.forall_mem_cons.mpr ⟨lw_p24, List.forall_mem_cons.mpr ⟨lw_p25, List.forall_mem_cons.mpr ⟨lw_p26, List.forall_mem_cons.mpr ⟨lw_p27, List.forall_mem_cons.mpr ⟨lw_p28, List.forall_mem_cons.mpr ⟨lw_p29, List.forall_mem_cons.mpr ⟨lw_p30, List.forall_mem_cons.mpr ⟨lw_p31, fun _ h => absurd h List.not_mem_nil⟩⟩⟩⟩⟩⟩⟩⟩⟩⟩⟩⟩⟩⟩⟩⟩
theorem lw_p32 : lw_okq (⟨"CeilingRowsModel", "tickOf", "(II)I"⟩, 22) := ⟨⟨by decide +kernel, by decide +kernel⟩, List.mem_of_getElem? (i := 408) (by decide +kernel), List.mem_of_getElem? (i := 590) (by decide +kernel), List.mem_of_getElem? (i := 591) (by decide +kernel)⟩
def lw_privs_3 : List (MethodName × Nat) := [(⟨"CeilingRowsModel", "tickOf", "(II)I"⟩, 22)]
theorem lw_r3 : ∀ q ∈ lw_privs_3, lw_okq q := List.forall_mem_cons.mpr ⟨lw_p32, fun _ h => absurd h List.not_mem_nil⟩
def lw_privs : List (MethodName × Nat) := lw_privs_1 ++ (lw_privs_2 ++ (lw_privs_3))
def lw_tbl : List Cond := k2_sels lw_privs ++ tables_1
theorem lw_privs_ok : ∀ q ∈ lw_privs, lw_okq q := by
  show ∀ q ∈ lw_privs_1 ++ (lw_privs_2 ++ (lw_privs_3)), lw_okq q
  exact List.forall_mem_append.mpr ⟨lw_r1, List.forall_mem_append.mpr ⟨lw_r2, lw_r3⟩⟩
/-! words by their places among the tables' words; what a call needs of them -/
def ng_tbl : List Cond := lw_tbl.filter goodWord
theorem ng_sub : ∀ w ∈ ng_tbl, w ∈ lw_tbl := fun _ h => (List.mem_filter.mp h).1
theorem ng_t {w : Cond} (i : Nat) (h : tables_1[i]? = some w) (hg : goodWord w = true) : w ∈ ng_tbl := List.mem_filter.mpr ⟨List.mem_append_right _ (List.mem_of_getElem? h), hg⟩
theorem ng_p {w : Cond} (i : Nat) (h : (k2_sels lw_privs)[i]? = some w) (hg : goodWord w = true) : w ∈ ng_tbl := List.mem_filter.mpr ⟨List.mem_append_left _ (List.mem_of_getElem? h), hg⟩
theorem ng_g : ∀ w ∈ ng_tbl, (w.onTables && w.keeps) = true ∨ ∃ ty, w = .arrayClass ty := fun _ h => good_of_word (List.mem_filter.mp h).2
theorem ng_pl {ws : List Cond} (ps : List Nat) (hp : ws = ps.filterMap (fun i => tables_1[i]?)) (hg : ws.all goodWord = true) : ∀ w ∈ ws, w ∈ ng_tbl := by
  intro w hw
  have h2 := List.all_eq_true.mp hg w hw
  rw [hp] at hw
  obtain ⟨i, -, hi⟩ := List.mem_filterMap.mp hw
  exact ng_t i hi h2
theorem ng_C {y : MethodName} {b : ByteArray} {n : Nat} {r : Option FieldType} (h5 : Cond.code y b n r ∈ ng_tbl) : GoodIn ng_tbl (Cond.code y b n r :: ng_tbl) := by
  intro w hw
  rcases List.mem_cons.mp hw with rfl | hw
  · exact ⟨h5, ng_g _ h5⟩
  · exact ⟨hw, ng_g _ hw⟩
theorem ng_V {own C : String} {idx : Nat} {y : MethodName} {b : ByteArray} {n : Nat} {r : Option FieldType} (h1 : Cond.methodLink own idx y ∈ ng_tbl) (h2 : Cond.instanceMethod y ∈ ng_tbl) (h3 : Cond.selects C y y ∈ ng_tbl) (h4 : Cond.initialized C ∈ ng_tbl) (h5 : Cond.code y b n r ∈ ng_tbl) : GoodIn ng_tbl (wsV own idx C y (Cond.code y b n r :: ng_tbl)) := by
  intro w hw
  rcases List.mem_append.mp hw with hw | hw
  · have hm : w ∈ ng_tbl := by
      rcases List.mem_cons.mp hw with rfl | hw
      · exact h1
      rcases List.mem_cons.mp hw with rfl | hw
      · exact h2
      rcases List.mem_cons.mp hw with rfl | hw
      · exact h3
      rcases List.mem_cons.mp hw with rfl | hw
      · exact h4
      exact absurd hw List.not_mem_nil
    exact ⟨hm, ng_g _ hm⟩
  · exact ng_C h5 w hw
theorem ng_S {own : String} {idx : Nat} {y : MethodName} {b : ByteArray} {n : Nat} {r : Option FieldType} (h1 : Cond.methodLink own idx y ∈ ng_tbl) (h2 : Cond.static y ∈ ng_tbl) (h4 : Cond.initialized y.cls ∈ ng_tbl) (h5 : Cond.code y b n r ∈ ng_tbl) : GoodIn ng_tbl (va_wsS own idx y (Cond.code y b n r :: ng_tbl)) := by
  intro w hw
  rcases List.mem_append.mp hw with hw | hw
  · have hm : w ∈ ng_tbl := by
      rcases List.mem_cons.mp hw with rfl | hw
      · exact h1
      rcases List.mem_cons.mp hw with rfl | hw
      · exact h2
      rcases List.mem_cons.mp hw with rfl | hw
      · exact h4
      exact absurd hw List.not_mem_nil
    exact ⟨hm, ng_g _ hm⟩
  · exact ng_C h5 w hw
def nf_Plan : u_T := fun k => match k with
  | 0 => ("CeilingRows$Plan", "taskCount", "I", false)
  | 1 => ("CeilingRows$Plan", "resourceCount", "I", false)
  | 2 => ("CeilingRows$Plan", "rankOf", "[I", true)
  | 3 => ("CeilingRows$Plan", "coreOf", "[I", true)
  | 4 => ("CeilingRows$Plan", "ceilingOf", "[I", true)
  | 5 => ("CeilingRows$Plan", "userCoreOf", "[I", true)
  | _ => ("CeilingRows$Plan", "lengthOf", "[[I", true)
def nt_Plan : Nat → FieldType := fun k => match k with
  | 0 => .int
  | 1 => .int
  | 2 => (.array .int)
  | 3 => (.array .int)
  | 4 => (.array .int)
  | 5 => (.array .int)
  | _ => (.array (.array .int))
theorem nno_Plan : ∀ a, a < 7 → ∀ b, b < 7 → a ≠ b → (nf_Plan a).2.1 ≠ (nf_Plan b).2.1 := by decide +kernel
theorem nto_Plan : ∀ k, k < 7 → parseFieldDescriptor (nf_Plan k).2.2.1 = some (nt_Plan k) := by decide +kernel
set_option maxRecDepth 20000 in
theorem nin_Plan : ∀ w ∈ u_ws "CeilingRows$Plan" nf_Plan 7, w ∈ ng_tbl := ng_pl [45, 47, 49, 51, 53, 55, 57] (by decide +kernel) (by decide +kernel)
def nf_Board : u_T := fun k => match k with
  | 0 => ("CeilingRows$Board", "plan", "LCeilingRows$Plan;", true)
  | 1 => ("CeilingRows$Board", "stateOf", "[I", true)
  | 2 => ("CeilingRows$Board", "readyOrderOf", "[I", true)
  | 3 => ("CeilingRows$Board", "readyOrder", "I", false)
  | 4 => ("CeilingRows$Board", "lastTakenBy", "[I", true)
  | 5 => ("CeilingRows$Board", "holderOf", "[I", true)
  | _ => ("CeilingRows$Board", "takenBefore", "[I", true)
def nt_Board : Nat → FieldType := fun k => match k with
  | 0 => (.object "CeilingRows$Plan")
  | 1 => (.array .int)
  | 2 => (.array .int)
  | 3 => .int
  | 4 => (.array .int)
  | 5 => (.array .int)
  | _ => (.array .int)
theorem nno_Board : ∀ a, a < 7 → ∀ b, b < 7 → a ≠ b → (nf_Board a).2.1 ≠ (nf_Board b).2.1 := by decide +kernel
theorem nto_Board : ∀ k, k < 7 → parseFieldDescriptor (nf_Board k).2.2.1 = some (nt_Board k) := by decide +kernel
set_option maxRecDepth 20000 in
theorem nin_Board : ∀ w ∈ u_ws "CeilingRows$Board" nf_Board 7, w ∈ ng_tbl := ng_pl [79, 81, 83, 85, 87, 89, 91] (by decide +kernel) (by decide +kernel)
def nf_Locks : u_T := fun k => match k with
  | 0 => ("CeilingRows$Locks", "ownerOf", "[I", true)
  | 1 => ("CeilingRows$Locks", "wantedBy", "[I", true)
  | 2 => ("CeilingRows$Locks", "spinOrderOf", "[I", true)
  | _ => ("CeilingRows$Locks", "spinOrder", "I", false)
def nt_Locks : Nat → FieldType := fun k => match k with
  | 0 => (.array .int)
  | 1 => (.array .int)
  | 2 => (.array .int)
  | _ => .int
theorem nno_Locks : ∀ a, a < 4 → ∀ b, b < 4 → a ≠ b → (nf_Locks a).2.1 ≠ (nf_Locks b).2.1 := by decide +kernel
theorem nto_Locks : ∀ k, k < 4 → parseFieldDescriptor (nf_Locks k).2.2.1 = some (nt_Locks k) := by decide +kernel
set_option maxRecDepth 20000 in
theorem nin_Locks : ∀ w ∈ u_ws "CeilingRows$Locks" nf_Locks 4, w ∈ ng_tbl := ng_pl [104, 106, 108, 110] (by decide +kernel) (by decide +kernel)
def nf_Trial : u_T := fun k => match k with
  | 0 => ("CeilingRows$Trial", "plan", "LCeilingRows$Plan;", true)
  | 1 => ("CeilingRows$Trial", "board", "LCeilingRows$Board;", true)
  | 2 => ("CeilingRows$Trial", "ticksHad", "[I", true)
  | 3 => ("CeilingRows$Trial", "delays", "[[I", true)
  | _ => ("CeilingRows$Trial", "endedCount", "I", false)
def nt_Trial : Nat → FieldType := fun k => match k with
  | 0 => (.object "CeilingRows$Plan")
  | 1 => (.object "CeilingRows$Board")
  | 2 => (.array .int)
  | 3 => (.array (.array .int))
  | _ => .int
theorem nno_Trial : ∀ a, a < 5 → ∀ b, b < 5 → a ≠ b → (nf_Trial a).2.1 ≠ (nf_Trial b).2.1 := by decide +kernel
theorem nto_Trial : ∀ k, k < 5 → parseFieldDescriptor (nf_Trial k).2.2.1 = some (nt_Trial k) := by decide +kernel
set_option maxRecDepth 20000 in
theorem nin_Trial : ∀ w ∈ u_ws "CeilingRows$Trial" nf_Trial 5, w ∈ ng_tbl := ng_pl [127, 129, 131, 133, 135] (by decide +kernel) (by decide +kernel)
def nf_Main : u_T := fun k => match k with
  | 0 => ("CeilingRows", "plan", "LCeilingRows$Plan;", true)
  | 1 => ("CeilingRows", "board", "LCeilingRows$Board;", true)
  | 2 => ("CeilingRows", "locks", "LCeilingRows$Locks;", true)
  | 3 => ("CeilingRows", "trial", "LCeilingRows$Trial;", true)
  | 4 => ("CeilingRows", "eventKept", "[Z", true)
  | _ => ("CeilingRows", "latestTime", "J", false)
def nt_Main : Nat → FieldType := fun k => match k with
  | 0 => (.object "CeilingRows$Plan")
  | 1 => (.object "CeilingRows$Board")
  | 2 => (.object "CeilingRows$Locks")
  | 3 => (.object "CeilingRows$Trial")
  | 4 => (.array .boolean)
  | _ => .long
theorem nno_Main : ∀ a, a < 6 → ∀ b, b < 6 → a ≠ b → (nf_Main a).2.1 ≠ (nf_Main b).2.1 := by decide +kernel
theorem nto_Main : ∀ k, k < 6 → parseFieldDescriptor (nf_Main k).2.2.1 = some (nt_Main k) := by decide +kernel
set_option maxRecDepth 20000 in
theorem nin_Main : ∀ w ∈ u_ws "CeilingRows" nf_Main 6, w ∈ ng_tbl := ng_pl [144, 146, 148, 150, 152, 154] (by decide +kernel) (by decide +kernel)
def nf_Ref : u_T := fun k => match k with
  | 0 => ("CeilingRowsModel", "tasks", "I", false)
  | 1 => ("CeilingRowsModel", "rank", "[I", true)
  | 2 => ("CeilingRowsModel", "core", "[I", true)
  | 3 => ("CeilingRowsModel", "state", "[I", true)
  | 4 => ("CeilingRowsModel", "since", "[I", true)
  | 5 => ("CeilingRowsModel", "readies", "I", false)
  | 6 => ("CeilingRowsModel", "kept", "[Z", true)
  | 7 => ("CeilingRowsModel", "resources", "I", false)
  | 8 => ("CeilingRowsModel", "length", "[J", true)
  | 9 => ("CeilingRowsModel", "holder", "[I", true)
  | 10 => ("CeilingRowsModel", "nth", "[I", true)
  | 11 => ("CeilingRowsModel", "latest", "J", false)
  | 12 => ("CeilingRowsModel", "lockOf", "[I", true)
  | 13 => ("CeilingRowsModel", "lockNth", "[I", true)
  | 14 => ("CeilingRowsModel", "spins", "[I", true)
  | 15 => ("CeilingRowsModel", "spinSince", "[I", true)
  | 16 => ("CeilingRowsModel", "locks", "I", false)
  | 17 => ("CeilingRowsModel", "trialState", "[I", true)
  | 18 => ("CeilingRowsModel", "trialSince", "[I", true)
  | 19 => ("CeilingRowsModel", "done", "[I", true)
  | 20 => ("CeilingRowsModel", "held", "[I", true)
  | _ => ("CeilingRowsModel", "met", "[Z", true)
def nt_Ref : Nat → FieldType := fun k => match k with
  | 0 => .int
  | 1 => (.array .int)
  | 2 => (.array .int)
  | 3 => (.array .int)
  | 4 => (.array .int)
  | 5 => .int
  | 6 => (.array .boolean)
  | 7 => .int
  | 8 => (.array .long)
  | 9 => (.array .int)
  | 10 => (.array .int)
  | 11 => .long
  | 12 => (.array .int)
  | 13 => (.array .int)
  | 14 => (.array .int)
  | 15 => (.array .int)
  | 16 => .int
  | 17 => (.array .int)
  | 18 => (.array .int)
  | 19 => (.array .int)
  | 20 => (.array .int)
  | _ => (.array .boolean)
theorem nno_Ref : ∀ a, a < 22 → ∀ b, b < 22 → a ≠ b → (nf_Ref a).2.1 ≠ (nf_Ref b).2.1 := by decide +kernel
theorem nto_Ref : ∀ k, k < 22 → parseFieldDescriptor (nf_Ref k).2.2.1 = some (nt_Ref k) := by decide +kernel
set_option maxRecDepth 20000 in
theorem nin_Ref : ∀ w ∈ u_ws "CeilingRowsModel" nf_Ref 22, w ∈ ng_tbl := ng_pl [435, 437, 439, 441, 443, 445, 447, 449, 451, 453, 455, 457, 459, 461, 463, 465, 467, 469, 471, 473, 475, 477] (by decide +kernel) (by decide +kernel)
abbrev vwCl : List vw_C := [("CeilingRows$Plan", nf_Plan, 7), ("CeilingRows$Board", nf_Board, 7), ("CeilingRows$Locks", nf_Locks, 4), ("CeilingRows$Trial", nf_Trial, 5), ("CeilingRows", nf_Main, 6), ("CeilingRowsModel", nf_Ref, 22)]
def ny_Main_init : MethodName := ⟨"CeilingRows", "<init>", "()V"⟩
def nw_Main_init : List Cond := .code ny_Main_init prog_1_method_1_code 1 none :: ng_tbl
def ny_Plan_init : MethodName := ⟨"CeilingRows$Plan", "<init>", "()V"⟩
def nw_Plan_init : List Cond := .code ny_Plan_init prog_4_method_1_code 1 none :: ng_tbl
def ny_Board_init : MethodName := ⟨"CeilingRows$Board", "<init>", "(LCeilingRows$Plan;)V"⟩
def nw_Board_init : List Cond := .code ny_Board_init prog_2_method_1_code 2 none :: ng_tbl
def ny_Locks_init : MethodName := ⟨"CeilingRows$Locks", "<init>", "()V"⟩
def nw_Locks_init : List Cond := .code ny_Locks_init prog_3_method_1_code 1 none :: ng_tbl
def ny_Trial_init : MethodName := ⟨"CeilingRows$Trial", "<init>", "(LCeilingRows$Plan;)V"⟩
def nw_Trial_init : List Cond := .code ny_Trial_init prog_5_method_1_code 2 none :: ng_tbl
def ny_Main_task : MethodName := ⟨"CeilingRows", "task", "(II)I"⟩
def nw_Main_task : List Cond := .code ny_Main_task prog_1_method_2_code 3 (some .int) :: ng_tbl
def ny_Main_isCore : MethodName := ⟨"CeilingRows", "isCore", "(I)Z"⟩
def nw_Main_isCore : List Cond := .code ny_Main_isCore prog_1_method_14_code 1 (some .boolean) :: ng_tbl
def ny_Plan_addTask : MethodName := ⟨"CeilingRows$Plan", "addTask", "(II)I"⟩
def nw_Plan_addTask : List Cond := .code ny_Plan_addTask prog_4_method_4_code 3 (some .int) :: ng_tbl
def ny_Main_resource : MethodName := ⟨"CeilingRows", "resource", "()I"⟩
def nw_Main_resource : List Cond := .code ny_Main_resource prog_1_method_3_code 1 (some .int) :: ng_tbl
def ny_Plan_addResource : MethodName := ⟨"CeilingRows$Plan", "addResource", "()I"⟩
def nw_Plan_addResource : List Cond := .code ny_Plan_addResource prog_4_method_5_code 1 (some .int) :: ng_tbl
def ny_Main_uses : MethodName := ⟨"CeilingRows", "uses", "(IIJ)I"⟩
def nw_Main_uses : List Cond := .code ny_Main_uses prog_1_method_4_code 7 (some .int) :: ng_tbl
def ny_Plan_hasTask : MethodName := ⟨"CeilingRows$Plan", "hasTask", "(I)Z"⟩
def nw_Plan_hasTask : List Cond := .code ny_Plan_hasTask prog_4_method_2_code 2 (some .boolean) :: ng_tbl
def ny_Plan_hasResource : MethodName := ⟨"CeilingRows$Plan", "hasResource", "(I)Z"⟩
def nw_Plan_hasResource : List Cond := .code ny_Plan_hasResource prog_4_method_3_code 2 (some .boolean) :: ng_tbl
def ny_Board_allSleepOn : MethodName := ⟨"CeilingRows$Board", "allSleepOn", "(I)Z"⟩
def nw_Board_allSleepOn : List Cond := .code ny_Board_allSleepOn prog_2_method_3_code 3 (some .boolean) :: ng_tbl
def ny_Plan_isUsedByAnotherCore : MethodName := ⟨"CeilingRows$Plan", "isUsedByAnotherCore", "(II)Z"⟩
def nw_Plan_isUsedByAnotherCore : List Cond := .code ny_Plan_isUsedByAnotherCore prog_4_method_7_code 3 (some .boolean) :: ng_tbl
def ny_Plan_isUsedBy : MethodName := ⟨"CeilingRows$Plan", "isUsedBy", "(II)Z"⟩
def nw_Plan_isUsedBy : List Cond := .code ny_Plan_isUsedBy prog_4_method_6_code 3 (some .boolean) :: ng_tbl
def ny_Plan_setUse : MethodName := ⟨"CeilingRows$Plan", "setUse", "(III)V"⟩
def nw_Plan_setUse : List Cond := .code ny_Plan_setUse prog_4_method_8_code 4 none :: ng_tbl
def ny_Main_ceiling : MethodName := ⟨"CeilingRows", "ceiling", "(I)I"⟩
def nw_Main_ceiling : List Cond := .code ny_Main_ceiling prog_1_method_5_code 2 (some .int) :: ng_tbl
def ny_Main_step : MethodName := ⟨"CeilingRows", "step", "(IIIJ)I"⟩
def nw_Main_step : List Cond := .code ny_Main_step prog_1_method_6_code 8 (some .int) :: ng_tbl
def ny_Main_perform : MethodName := ⟨"CeilingRows", "perform", "(III)I"⟩
def nw_Main_perform : List Cond := .code ny_Main_perform prog_1_method_16_code 4 (some .int) :: ng_tbl
def ny_Main_startTask : MethodName := ⟨"CeilingRows", "startTask", "(I)I"⟩
def nw_Main_startTask : List Cond := .code ny_Main_startTask prog_1_method_17_code 2 (some .int) :: ng_tbl
def ny_Board_makeReady : MethodName := ⟨"CeilingRows$Board", "makeReady", "(I)V"⟩
def nw_Board_makeReady : List Cond := .code ny_Board_makeReady prog_2_method_4_code 2 none :: ng_tbl
def ny_Main_runs : MethodName := ⟨"CeilingRows", "runs", "(I)Z"⟩
def nw_Main_runs : List Cond := .code ny_Main_runs prog_1_method_15_code 3 (some .boolean) :: ng_tbl
def ny_Locks_spins : MethodName := ⟨"CeilingRows$Locks", "spins", "(I)Z"⟩
def nw_Locks_spins : List Cond := .code ny_Locks_spins prog_3_method_2_code 2 (some .boolean) :: ng_tbl
def ny_Board_firstOn : MethodName := ⟨"CeilingRows$Board", "firstOn", "(I)I"⟩
def nw_Board_firstOn : List Cond := .code ny_Board_firstOn prog_2_method_7_code 7 (some .int) :: ng_tbl
def ny_Board_rankNow : MethodName := ⟨"CeilingRows$Board", "rankNow", "(I)I"⟩
def nw_Board_rankNow : List Cond := .code ny_Board_rankNow prog_2_method_6_code 4 (some .int) :: ng_tbl
def ny_Main_sendEvent : MethodName := ⟨"CeilingRows", "sendEvent", "(I)I"⟩
def nw_Main_sendEvent : List Cond := .code ny_Main_sendEvent prog_1_method_18_code 2 (some .int) :: ng_tbl
def ny_Main_takeResource : MethodName := ⟨"CeilingRows", "takeResource", "(II)I"⟩
def nw_Main_takeResource : List Cond := .code ny_Main_takeResource prog_1_method_19_code 3 (some .int) :: ng_tbl
def ny_Board_take : MethodName := ⟨"CeilingRows$Board", "take", "(II)V"⟩
def nw_Board_take : List Cond := .code ny_Board_take prog_2_method_8_code 3 none :: ng_tbl
def ny_Main_giveBackResource : MethodName := ⟨"CeilingRows", "giveBackResource", "(II)I"⟩
def nw_Main_giveBackResource : List Cond := .code ny_Main_giveBackResource prog_1_method_20_code 3 (some .int) :: ng_tbl
def ny_Board_giveBackLast : MethodName := ⟨"CeilingRows$Board", "giveBackLast", "(I)V"⟩
def nw_Board_giveBackLast : List Cond := .code ny_Board_giveBackLast prog_2_method_9_code 3 none :: ng_tbl
def ny_Main_endTask : MethodName := ⟨"CeilingRows", "endTask", "(I)I"⟩
def nw_Main_endTask : List Cond := .code ny_Main_endTask prog_1_method_21_code 3 (some .int) :: ng_tbl
def ny_Board_holdsAny : MethodName := ⟨"CeilingRows$Board", "holdsAny", "(I)Z"⟩
def nw_Board_holdsAny : List Cond := .code ny_Board_holdsAny prog_2_method_5_code 2 (some .boolean) :: ng_tbl
def ny_Board_putToSleep : MethodName := ⟨"CeilingRows$Board", "putToSleep", "(I)V"⟩
def nw_Board_putToSleep : List Cond := .code ny_Board_putToSleep prog_2_method_10_code 3 none :: ng_tbl
def ny_Main_waitForEvent : MethodName := ⟨"CeilingRows", "waitForEvent", "(I)I"⟩
def nw_Main_waitForEvent : List Cond := .code ny_Main_waitForEvent prog_1_method_22_code 2 (some .int) :: ng_tbl
def ny_Main_rank : MethodName := ⟨"CeilingRows", "rank", "(I)I"⟩
def nw_Main_rank : List Cond := .code ny_Main_rank prog_1_method_7_code 2 (some .int) :: ng_tbl
def ny_Main_holder : MethodName := ⟨"CeilingRows", "holder", "(I)I"⟩
def nw_Main_holder : List Cond := .code ny_Main_holder prog_1_method_8_code 2 (some .int) :: ng_tbl
def ny_Main_blocking : MethodName := ⟨"CeilingRows", "blocking", "(I)J"⟩
def nw_Main_blocking : List Cond := .code ny_Main_blocking prog_1_method_9_code 4 (some .long) :: ng_tbl
def ny_Plan_longestDelay : MethodName := ⟨"CeilingRows$Plan", "longestDelay", "(II)I"⟩
def nw_Plan_longestDelay : List Cond := .code ny_Plan_longestDelay prog_4_method_10_code 5 (some .int) :: ng_tbl
def ny_Plan_isBelow : MethodName := ⟨"CeilingRows$Plan", "isBelow", "(II)Z"⟩
def nw_Plan_isBelow : List Cond := .code ny_Plan_isBelow prog_4_method_9_code 3 (some .boolean) :: ng_tbl
def ny_Main_lock : MethodName := ⟨"CeilingRows", "lock", "(II)I"⟩
def nw_Main_lock : List Cond := .code ny_Main_lock prog_1_method_10_code 3 (some .int) :: ng_tbl
def ny_Locks_acquire : MethodName := ⟨"CeilingRows$Locks", "acquire", "(II)I"⟩
def nw_Locks_acquire : List Cond := .code ny_Locks_acquire prog_3_method_4_code 3 (some .int) :: ng_tbl
def ny_Locks_lastTakenBy : MethodName := ⟨"CeilingRows$Locks", "lastTakenBy", "(I)I"⟩
def nw_Locks_lastTakenBy : List Cond := .code ny_Locks_lastTakenBy prog_3_method_3_code 3 (some .int) :: ng_tbl
def ny_Locks_release : MethodName := ⟨"CeilingRows$Locks", "release", "(II)I"⟩
def nw_Locks_release : List Cond := .code ny_Locks_release prog_3_method_5_code 4 (some .int) :: ng_tbl
def ny_Locks_longestSpinnerFor : MethodName := ⟨"CeilingRows$Locks", "longestSpinnerFor", "(I)I"⟩
def nw_Locks_longestSpinnerFor : List Cond := .code ny_Locks_longestSpinnerFor prog_3_method_6_code 5 (some .int) :: ng_tbl
def ny_Main_ring : MethodName := ⟨"CeilingRows", "ring", "()Z"⟩
def nw_Main_ring : List Cond := .code ny_Main_ring prog_1_method_11_code 2 (some .boolean) :: ng_tbl
def ny_Locks_waitsForItself : MethodName := ⟨"CeilingRows$Locks", "waitsForItself", "(I)Z"⟩
def nw_Locks_waitsForItself : List Cond := .code ny_Locks_waitsForItself prog_3_method_7_code 4 (some .boolean) :: ng_tbl
def ny_Main_lower : MethodName := ⟨"CeilingRows", "lower", "(II)I"⟩
def nw_Main_lower : List Cond := .code ny_Main_lower prog_1_method_12_code 5 (some .int) :: ng_tbl
def ny_Main_plain : MethodName := ⟨"CeilingRows", "plain", "(J)I"⟩
def nw_Main_plain : List Cond := .code ny_Main_plain prog_1_method_13_code 3 (some .int) :: ng_tbl
def ny_Trial_mostDelays : MethodName := ⟨"CeilingRows$Trial", "mostDelays", "(J)I"⟩
def nw_Trial_mostDelays : List Cond := .code ny_Trial_mostDelays prog_5_method_2_code 6 (some .int) :: ng_tbl
def ny_Trial_clear : MethodName := ⟨"CeilingRows$Trial", "clear", "()V"⟩
def nw_Trial_clear : List Cond := .code ny_Trial_clear prog_5_method_3_code 2 none :: ng_tbl
def ny_Board_clear : MethodName := ⟨"CeilingRows$Board", "clear", "()V"⟩
def nw_Board_clear : List Cond := .code ny_Board_clear prog_2_method_2_code 1 none :: ng_tbl
def ny_Arrays_fill : MethodName := ⟨"java/util/Arrays", "fill", "([II)V"⟩
def nw_Arrays_fill : List Cond := .code ny_Arrays_fill prog_10_method_103_code 4 none :: ng_tbl
def ny_Trial_startThoseDue : MethodName := ⟨"CeilingRows$Trial", "startThoseDue", "(JI)V"⟩
def nw_Trial_startThoseDue : List Cond := .code ny_Trial_startThoseDue prog_5_method_4_code 7 none :: ng_tbl
def ny_Trial_haveTick : MethodName := ⟨"CeilingRows$Trial", "haveTick", "(I)V"⟩
def nw_Trial_haveTick : List Cond := .code ny_Trial_haveTick prog_5_method_5_code 3 none :: ng_tbl
def ny_Trial_resourceAt : MethodName := ⟨"CeilingRows$Trial", "resourceAt", "(II)I"⟩
def nw_Trial_resourceAt : List Cond := .code ny_Trial_resourceAt prog_5_method_10_code 6 (some .int) :: ng_tbl
def ny_Trial_ticksWith : MethodName := ⟨"CeilingRows$Trial", "ticksWith", "(II)I"⟩
def nw_Trial_ticksWith : List Cond := .code ny_Trial_ticksWith prog_5_method_8_code 3 (some .int) :: ng_tbl
def ny_Trial_noteDelays : MethodName := ⟨"CeilingRows$Trial", "noteDelays", "(II)V"⟩
def nw_Trial_noteDelays : List Cond := .code ny_Trial_noteDelays prog_5_method_6_code 4 none :: ng_tbl
def ny_Trial_ticksOf : MethodName := ⟨"CeilingRows$Trial", "ticksOf", "(I)I"⟩
def nw_Trial_ticksOf : List Cond := .code ny_Trial_ticksOf prog_5_method_9_code 4 (some .int) :: ng_tbl
def ny_Trial_countDelays : MethodName := ⟨"CeilingRows$Trial", "countDelays", "(I)I"⟩
def nw_Trial_countDelays : List Cond := .code ny_Trial_countDelays prog_5_method_7_code 4 (some .int) :: ng_tbl
def ny_Integer_bitCount : MethodName := ⟨"java/lang/Integer", "bitCount", "(I)I"⟩
def nw_Integer_bitCount : List Cond := .code ny_Integer_bitCount prog_8_method_49_code 1 (some .int) :: ng_tbl
def ny_Ref_init : MethodName := ⟨"CeilingRowsModel", "<init>", "()V"⟩
def nw_Ref_init : List Cond := .code ny_Ref_init prog_7_method_1_code 1 none :: ng_tbl
def ny_Ref_task : MethodName := ⟨"CeilingRowsModel", "task", "(II)I"⟩
def nw_Ref_task : List Cond := .code ny_Ref_task prog_7_method_4_code 3 (some .int) :: ng_tbl
def ny_Ref_resource : MethodName := ⟨"CeilingRowsModel", "resource", "()I"⟩
def nw_Ref_resource : List Cond := .code ny_Ref_resource prog_7_method_5_code 1 (some .int) :: ng_tbl
def ny_Ref_uses : MethodName := ⟨"CeilingRowsModel", "uses", "(IIJ)I"⟩
def nw_Ref_uses : List Cond := .code ny_Ref_uses prog_7_method_6_code 6 (some .int) :: ng_tbl
def ny_Ref_isTask : MethodName := ⟨"CeilingRowsModel", "isTask", "(I)Z"⟩
def nw_Ref_isTask : List Cond := .code ny_Ref_isTask prog_7_method_2_code 2 (some .boolean) :: ng_tbl
def ny_Ref_isResource : MethodName := ⟨"CeilingRowsModel", "isResource", "(I)Z"⟩
def nw_Ref_isResource : List Cond := .code ny_Ref_isResource prog_7_method_3_code 2 (some .boolean) :: ng_tbl
def ny_Ref_ceiling : MethodName := ⟨"CeilingRowsModel", "ceiling", "(I)I"⟩
def nw_Ref_ceiling : List Cond := .code ny_Ref_ceiling prog_7_method_8_code 2 (some .int) :: ng_tbl
def ny_Ref_ceilingOf : MethodName := ⟨"CeilingRowsModel", "ceilingOf", "(I)I"⟩
def nw_Ref_ceilingOf : List Cond := .code ny_Ref_ceilingOf prog_7_method_7_code 4 (some .int) :: ng_tbl
def ny_Ref_step : MethodName := ⟨"CeilingRowsModel", "step", "(IIIJ)I"⟩
def nw_Ref_step : List Cond := .code ny_Ref_step prog_7_method_15_code 7 (some .int) :: ng_tbl
def ny_Ref_acts : MethodName := ⟨"CeilingRowsModel", "acts", "(III)I"⟩
def nw_Ref_acts : List Cond := .code ny_Ref_acts prog_7_method_14_code 6 (some .int) :: ng_tbl
def ny_Ref_ready : MethodName := ⟨"CeilingRowsModel", "ready", "(I)V"⟩
def nw_Ref_ready : List Cond := .code ny_Ref_ready prog_7_method_12_code 2 none :: ng_tbl
def ny_Ref_runs : MethodName := ⟨"CeilingRowsModel", "runs", "(I)Z"⟩
def nw_Ref_runs : List Cond := .code ny_Ref_runs prog_7_method_11_code 2 (some .boolean) :: ng_tbl
def ny_Ref_running : MethodName := ⟨"CeilingRowsModel", "running", "(I)I"⟩
def nw_Ref_running : List Cond := .code ny_Ref_running prog_7_method_10_code 5 (some .int) :: ng_tbl
def ny_Ref_rankNow : MethodName := ⟨"CeilingRowsModel", "rankNow", "(I)I"⟩
def nw_Ref_rankNow : List Cond := .code ny_Ref_rankNow prog_7_method_9_code 4 (some .int) :: ng_tbl
def ny_Ref_last : MethodName := ⟨"CeilingRowsModel", "last", "(I)I"⟩
def nw_Ref_last : List Cond := .code ny_Ref_last prog_7_method_13_code 4 (some .int) :: ng_tbl
def ny_Ref_rank : MethodName := ⟨"CeilingRowsModel", "rank", "(I)I"⟩
def nw_Ref_rank : List Cond := .code ny_Ref_rank prog_7_method_16_code 2 (some .int) :: ng_tbl
def ny_Ref_holder : MethodName := ⟨"CeilingRowsModel", "holder", "(I)I"⟩
def nw_Ref_holder : List Cond := .code ny_Ref_holder prog_7_method_17_code 2 (some .int) :: ng_tbl
def ny_Ref_blocking : MethodName := ⟨"CeilingRowsModel", "blocking", "(I)J"⟩
def nw_Ref_blocking : List Cond := .code ny_Ref_blocking prog_7_method_19_code 6 (some .long) :: ng_tbl
def ny_Ref_mayKeep : MethodName := ⟨"CeilingRowsModel", "mayKeep", "(III)Z"⟩
def nw_Ref_mayKeep : List Cond := .code ny_Ref_mayKeep prog_7_method_18_code 4 (some .boolean) :: ng_tbl
def ny_Ref_lower : MethodName := ⟨"CeilingRowsModel", "lower", "(II)I"⟩
def nw_Ref_lower : List Cond := .code ny_Ref_lower prog_7_method_20_code 7 (some .int) :: ng_tbl
def ny_Ref_lock : MethodName := ⟨"CeilingRowsModel", "lock", "(II)I"⟩
def nw_Ref_lock : List Cond := .code ny_Ref_lock prog_7_method_23_code 5 (some .int) :: ng_tbl
def ny_Ref_have : MethodName := ⟨"CeilingRowsModel", "have", "(II)V"⟩
def nw_Ref_have : List Cond := .code ny_Ref_have prog_7_method_22_code 3 none :: ng_tbl
def ny_Ref_lastLock : MethodName := ⟨"CeilingRowsModel", "lastLock", "(I)I"⟩
def nw_Ref_lastLock : List Cond := .code ny_Ref_lastLock prog_7_method_21_code 4 (some .int) :: ng_tbl
def ny_Ref_ring : MethodName := ⟨"CeilingRowsModel", "ring", "()Z"⟩
def nw_Ref_ring : List Cond := .code ny_Ref_ring prog_7_method_24_code 5 (some .boolean) :: ng_tbl
def ny_Ref_plain : MethodName := ⟨"CeilingRowsModel", "plain", "(J)I"⟩
def nw_Ref_plain : List Cond := .code ny_Ref_plain prog_7_method_28_code 9 (some .int) :: ng_tbl
def ny_Ref_trialRuns : MethodName := ⟨"CeilingRowsModel", "trialRuns", "(I)I"⟩
def nw_Ref_trialRuns : List Cond := .code ny_Ref_trialRuns prog_7_method_27_code 5 (some .int) :: ng_tbl
def ny_Ref_trialRank : MethodName := ⟨"CeilingRowsModel", "trialRank", "(I)I"⟩
def nw_Ref_trialRank : List Cond := .code ny_Ref_trialRank prog_7_method_26_code 2 (some .int) :: ng_tbl
def ny_Ref_tickOf : MethodName := ⟨"CeilingRowsModel", "tickOf", "(II)I"⟩
def nw_Ref_tickOf : List Cond := .code ny_Ref_tickOf prog_7_method_25_code 6 (some .int) :: ng_tbl
end
section
/-! the pure side's words: a component's numbers (cell, place), stores, ranges -/
abbrev cr_S : Type := Nat → Nat → Int32
def cr_up (σ : cr_S) (k j : Nat) (x : Int32) : cr_S := fun k' => if k' = k then upd (σ k) j x else σ k'
theorem cr_lt {x y : Int32} (h : x < y) : x.toInt < y.toInt := Int32.lt_iff_toInt_lt.mp h
theorem cr_nlt {x y : Int32} (h : ¬ x < y) : y.toInt ≤ x.toInt := by
  rw [Int32.lt_iff_toInt_lt] at h; omega
theorem cr_le {x y : Int32} (h : x ≤ y) : x.toInt ≤ y.toInt := Int32.le_iff_toInt_le.mp h
theorem cr_nle {x y : Int32} (h : ¬ x ≤ y) : y.toInt < x.toInt := by
  rw [Int32.le_iff_toInt_le] at h; omega
theorem cr_eq {x y : Int32} (h : x = y) : x.toInt = y.toInt := by rw [h]
theorem cr_ne {x y : Int32} (h : ¬ x = y) : x.toInt ≠ y.toInt := fun e => h (Int32.toInt_inj.mp e)
theorem cr_nne {x y : Int32} (h : ¬ x ≠ y) : x.toInt = y.toInt := by
  rw [Decidable.not_not.mp h]
theorem cr_bmod {z : Int} (h : -2147483648 ≤ z ∧ z < 2147483648) : z.bmod (2 ^ 32) = z := by
  have : ((2 ^ 32 : Nat) : Int) = 4294967296 := by decide
  simp only [Int.bmod, this]
  split <;> omega
theorem cr_add {x y : Int32} (h : -2147483648 ≤ x.toInt + y.toInt ∧ x.toInt + y.toInt < 2147483648) : (x + y).toInt = x.toInt + y.toInt := by
  rw [Int32.toInt_add]; exact cr_bmod h
theorem cr_sub {x y : Int32} (h : -2147483648 ≤ x.toInt - y.toInt ∧ x.toInt - y.toInt < 2147483648) : (x - y).toInt = x.toInt - y.toInt := by
  rw [Int32.toInt_sub]; exact cr_bmod h
theorem cr_neg {x : Int32} (h : -2147483648 ≤ -x.toInt ∧ -x.toInt < 2147483648) : (-x).toInt = -x.toInt := by
  rw [Int32.toInt_neg]; exact cr_bmod h
theorem cr_ix {x : Int32} {n : Nat} (h : vp_in x n) : x.toNatClampNeg < n := Nat.not_le.mp fun q => h (Or.inr q)
def cr_rg (σ : cr_S) (k : Nat) (hi : Int) : Prop := ∀ j, 0 ≤ (σ k j).toInt ∧ (σ k j).toInt ≤ hi
def cr_rf (σ : cr_S) (k j : Nat) (hi : Int) : Prop := 0 ≤ (σ k j).toInt ∧ (σ k j).toInt ≤ hi
theorem cr_rg_up {σ : cr_S} {k k' j : Nat} {hi : Int} {x : Int32} (h : cr_rg σ k hi) (hx : k = k' → 0 ≤ x.toInt ∧ x.toInt ≤ hi) : cr_rg (cr_up σ k' j x) k hi := by
  intro i
  unfold cr_up
  by_cases e : k = k'
  · rw [if_pos e]
    unfold upd
    by_cases e2 : i = j
    · rw [if_pos e2]; exact hx e
    · rw [if_neg e2, ← e]; exact h i
  · rw [if_neg e]; exact h i
theorem cr_rf_up {σ : cr_S} {k k' i j : Nat} {hi : Int} {x : Int32} (h : cr_rf σ k i hi) (hx : k = k' → i = j → 0 ≤ x.toInt ∧ x.toInt ≤ hi) : cr_rf (cr_up σ k' j x) k i hi := by
  unfold cr_rf cr_up
  by_cases e : k = k'
  · rw [if_pos e]
    unfold upd
    by_cases e2 : i = j
    · rw [if_pos e2]; exact hx e e2
    · rw [if_neg e2, ← e]; exact h
  · rw [if_neg e]; exact h
/-- an array of rows: its n rows are the cells from o on -/
def cr_gr (a : Nat → Nat) (o n : Nat) : Nat → Option Nat := fun i => if i < n then some (a (o + i)) else none
theorem cr_getL {A B : va_W} {k : Nat} {q : Nat × va_E} (h : A[k]? = some q) : (A ++ B)[k]? = some q := by
  rw [List.getElem?_append_left (List.getElem?_eq_some_iff.mp h).1]; exact h
theorem cr_getR {A B : va_W} {o k : Nat} {q : Nat × va_E} (ho : A.length = o) (h : B[k]? = some q) : (A ++ B)[o + k]? = some q := by
  subst ho
  rw [List.getElem?_append_right (Nat.le_add_right _ _), Nat.add_sub_cancel_left]; exact h
theorem cr_setL {A A' B : va_W} {k : Nat} {q : Nat × va_E} (hk : k < A.length) (h : A.set k q = A') : (A ++ B).set k q = A' ++ B := by
  rw [List.set_append_left _ _ hk, h]
theorem cr_setR {A B B' : va_W} {o k : Nat} {q : Nat × va_E} (ho : A.length = o) (h : B.set k q = B') : (A ++ B).set (o + k) q = A ++ B' := by
  subst ho
  rw [List.set_append_right _ _ (Nat.le_add_right _ _), Nat.add_sub_cancel_left, h]
theorem cr_rfo {σ : cr_S} {k j : Nat} {hi : Int} (h : cr_rf σ k j hi) : 0 ≤ (σ k j).toInt ∧ (σ k j).toInt ≤ hi := h
theorem cr_rgo {σ : cr_S} {k : Nat} {hi : Int} (h : cr_rg σ k hi) (j : Nat) : 0 ≤ (σ k j).toInt ∧ (σ k j).toInt ≤ hi := h j
def cr_fl (f : Nat → Int32) (n : Nat) (x : Int32) : Nat → Int32 := fun j => if j < n then x else f j
def cr_fill (σ : cr_S) (k n : Nat) (x : Int32) : cr_S := fun k' => if k' = k then cr_fl (σ k) n x else σ k'
theorem cr_rg_fill {σ : cr_S} {k k' n : Nat} {hi : Int} {x : Int32} (h : cr_rg σ k hi) (hx : k = k' → 0 ≤ x.toInt ∧ x.toInt ≤ hi) : cr_rg (cr_fill σ k' n x) k hi := by
  intro i
  unfold cr_fill
  by_cases e : k = k'
  · rw [if_pos e]
    unfold cr_fl
    by_cases e2 : i < n
    · rw [if_pos e2]; exact hx e
    · rw [if_neg e2, ← e]; exact h i
  · rw [if_neg e]; exact h i
theorem cr_rf_fill {σ : cr_S} {k k' i n : Nat} {hi : Int} {x : Int32} (h : cr_rf σ k i hi) (hx : k = k' → i < n → 0 ≤ x.toInt ∧ x.toInt ≤ hi) : cr_rf (cr_fill σ k' n x) k i hi := by
  unfold cr_rf cr_fill
  by_cases e : k = k'
  · rw [if_pos e]
    unfold cr_fl
    by_cases e2 : i < n
    · rw [if_pos e2]; exact hx e e2
    · rw [if_neg e2, ← e]; exact h
  · rw [if_neg e]; exact h
def cr_max (x y : Int32) : Int32 := if x < y then y else x
def cr_min (x y : Int32) : Int32 := if y < x then y else x
theorem cr_max_t (x y : Int32) : (cr_max x y).toInt = x.toInt ∧ y.toInt ≤ x.toInt ∨ (cr_max x y).toInt = y.toInt ∧ x.toInt < y.toInt := by
  unfold cr_max
  by_cases h : x < y
  · rw [if_pos h]; exact Or.inr ⟨rfl, cr_lt h⟩
  · rw [if_neg h]; exact Or.inl ⟨rfl, cr_nlt h⟩
theorem cr_min_t (x y : Int32) : (cr_min x y).toInt = x.toInt ∧ x.toInt ≤ y.toInt ∨ (cr_min x y).toInt = y.toInt ∧ y.toInt < x.toInt := by
  unfold cr_min
  by_cases h : y < x
  · rw [if_pos h]; exact Or.inr ⟨rfl, cr_lt h⟩
  · rw [if_neg h]; exact Or.inl ⟨rfl, cr_nlt h⟩
/-! one cell given to a callee, and taken back -/
theorem cr_P1 {D : va_G} {cl : List vw_C} {ws : va_W} {H : Heap} {k : Nat} {q : Nat × va_E} (hP : va_P D cl ws H) (he : ws[k]? = some q) : va_P D cl [q] H := by
  intro i q' h
  have h0 : i < 1 := (List.getElem?_eq_some_iff.mp h).1
  rw [show i = 0 by omega] at h
  cases h
  exact hP k _ he
theorem cr_D1 {q : Nat × va_E} : va_D (fun _ => True) [q] := by
  refine ⟨fun i j p q h1 h2 _ => ?_, fun _ _ _ => trivial⟩
  have h3 := (List.getElem?_eq_some_iff.mp h1).1
  have h4 := (List.getElem?_eq_some_iff.mp h2).1
  simp only [List.length_cons, List.length_nil] at h3 h4
  omega
theorem cr_F1 {A0 : Nat → Prop} {ws : va_W} {H0 H : Heap} {locs : List Loc} {k : Nat} {q : Nat × va_E} (hD : va_D A0 ws) (hS : va_S A0 H0 H locs) (hA : ∀ q, H0.size ≤ q → A0 q) (he : ws[k]? = some q) : ∀ x, va_A [q] H.size x → A0 x :=
  va_free (wc := [q]) hD hS hA [k] (by rw [List.map_cons, he]; rfl)
theorem cr_Dw {A A0 : Nat → Prop} {ws : va_W} (h : va_D A ws) (hF : ∀ q, A q → A0 q) : va_D A0 ws := ⟨h.1, fun k q hk => hF _ (h.2 k q hk)⟩
theorem cr_join1 {A0 : Nat → Prop} {D : va_G} {cl : List vw_C} {ws : va_W} {H H1 : Heap} {k a : Nat} {e e' : va_E} (hP : va_P D cl ws H) (hD : va_D A0 ws) (he : ws[k]? = some (a, e))
    (hk : ∀ q : Nat, q < H.size → ¬ va_A [(a, e)] H.size q → H1[q]? = H[q]?) (hP1 : va_P D cl [(a, e')] H1) : va_P D cl (ws.set k (a, e')) H1 ∧ va_D A0 (ws.set k (a, e')) := by
  have hkl := (List.getElem?_eq_some_iff.mp he).1
  refine ⟨fun i q h => ?_, fun i j p q h1 h2 h3 => ?_, fun i q h => ?_⟩
  · by_cases hi : i = k
    · subst hi
      rw [List.getElem?_set_self hkl] at h
      cases h
      exact hP1 0 _ rfl
    · rw [List.getElem?_set_ne (Ne.symm hi)] at h
      have hq := hP i q h
      refine hq.kept (hk q.1 hq.lt ?_)
      rintro (⟨z, e9, h9⟩ | h9)
      · have h0 : z < 1 := (List.getElem?_eq_some_iff.mp h9).1
        rw [show z = 0 by omega] at h9
        have h8 : (a, e) = (q.1, e9) := Option.some.inj h9
        exact hi (hD.1 i k q (a, e) h he (by rw [Prod.mk.inj h8 |>.1]))
      · exact absurd hq.lt (by omega)
  · have g : ∀ (i : Nat) (p : Nat × va_E), (ws.set k (a, e'))[i]? = some p → ∃ p', ws[i]? = some p' ∧ p'.1 = p.1 := by
      intro i p h
      by_cases hi : i = k
      · subst hi
        rw [List.getElem?_set_self hkl] at h
        cases h
        exact ⟨_, he, rfl⟩
      · rw [List.getElem?_set_ne (Ne.symm hi)] at h
        exact ⟨p, h, rfl⟩
    obtain ⟨p', a1, a2⟩ := g i p h1
    obtain ⟨q', b1, b2⟩ := g j q h2
    exact hD.1 i j p' q' a1 b1 (by rw [a2, b2, h3])
  · by_cases hi : i = k
    · subst hi
      rw [List.getElem?_set_self hkl] at h
      cases h
      exact hD.2 i (a, e) he
    · rw [List.getElem?_set_ne (Ne.symm hi)] at h
      exact hD.2 i q h
section CRG
variable {p : Program} {l : Launch} {e : Env} {R : Room} {s : State} {m : MethodId} {args : Array Value} {below : List Frame} {meth : Method} {c : Code} {H : Heap} {locs : List Loc} {cells slots : Nat} {Q : State → Prop}
variable {cc : ByteArray} {pc : Nat} {ls : Array Slot} {rest : List Value} {D : va_G} {cl : List vw_C} {A : Nat → Prop} {a : Nat} {tys : List (ClassId × FieldType)} {ws : va_W} {H0 : Heap}
theorem ga_ald (hexec : p.tables.exec = Jvm.exec) (hb : c.code = cc) (hK : va_K D cl tys s) (hP : va_P D cl ws H) (q0 t0 : Nat) {cA : ClassId} {t : FieldType} {n o : Nat} {ar : Nat → Nat} (ha : ws[q0]? = some (a, .inl (cA, n, .inr (.inr (.inr (.inr (cr_gr ar o n))))))) (ht : tys[t0]? = some (cA, .array t)) {i : Int32} (hin : vp_in i n) (hlt : i.toNatClampNeg < n) (hdg : decode cc pc = .ok (.aaload, 1))
    (kk : W p l e R s m args below meth c H locs cells slots Q (F0 m (pc + 1) ls (.ref (ar (o + i.toNatClampNeg)) :: rest))) : W p l e R s m args below meth c H locs cells slots Q (F0 m pc ls (.int i :: .ref a :: rest)) := by
  have e : va_rf (cr_gr ar o n i.toNatClampNeg) = .ref (ar (o + i.toNatClampNeg)) := by
    unfold cr_gr
    rw [if_pos hlt]
    rfl
  exact W.aald (v := .ref (ar (o + i.toNatClampNeg))) (ty := .array t) hexec hb (hP q0 _ ha) ((hK.2 t0 _ ht).1 n (fun j => va_rf (cr_gr ar o n j))) rfl (fun q => by cases q) (by show ¬ (i < 0 ∨ (arrV _ _ _).slots.size ≤ _); rw [arrV_size]; exact hin) (by show (arrV _ _ _).slots[_]? = _; rw [arrV_read _ _ hlt, e]) rfl rfl hdg kk
end CRG
theorem cr_same {D : va_G} {cl : List vw_C} {tys : List (ClassId × FieldType)} {U : State} {c1 c2 : ClassId} {t : FieldType} {i j : Nat} (hK : va_K D cl tys U) (hi : tys[i]? = some (c1, t)) (hj : tys[j]? = some (c2, t)) (ht : (match t with | .object _ => false | _ => true) = true) : c2 = c1 := by
  have h1 := (hK.2 i _ hi).2
  have h2 := (hK.2 j _ hj).2
  cases t with
  | object C => simp at ht
  | _ => exact Option.some.inj (Eq.trans (Eq.symm h2) h1)
def cr_RPlan (σ : cr_S) : Prop := cr_rf σ 0 0 10 ∧ cr_rf σ 0 1 8 ∧ cr_rg σ 2 3
def cr_RBoard (σ : cr_S) : Prop := cr_rg σ 3 8 ∧ cr_rg σ 5 8
def cr_RLocks (σ : cr_S) : Prop := cr_rg σ 1 3 ∧ cr_rg σ 2 8
abbrev cw_Plan (cI cZ cO : ClassId) (a : Nat → Nat) (σ : cr_S) : va_W := [(a 0, .inr (0, [.int (σ 0 0), .int (σ 0 1), .ref (a 1), .ref (a 2), .ref (a 3), .ref (a 4), .ref (a 5)])), (a 1, .inl (cI, 11, .inl (σ 1))), (a 2, .inl (cI, 11, .inl (σ 2))), (a 3, .inl (cI, 9, .inl (σ 3))), (a 4, .inl (cI, 9, .inl (σ 4))), (a 5, .inl (cO, 11, .inr (.inr (.inr (.inr (cr_gr a 6 11)))))), (a 6, .inl (cI, 9, .inl (σ 6))), (a 7, .inl (cI, 9, .inl (σ 7))), (a 8, .inl (cI, 9, .inl (σ 8))), (a 9, .inl (cI, 9, .inl (σ 9))), (a 10, .inl (cI, 9, .inl (σ 10))), (a 11, .inl (cI, 9, .inl (σ 11))), (a 12, .inl (cI, 9, .inl (σ 12))), (a 13, .inl (cI, 9, .inl (σ 13))), (a 14, .inl (cI, 9, .inl (σ 14))), (a 15, .inl (cI, 9, .inl (σ 15))), (a 16, .inl (cI, 9, .inl (σ 16)))]
theorem cg_Plan_6 (cI cZ cO : ClassId) (a : Nat → Nat) (σ : cr_S) : ∀ (k : Nat), k < 11 → (cw_Plan cI cZ cO a σ)[6 + k]? = some (a (6 + k), .inl (cI, 9, .inl (σ (6 + k))))
  | 0, _ => rfl
  | 1, _ => rfl
  | 2, _ => rfl
  | 3, _ => rfl
  | 4, _ => rfl
  | 5, _ => rfl
  | 6, _ => rfl
  | 7, _ => rfl
  | 8, _ => rfl
  | 9, _ => rfl
  | 10, _ => rfl
  | k + 11, h => absurd h (by omega)
theorem cf_Plan_6 (cI cZ cO : ClassId) (a : Nat → Nat) (σ : cr_S) (x : Int32) : ∀ (k : Nat), k < 11 → (cw_Plan cI cZ cO a σ).set (6 + k) (a (6 + k), .inl (cI, 9, .inl (cr_fl (σ (6 + k)) 9 x))) = cw_Plan cI cZ cO a (cr_fill σ (6 + k) 9 x)
  | 0, _ => rfl
  | 1, _ => rfl
  | 2, _ => rfl
  | 3, _ => rfl
  | 4, _ => rfl
  | 5, _ => rfl
  | 6, _ => rfl
  | 7, _ => rfl
  | 8, _ => rfl
  | 9, _ => rfl
  | 10, _ => rfl
  | k + 11, h => absurd h (by omega)
theorem cs_Plan_6 (cI cZ cO : ClassId) (a : Nat → Nat) (σ : cr_S) (j : Nat) (x : Int32) : ∀ (k : Nat), k < 11 → (cw_Plan cI cZ cO a σ).set (6 + k) (a (6 + k), .inl (cI, 9, .inl (upd (σ (6 + k)) j x))) = cw_Plan cI cZ cO a (cr_up σ (6 + k) j x)
  | 0, _ => rfl
  | 1, _ => rfl
  | 2, _ => rfl
  | 3, _ => rfl
  | 4, _ => rfl
  | 5, _ => rfl
  | 6, _ => rfl
  | 7, _ => rfl
  | 8, _ => rfl
  | 9, _ => rfl
  | 10, _ => rfl
  | k + 11, h => absurd h (by omega)
abbrev cw_Board (cI cZ cO : ClassId) (a op : Nat → Nat) (σ : cr_S) : va_W := [(a 0, .inr (1, [.ref (op 0), .ref (a 1), .ref (a 2), .int (σ 0 0), .ref (a 3), .ref (a 4), .ref (a 5)])), (a 1, .inl (cI, 11, .inl (σ 1))), (a 2, .inl (cI, 11, .inl (σ 2))), (a 3, .inl (cI, 11, .inl (σ 3))), (a 4, .inl (cI, 9, .inl (σ 4))), (a 5, .inl (cI, 9, .inl (σ 5)))]
abbrev cw_Locks (cI cZ cO : ClassId) (a : Nat → Nat) (σ : cr_S) : va_W := [(a 0, .inr (2, [.ref (a 1), .ref (a 2), .ref (a 3), .int (σ 0 0)])), (a 1, .inl (cI, 9, .inl (σ 1))), (a 2, .inl (cI, 4, .inl (σ 2))), (a 3, .inl (cI, 4, .inl (σ 3)))]
abbrev cw_Trial (cI cZ cO : ClassId) (a op otb : Nat → Nat) (σ : cr_S) : va_W := [(a 0, .inr (3, [.ref (op 0), .ref (otb 0), .ref (a 1), .ref (a 2), .int (σ 0 0)])), (a 1, .inl (cI, 11, .inl (σ 1))), (a 2, .inl (cO, 11, .inr (.inr (.inr (.inr (cr_gr a 3 11)))))), (a 3, .inl (cI, 11, .inl (σ 3))), (a 4, .inl (cI, 11, .inl (σ 4))), (a 5, .inl (cI, 11, .inl (σ 5))), (a 6, .inl (cI, 11, .inl (σ 6))), (a 7, .inl (cI, 11, .inl (σ 7))), (a 8, .inl (cI, 11, .inl (σ 8))), (a 9, .inl (cI, 11, .inl (σ 9))), (a 10, .inl (cI, 11, .inl (σ 10))), (a 11, .inl (cI, 11, .inl (σ 11))), (a 12, .inl (cI, 11, .inl (σ 12))), (a 13, .inl (cI, 11, .inl (σ 13)))]
theorem cg_Trial_3 (cI cZ cO : ClassId) (a op otb : Nat → Nat) (σ : cr_S) : ∀ (k : Nat), k < 11 → (cw_Trial cI cZ cO a op otb σ)[3 + k]? = some (a (3 + k), .inl (cI, 11, .inl (σ (3 + k))))
  | 0, _ => rfl
  | 1, _ => rfl
  | 2, _ => rfl
  | 3, _ => rfl
  | 4, _ => rfl
  | 5, _ => rfl
  | 6, _ => rfl
  | 7, _ => rfl
  | 8, _ => rfl
  | 9, _ => rfl
  | 10, _ => rfl
  | k + 11, h => absurd h (by omega)
theorem cf_Trial_3 (cI cZ cO : ClassId) (a op otb : Nat → Nat) (σ : cr_S) (x : Int32) : ∀ (k : Nat), k < 11 → (cw_Trial cI cZ cO a op otb σ).set (3 + k) (a (3 + k), .inl (cI, 11, .inl (cr_fl (σ (3 + k)) 11 x))) = cw_Trial cI cZ cO a op otb (cr_fill σ (3 + k) 11 x)
  | 0, _ => rfl
  | 1, _ => rfl
  | 2, _ => rfl
  | 3, _ => rfl
  | 4, _ => rfl
  | 5, _ => rfl
  | 6, _ => rfl
  | 7, _ => rfl
  | 8, _ => rfl
  | 9, _ => rfl
  | 10, _ => rfl
  | k + 11, h => absurd h (by omega)
theorem cs_Trial_3 (cI cZ cO : ClassId) (a op otb : Nat → Nat) (σ : cr_S) (j : Nat) (x : Int32) : ∀ (k : Nat), k < 11 → (cw_Trial cI cZ cO a op otb σ).set (3 + k) (a (3 + k), .inl (cI, 11, .inl (upd (σ (3 + k)) j x))) = cw_Trial cI cZ cO a op otb (cr_up σ (3 + k) j x)
  | 0, _ => rfl
  | 1, _ => rfl
  | 2, _ => rfl
  | 3, _ => rfl
  | 4, _ => rfl
  | 5, _ => rfl
  | 6, _ => rfl
  | 7, _ => rfl
  | 8, _ => rfl
  | 9, _ => rfl
  | 10, _ => rfl
  | k + 11, h => absurd h (by omega)
abbrev cw_Main (cI cZ cO : ClassId) (a op ob ok ot : Nat → Nat) (σ : cr_S) (lt : Int64) : va_W := [(a 0, .inr (4, [.ref (op 0), .ref (ob 0), .ref (ok 0), .ref (ot 0), .ref (a 1), .long lt])), (a 1, .inl (cZ, 11, .inl (σ 1)))]
end
section
theorem tp_8 : Cond.selects "CeilingRows$Locks" (⟨"CeilingRows$Locks", "lastTakenBy", "(I)I"⟩ : MethodName) (⟨"CeilingRows$Locks", "lastTakenBy", "(I)I"⟩ : MethodName) ∈ ng_tbl := ng_p 8 rfl rfl
theorem tp_9 : Cond.selects "CeilingRows$Locks" (⟨"CeilingRows$Locks", "longestSpinnerFor", "(I)I"⟩ : MethodName) (⟨"CeilingRows$Locks", "longestSpinnerFor", "(I)I"⟩ : MethodName) ∈ ng_tbl := ng_p 9 rfl rfl
theorem tw_2 : (Jvm.Cond.initialized "CeilingRows$Plan") ∈ ng_tbl := ng_t 2 rfl rfl
theorem tw_3 : (Jvm.Cond.initialized "CeilingRows$Board") ∈ ng_tbl := ng_t 3 rfl rfl
theorem tw_4 : (Jvm.Cond.initialized "CeilingRows$Locks") ∈ ng_tbl := ng_t 4 rfl rfl
theorem tw_7 : (Jvm.Cond.initialized "java/lang/Math") ∈ ng_tbl := ng_t 7 rfl rfl
theorem tw_8 : (Jvm.Cond.initialized "java/util/Arrays") ∈ ng_tbl := ng_t 8 rfl rfl
theorem tw_26 : (Jvm.Cond.fieldLink "CeilingRows$Plan" (29 : Nat) "CeilingRows$Plan" "taskCount" "I") ∈ ng_tbl := ng_t 26 rfl rfl
theorem tw_29 : (Jvm.Cond.fieldLink "CeilingRows$Board" (41 : Nat) "CeilingRows$Plan" "taskCount" "I") ∈ ng_tbl := ng_t 29 rfl rfl
theorem tw_31 : (Jvm.Cond.fieldLink "CeilingRows$Plan" (33 : Nat) "CeilingRows$Plan" "resourceCount" "I") ∈ ng_tbl := ng_t 31 rfl rfl
theorem tw_32 : (Jvm.Cond.fieldLink "CeilingRows$Board" (52 : Nat) "CeilingRows$Plan" "resourceCount" "I") ∈ ng_tbl := ng_t 32 rfl rfl
theorem tw_34 : (Jvm.Cond.fieldLink "CeilingRows$Plan" (9 : Nat) "CeilingRows$Plan" "rankOf" "[I") ∈ ng_tbl := ng_t 34 rfl rfl
theorem tw_35 : (Jvm.Cond.fieldLink "CeilingRows$Board" (49 : Nat) "CeilingRows$Plan" "rankOf" "[I") ∈ ng_tbl := ng_t 35 rfl rfl
theorem tw_36 : (Jvm.Cond.fieldLink "CeilingRows$Plan" (15 : Nat) "CeilingRows$Plan" "coreOf" "[I") ∈ ng_tbl := ng_t 36 rfl rfl
theorem tw_37 : (Jvm.Cond.fieldLink "CeilingRows$Board" (46 : Nat) "CeilingRows$Plan" "coreOf" "[I") ∈ ng_tbl := ng_t 37 rfl rfl
theorem tw_39 : (Jvm.Cond.fieldLink "CeilingRows$Plan" (18 : Nat) "CeilingRows$Plan" "ceilingOf" "[I") ∈ ng_tbl := ng_t 39 rfl rfl
theorem tw_41 : (Jvm.Cond.fieldLink "CeilingRows$Board" (55 : Nat) "CeilingRows$Plan" "ceilingOf" "[I") ∈ ng_tbl := ng_t 41 rfl rfl
theorem tw_42 : (Jvm.Cond.fieldLink "CeilingRows$Plan" (21 : Nat) "CeilingRows$Plan" "userCoreOf" "[I") ∈ ng_tbl := ng_t 42 rfl rfl
theorem tw_43 : (Jvm.Cond.fieldLink "CeilingRows$Plan" (26 : Nat) "CeilingRows$Plan" "lengthOf" "[[I") ∈ ng_tbl := ng_t 43 rfl rfl
theorem tw_67 : (Jvm.Cond.fieldLink "CeilingRows$Board" (27 : Nat) "CeilingRows$Board" "plan" "LCeilingRows$Plan;") ∈ ng_tbl := ng_t 67 rfl rfl
theorem tw_68 : (Jvm.Cond.fieldLink "CeilingRows$Board" (9 : Nat) "CeilingRows$Board" "stateOf" "[I") ∈ ng_tbl := ng_t 68 rfl rfl
theorem tw_71 : (Jvm.Cond.fieldLink "CeilingRows$Board" (15 : Nat) "CeilingRows$Board" "readyOrderOf" "[I") ∈ ng_tbl := ng_t 71 rfl rfl
theorem tw_72 : (Jvm.Cond.fieldLink "CeilingRows$Board" (37 : Nat) "CeilingRows$Board" "readyOrder" "I") ∈ ng_tbl := ng_t 72 rfl rfl
theorem tw_73 : (Jvm.Cond.fieldLink "CeilingRows$Board" (18 : Nat) "CeilingRows$Board" "lastTakenBy" "[I") ∈ ng_tbl := ng_t 73 rfl rfl
theorem tw_75 : (Jvm.Cond.fieldLink "CeilingRows$Board" (21 : Nat) "CeilingRows$Board" "holderOf" "[I") ∈ ng_tbl := ng_t 75 rfl rfl
theorem tw_78 : (Jvm.Cond.fieldLink "CeilingRows$Board" (24 : Nat) "CeilingRows$Board" "takenBefore" "[I") ∈ ng_tbl := ng_t 78 rfl rfl
theorem tw_100 : (Jvm.Cond.fieldLink "CeilingRows$Locks" (9 : Nat) "CeilingRows$Locks" "ownerOf" "[I") ∈ ng_tbl := ng_t 100 rfl rfl
theorem tw_101 : (Jvm.Cond.fieldLink "CeilingRows$Locks" (15 : Nat) "CeilingRows$Locks" "wantedBy" "[I") ∈ ng_tbl := ng_t 101 rfl rfl
theorem tw_102 : (Jvm.Cond.fieldLink "CeilingRows$Locks" (18 : Nat) "CeilingRows$Locks" "spinOrderOf" "[I") ∈ ng_tbl := ng_t 102 rfl rfl
theorem tw_103 : (Jvm.Cond.fieldLink "CeilingRows$Locks" (25 : Nat) "CeilingRows$Locks" "spinOrder" "I") ∈ ng_tbl := ng_t 103 rfl rfl
theorem tw_206 : (Jvm.Cond.methodLink "CeilingRows$Plan" (36 : Nat) ({ cls := "java/lang/Math", name := "max", desc := "(II)I" } : Jvm.MethodName)) ∈ ng_tbl := ng_t 206 rfl rfl
theorem tw_207 : (Jvm.Cond.static ({ cls := "java/lang/Math", name := "max", desc := "(II)I" } : Jvm.MethodName)) ∈ ng_tbl := ng_t 207 rfl rfl
theorem tw_208 : (Jvm.Cond.code ({ cls := "java/lang/Math", name := "max", desc := "(II)I" } : Jvm.MethodName) prog_9_method_65_code (2 : Nat) (Option.some Jvm.ClassFile.FieldType.int)) ∈ ng_tbl := ng_t 208 rfl rfl
theorem tw_235 : (Jvm.Cond.instanceMethod ({ cls := "CeilingRows$Locks", name := "spins", desc := "(I)Z" } : Jvm.MethodName)) ∈ ng_tbl := ng_t 235 rfl rfl
theorem tw_236 : (Jvm.Cond.selects "CeilingRows$Locks" ({ cls := "CeilingRows$Locks", name := "spins", desc := "(I)Z" } : Jvm.MethodName) ({ cls := "CeilingRows$Locks", name := "spins", desc := "(I)Z" } : Jvm.MethodName)) ∈ ng_tbl := ng_t 236 rfl rfl
theorem tw_237 : (Jvm.Cond.code ({ cls := "CeilingRows$Locks", name := "spins", desc := "(I)Z" } : Jvm.MethodName) prog_3_method_2_code (2 : Nat) (Option.some Jvm.ClassFile.FieldType.boolean)) ∈ ng_tbl := ng_t 237 rfl rfl
theorem tw_242 : (Jvm.Cond.methodLink "CeilingRows$Board" (64 : Nat) ({ cls := "CeilingRows$Board", name := "rankNow", desc := "(I)I" } : Jvm.MethodName)) ∈ ng_tbl := ng_t 242 rfl rfl
theorem tw_243 : (Jvm.Cond.instanceMethod ({ cls := "CeilingRows$Board", name := "rankNow", desc := "(I)I" } : Jvm.MethodName)) ∈ ng_tbl := ng_t 243 rfl rfl
theorem tw_244 : (Jvm.Cond.selects "CeilingRows$Board" ({ cls := "CeilingRows$Board", name := "rankNow", desc := "(I)I" } : Jvm.MethodName) ({ cls := "CeilingRows$Board", name := "rankNow", desc := "(I)I" } : Jvm.MethodName)) ∈ ng_tbl := ng_t 244 rfl rfl
theorem tw_245 : (Jvm.Cond.code ({ cls := "CeilingRows$Board", name := "rankNow", desc := "(I)I" } : Jvm.MethodName) prog_2_method_6_code (4 : Nat) (Option.some Jvm.ClassFile.FieldType.int)) ∈ ng_tbl := ng_t 245 rfl rfl
theorem tw_246 : (Jvm.Cond.methodLink "CeilingRows$Board" (58 : Nat) ({ cls := "java/lang/Math", name := "max", desc := "(II)I" } : Jvm.MethodName)) ∈ ng_tbl := ng_t 246 rfl rfl
theorem tw_264 : (Jvm.Cond.instanceMethod ({ cls := "CeilingRows$Board", name := "giveBackLast", desc := "(I)V" } : Jvm.MethodName)) ∈ ng_tbl := ng_t 264 rfl rfl
theorem tw_265 : (Jvm.Cond.selects "CeilingRows$Board" ({ cls := "CeilingRows$Board", name := "giveBackLast", desc := "(I)V" } : Jvm.MethodName) ({ cls := "CeilingRows$Board", name := "giveBackLast", desc := "(I)V" } : Jvm.MethodName)) ∈ ng_tbl := ng_t 265 rfl rfl
theorem tw_266 : (Jvm.Cond.code ({ cls := "CeilingRows$Board", name := "giveBackLast", desc := "(I)V" } : Jvm.MethodName) prog_2_method_9_code (3 : Nat) (Option.none : Option Jvm.ClassFile.FieldType)) ∈ ng_tbl := ng_t 266 rfl rfl
theorem tw_272 : (Jvm.Cond.instanceMethod ({ cls := "CeilingRows$Board", name := "holdsAny", desc := "(I)Z" } : Jvm.MethodName)) ∈ ng_tbl := ng_t 272 rfl rfl
theorem tw_273 : (Jvm.Cond.selects "CeilingRows$Board" ({ cls := "CeilingRows$Board", name := "holdsAny", desc := "(I)Z" } : Jvm.MethodName) ({ cls := "CeilingRows$Board", name := "holdsAny", desc := "(I)Z" } : Jvm.MethodName)) ∈ ng_tbl := ng_t 273 rfl rfl
theorem tw_274 : (Jvm.Cond.code ({ cls := "CeilingRows$Board", name := "holdsAny", desc := "(I)Z" } : Jvm.MethodName) prog_2_method_5_code (2 : Nat) (Option.some Jvm.ClassFile.FieldType.boolean)) ∈ ng_tbl := ng_t 274 rfl rfl
theorem tw_279 : (Jvm.Cond.methodLink "CeilingRows$Board" (68 : Nat) ({ cls := "CeilingRows$Board", name := "holdsAny", desc := "(I)Z" } : Jvm.MethodName)) ∈ ng_tbl := ng_t 279 rfl rfl
theorem tw_280 : (Jvm.Cond.methodLink "CeilingRows$Board" (72 : Nat) ({ cls := "CeilingRows$Board", name := "giveBackLast", desc := "(I)V" } : Jvm.MethodName)) ∈ ng_tbl := ng_t 280 rfl rfl
theorem tw_303 : (Jvm.Cond.methodLink "CeilingRows$Plan" (42 : Nat) ({ cls := "CeilingRows$Plan", name := "isBelow", desc := "(II)Z" } : Jvm.MethodName)) ∈ ng_tbl := ng_t 303 rfl rfl
theorem tw_304 : (Jvm.Cond.instanceMethod ({ cls := "CeilingRows$Plan", name := "isBelow", desc := "(II)Z" } : Jvm.MethodName)) ∈ ng_tbl := ng_t 304 rfl rfl
theorem tw_305 : (Jvm.Cond.selects "CeilingRows$Plan" ({ cls := "CeilingRows$Plan", name := "isBelow", desc := "(II)Z" } : Jvm.MethodName) ({ cls := "CeilingRows$Plan", name := "isBelow", desc := "(II)Z" } : Jvm.MethodName)) ∈ ng_tbl := ng_t 305 rfl rfl
theorem tw_306 : (Jvm.Cond.code ({ cls := "CeilingRows$Plan", name := "isBelow", desc := "(II)Z" } : Jvm.MethodName) prog_4_method_9_code (3 : Nat) (Option.some Jvm.ClassFile.FieldType.boolean)) ∈ ng_tbl := ng_t 306 rfl rfl
theorem tw_316 : (Jvm.Cond.methodLink "CeilingRows$Locks" (21 : Nat) ({ cls := "CeilingRows$Locks", name := "lastTakenBy", desc := "(I)I" } : Jvm.MethodName)) ∈ ng_tbl := ng_t 316 rfl rfl
theorem tw_318 : (Jvm.Cond.instanceMethod ({ cls := "CeilingRows$Locks", name := "lastTakenBy", desc := "(I)I" } : Jvm.MethodName)) ∈ ng_tbl := ng_t 318 rfl rfl
theorem tw_319 : (Jvm.Cond.code ({ cls := "CeilingRows$Locks", name := "lastTakenBy", desc := "(I)I" } : Jvm.MethodName) prog_3_method_3_code (3 : Nat) (Option.some Jvm.ClassFile.FieldType.int)) ∈ ng_tbl := ng_t 319 rfl rfl
theorem tw_324 : (Jvm.Cond.methodLink "CeilingRows$Locks" (29 : Nat) ({ cls := "CeilingRows$Locks", name := "longestSpinnerFor", desc := "(I)I" } : Jvm.MethodName)) ∈ ng_tbl := ng_t 324 rfl rfl
theorem tw_326 : (Jvm.Cond.instanceMethod ({ cls := "CeilingRows$Locks", name := "longestSpinnerFor", desc := "(I)I" } : Jvm.MethodName)) ∈ ng_tbl := ng_t 326 rfl rfl
theorem tw_327 : (Jvm.Cond.code ({ cls := "CeilingRows$Locks", name := "longestSpinnerFor", desc := "(I)I" } : Jvm.MethodName) prog_3_method_6_code (5 : Nat) (Option.some Jvm.ClassFile.FieldType.int)) ∈ ng_tbl := ng_t 327 rfl rfl
theorem tw_336 : (Jvm.Cond.methodLink "CeilingRows$Locks" (32 : Nat) ({ cls := "CeilingRows$Locks", name := "spins", desc := "(I)Z" } : Jvm.MethodName)) ∈ ng_tbl := ng_t 336 rfl rfl
theorem tw_357 : (Jvm.Cond.methodLink "CeilingRows$Board" (31 : Nat) ({ cls := "java/util/Arrays", name := "fill", desc := "([II)V" } : Jvm.MethodName)) ∈ ng_tbl := ng_t 357 rfl rfl
theorem tw_358 : (Jvm.Cond.static ({ cls := "java/util/Arrays", name := "fill", desc := "([II)V" } : Jvm.MethodName)) ∈ ng_tbl := ng_t 358 rfl rfl
theorem tw_359 : (Jvm.Cond.code ({ cls := "java/util/Arrays", name := "fill", desc := "([II)V" } : Jvm.MethodName) prog_10_method_103_code (4 : Nat) (Option.none : Option Jvm.ClassFile.FieldType)) ∈ ng_tbl := ng_t 359 rfl rfl
theorem tw_403 : (Jvm.Cond.constant "java/lang/Integer" (265 : Nat) (1431655765 : Int32)) ∈ ng_tbl := ng_t 403 rfl rfl
theorem tw_404 : (Jvm.Cond.constant "java/lang/Integer" (266 : Nat) (858993459 : Int32)) ∈ ng_tbl := ng_t 404 rfl rfl
theorem tw_405 : (Jvm.Cond.constant "java/lang/Integer" (267 : Nat) (252645135 : Int32)) ∈ ng_tbl := ng_t 405 rfl rfl
end
section
theorem nd_Arrays_fill_0 : decode prog_10_method_103_code 0 = .ok (.iconst 0, 1) := by decide +kernel
theorem nd_Arrays_fill_1 : decode prog_10_method_103_code 1 = .ok (.istore_n 2, 1) := by decide +kernel
theorem nd_Arrays_fill_2 : decode prog_10_method_103_code 2 = .ok (.aload_n 0, 1) := by decide +kernel
theorem nd_Arrays_fill_3 : decode prog_10_method_103_code 3 = .ok (.arraylength, 1) := by decide +kernel
theorem nd_Arrays_fill_4 : decode prog_10_method_103_code 4 = .ok (.istore_n 3, 1) := by decide +kernel
theorem nd_Arrays_fill_5 : decode prog_10_method_103_code 5 = .ok (.iload_n 2, 1) := by decide +kernel
theorem nd_Arrays_fill_6 : decode prog_10_method_103_code 6 = .ok (.iload_n 3, 1) := by decide +kernel
theorem nd_Arrays_fill_7 : decode prog_10_method_103_code 7 = .ok (.if_icmp .ge (13), 3) := by decide +kernel
theorem nd_Arrays_fill_10 : decode prog_10_method_103_code 10 = .ok (.aload_n 0, 1) := by decide +kernel
theorem nd_Arrays_fill_11 : decode prog_10_method_103_code 11 = .ok (.iload_n 2, 1) := by decide +kernel
theorem nd_Arrays_fill_12 : decode prog_10_method_103_code 12 = .ok (.iload_n 1, 1) := by decide +kernel
theorem nd_Arrays_fill_13 : decode prog_10_method_103_code 13 = .ok (.iastore, 1) := by decide +kernel
theorem nd_Arrays_fill_14 : decode prog_10_method_103_code 14 = .ok (.iinc 2 1, 3) := by decide +kernel
theorem nd_Arrays_fill_17 : decode prog_10_method_103_code 17 = .ok (.goto (-12), 3) := by decide +kernel
theorem nd_Arrays_fill_20 : decode prog_10_method_103_code 20 = .ok (.return_, 1) := by decide +kernel
theorem cr_fl0 (f : Nat → Int32) (x : Int32) : cr_fl f 0 x = f := by
  funext j
  unfold cr_fl
  rw [if_neg (Nat.not_lt_zero j)]
theorem cr_fls (f : Nat → Int32) (k : Nat) (x : Int32) (hk : k < 2 ^ 31) : upd (cr_fl f k x) (nI k).toNatClampNeg x = cr_fl f (k + 1) x := by
  funext j
  rw [nI_clamp hk]
  unfold upd cr_fl
  by_cases e : j = k
  · subst e
    rw [if_pos rfl, if_pos (Nat.lt_succ_self j)]
  · rw [if_neg e]
    by_cases h : j < k
    · rw [if_pos h, if_pos (by omega)]
    · rw [if_neg h, if_neg (by omega)]
set_option maxHeartbeats 4000000 in
set_option maxRecDepth 100000 in
/-- Arrays.fill(int[], int) -/
theorem ct_fill (l : Launch) (dC : Nat → ClassId) (dI : Nat → Nat → Nat) (cI cZ cO : ClassId) (a sz n : Nat) (f : Nat → Int32) (x : Int32) (hn : n ≤ 1000000) : Met l ny_Arrays_fill nw_Arrays_fill ({ frames := 0, cells := 0, slots := 0, locals := 0 } : Room) (va_Pc [.ref a, .int x] (fun U => U.heap.size = sz ∧ va_P (dC, dI) vwCl [(a, .inl (cI, n, .inl f))] U.heap ∧ va_K (dC, dI) vwCl [(cI, .int), (cZ, .boolean), (cO, .array .int)] U ∧ va_D (fun _ => True) [(a, .inl (cI, n, .inl f))]))
    (va_Qv (fun g : Nat → Int32 => g = cr_fl f n x) (fun g t => va_P (dC, dI) vwCl [(a, .inl (cI, n, .inl g))] t.heap ∧ va_K (dC, dI) vwCl [(cI, .int), (cZ, .boolean), (cO, .array .int)] t ∧ va_D (va_A [(a, .inl (cI, n, .inl f))] sz) [(a, .inl (cI, n, .inl g))]) (va_A [(a, .inl (cI, n, .inl f))] sz)) 0 0 (va_A [(a, .inl (cI, n, .inl f))] sz) := by
  refine Met.ofW (cc := prog_10_method_103_code) (maxL := 4) (ret := none) (by decide) rfl ?_
  intro p e s m args below meth c s₁ B hml hv
  obtain ⟨rfl, hsz, hP, hK, hD0⟩ := hv
  have hx := B.exec
  have hb := B.bytes
  have hr := B.returns
  have hlocks := B.notSynchronized
  subst hsz
  have hD := hD0.self (sz := s.heap.size)
  generalize hAe : va_A [(a, .inl (cI, n, .inl f))] s.heap.size = A at hD ⊢
  have hS : va_S A s.heap s.heap [] := va_S.rf
  have hl := lv_entry ([.ref a, .int x]) (n := 4) (Nat.le_of_ble_eq_true rfl)
  rw [lg_entry_eq]
  generalize (lg_sl ([.ref a, .int x]) ++ List.replicate (4 - (lg_sl ([.ref a, .int x])).length) Slot.unset).toArray = ls at hl ⊢
  have hl : lv_has ls 4 [(0, .ref a), (1, .int x)] := hl
  refine lv_iconst (v := 0) hx hb nd_Arrays_fill_0 (by decide) ?_
  refine lv_istore_n (lv' := [(2, .int 0), (0, .ref a), (1, .int x)]) hx hb nd_Arrays_fill_1 rfl hl (by decide) rfl (fun ls hl => ?_)
  refine lv_aload_n hx hb nd_Arrays_fill_2 rfl (lv_at hl 1 rfl) ?_
  refine va_alen hx hb hK hP 0 0 rfl rfl (v := nI n) rfl nd_Arrays_fill_3 ?_
  refine lv_istore_n (lv' := [(3, .int (nI n)), (2, .int 0), (0, .ref a), (1, .int x)]) hx hb nd_Arrays_fill_4 rfl hl (by decide) rfl (fun ls hl => ?_)
  have lp : ∀ (d k : Nat), k + d = n → ∀ (H : Heap) (locs : List Loc), va_P (dC, dI) vwCl [(a, .inl (cI, n, .inl (cr_fl f k x)))] H → va_D A [(a, .inl (cI, n, .inl (cr_fl f k x)))] → va_S A s.heap H locs → ∀ ls : Array Slot, lv_has ls 4 [(0, .ref a), (1, .int x), (2, .int (nI k)), (3, .int (nI n))] → W p l e (headSpec nw_Arrays_fill ({ frames := 0, cells := 0, slots := 0, locals := 0 } : Room)).room s m ([.ref a, .int x] : List Value).toArray below meth c H locs 0 0 (MQ below (va_Qv (fun g : Nat → Int32 => g = cr_fl f n x) (fun g t => va_P (dC, dI) vwCl [(a, .inl (cI, n, .inl g))] t.heap ∧ va_K (dC, dI) vwCl [(cI, .int), (cZ, .boolean), (cO, .array .int)] t ∧ va_D A [(a, .inl (cI, n, .inl g))]) A) ([.ref a, .int x] : List Value).toArray s 0 0 A) (F0 m 5 ls []) := by
    intro d
    induction d with
    | zero =>
      intro k hk H locs hP hD hS ls hl
      have hk : k = n := by omega
      subst hk
      refine lv_iload_n hx hb nd_Arrays_fill_5 rfl (lv_at hl 2 rfl) ?_
      refine lv_iload_n hx hb nd_Arrays_fill_6 rfl (lv_at hl 3 rfl) ?_
      refine lv_icmp_ge (tgt := 20) hx hb nd_Arrays_fill_7 (by decide) (fun c_1 => ?_) (fun c_1 => ?_)
      · exact W.vret hx hb hr (fun t ht hW => ⟨⟨_, rfl, rfl, by rw [ht]; exact hP, va_K.moved hW.alike hK, hD⟩, hS.F ht⟩) hS.2.2 nd_Arrays_fill_20
      · exact absurd (nI_le (Nat.le_refl k) (by omega)) c_1
    | succ d ih =>
      intro k hk H locs hP hD hS ls hl
      refine lv_iload_n hx hb nd_Arrays_fill_5 rfl (lv_at hl 2 rfl) ?_
      refine lv_iload_n hx hb nd_Arrays_fill_6 rfl (lv_at hl 3 rfl) ?_
      refine lv_icmp_ge (tgt := 20) hx hb nd_Arrays_fill_7 (by decide) (fun c_1 => ?_) (fun c_1 => ?_)
      · exact absurd c_1 (nI_ge (by omega) (by omega))
      · refine lv_aload_n hx hb nd_Arrays_fill_10 rfl (lv_at hl 0 rfl) ?_
        refine lv_iload_n hx hb nd_Arrays_fill_11 rfl (lv_at hl 2 rfl) ?_
        refine lv_iload_n hx hb nd_Arrays_fill_12 rfl (lv_at hl 1 rfl) ?_
        refine va_iast hx hb hK hP hD hS 0 0 rfl rfl (vp_in_nI (by omega) (by omega)) nd_Arrays_fill_13 (fun H locs hP hD hS => ?_)
        rw [cr_fls f k x (by omega)] at hP hD
        refine lv_iinc (v := nI (k + 1)) (lv' := [(2, .int (nI (k + 1))), (0, .ref a), (1, .int x), (3, .int (nI n))]) hx hb nd_Arrays_fill_14 hl (k := 2) rfl (nI_1 k) (by decide) rfl (fun ls hl => ?_)
        refine lv_goto (tgt := 5) hx hb nd_Arrays_fill_17 (by decide) ?_
        exact ih (k + 1) (by omega) _ _ hP hD hS _ (lv_sub hl [1, 2, 0, 3] rfl)
  exact lp n 0 (by omega) _ _ (by rw [cr_fl0]; exact hP) (by rw [cr_fl0]; exact hD) hS _ (lv_sub hl [2, 3, 1, 0] rfl)
theorem nd_Integer_bitCount_0 : decode prog_8_method_49_code 0 = .ok (.iload_n 0, 1) := by decide +kernel
theorem nd_Integer_bitCount_1 : decode prog_8_method_49_code 1 = .ok (.iload_n 0, 1) := by decide +kernel
theorem nd_Integer_bitCount_2 : decode prog_8_method_49_code 2 = .ok (.iconst 1, 1) := by decide +kernel
theorem nd_Integer_bitCount_3 : decode prog_8_method_49_code 3 = .ok (.iushr, 1) := by decide +kernel
theorem nd_Integer_bitCount_4 : decode prog_8_method_49_code 4 = .ok (.ldc_w 265, 3) := by decide +kernel
theorem nd_Integer_bitCount_7 : decode prog_8_method_49_code 7 = .ok (.iand, 1) := by decide +kernel
theorem nd_Integer_bitCount_8 : decode prog_8_method_49_code 8 = .ok (.isub, 1) := by decide +kernel
theorem nd_Integer_bitCount_9 : decode prog_8_method_49_code 9 = .ok (.istore_n 0, 1) := by decide +kernel
theorem nd_Integer_bitCount_10 : decode prog_8_method_49_code 10 = .ok (.iload_n 0, 1) := by decide +kernel
theorem nd_Integer_bitCount_11 : decode prog_8_method_49_code 11 = .ok (.ldc_w 266, 3) := by decide +kernel
theorem nd_Integer_bitCount_14 : decode prog_8_method_49_code 14 = .ok (.iand, 1) := by decide +kernel
theorem nd_Integer_bitCount_15 : decode prog_8_method_49_code 15 = .ok (.iload_n 0, 1) := by decide +kernel
theorem nd_Integer_bitCount_16 : decode prog_8_method_49_code 16 = .ok (.iconst 2, 1) := by decide +kernel
theorem nd_Integer_bitCount_17 : decode prog_8_method_49_code 17 = .ok (.iushr, 1) := by decide +kernel
theorem nd_Integer_bitCount_18 : decode prog_8_method_49_code 18 = .ok (.ldc_w 266, 3) := by decide +kernel
theorem nd_Integer_bitCount_21 : decode prog_8_method_49_code 21 = .ok (.iand, 1) := by decide +kernel
theorem nd_Integer_bitCount_22 : decode prog_8_method_49_code 22 = .ok (.iadd, 1) := by decide +kernel
theorem nd_Integer_bitCount_23 : decode prog_8_method_49_code 23 = .ok (.istore_n 0, 1) := by decide +kernel
theorem nd_Integer_bitCount_24 : decode prog_8_method_49_code 24 = .ok (.iload_n 0, 1) := by decide +kernel
theorem nd_Integer_bitCount_25 : decode prog_8_method_49_code 25 = .ok (.iload_n 0, 1) := by decide +kernel
theorem nd_Integer_bitCount_26 : decode prog_8_method_49_code 26 = .ok (.iconst 4, 1) := by decide +kernel
theorem nd_Integer_bitCount_27 : decode prog_8_method_49_code 27 = .ok (.iushr, 1) := by decide +kernel
theorem nd_Integer_bitCount_28 : decode prog_8_method_49_code 28 = .ok (.iadd, 1) := by decide +kernel
theorem nd_Integer_bitCount_29 : decode prog_8_method_49_code 29 = .ok (.ldc_w 267, 3) := by decide +kernel
theorem nd_Integer_bitCount_32 : decode prog_8_method_49_code 32 = .ok (.iand, 1) := by decide +kernel
theorem nd_Integer_bitCount_33 : decode prog_8_method_49_code 33 = .ok (.istore_n 0, 1) := by decide +kernel
theorem nd_Integer_bitCount_34 : decode prog_8_method_49_code 34 = .ok (.iload_n 0, 1) := by decide +kernel
theorem nd_Integer_bitCount_35 : decode prog_8_method_49_code 35 = .ok (.iload_n 0, 1) := by decide +kernel
theorem nd_Integer_bitCount_36 : decode prog_8_method_49_code 36 = .ok (.bipush 8, 2) := by decide +kernel
theorem nd_Integer_bitCount_38 : decode prog_8_method_49_code 38 = .ok (.iushr, 1) := by decide +kernel
theorem nd_Integer_bitCount_39 : decode prog_8_method_49_code 39 = .ok (.iadd, 1) := by decide +kernel
theorem nd_Integer_bitCount_40 : decode prog_8_method_49_code 40 = .ok (.istore_n 0, 1) := by decide +kernel
theorem nd_Integer_bitCount_41 : decode prog_8_method_49_code 41 = .ok (.iload_n 0, 1) := by decide +kernel
theorem nd_Integer_bitCount_42 : decode prog_8_method_49_code 42 = .ok (.iload_n 0, 1) := by decide +kernel
theorem nd_Integer_bitCount_43 : decode prog_8_method_49_code 43 = .ok (.bipush 16, 2) := by decide +kernel
theorem nd_Integer_bitCount_45 : decode prog_8_method_49_code 45 = .ok (.iushr, 1) := by decide +kernel
theorem nd_Integer_bitCount_46 : decode prog_8_method_49_code 46 = .ok (.iadd, 1) := by decide +kernel
theorem nd_Integer_bitCount_47 : decode prog_8_method_49_code 47 = .ok (.istore_n 0, 1) := by decide +kernel
theorem nd_Integer_bitCount_48 : decode prog_8_method_49_code 48 = .ok (.iload_n 0, 1) := by decide +kernel
theorem nd_Integer_bitCount_49 : decode prog_8_method_49_code 49 = .ok (.bipush 63, 2) := by decide +kernel
theorem nd_Integer_bitCount_51 : decode prog_8_method_49_code 51 = .ok (.iand, 1) := by decide +kernel
theorem nd_Integer_bitCount_52 : decode prog_8_method_49_code 52 = .ok (.ireturn, 1) := by decide +kernel
def md_Integer_bitCount  (x0 : Int32) : Int32 :=
  ((((((((x0 - ((x0.toUInt32 >>> ((1 : Int32).toUInt32 &&& Int32.toUInt32 31)).toInt32 &&& (1431655765 : Int32))) &&& (858993459 : Int32)) + (((x0 - ((x0.toUInt32 >>> ((1 : Int32).toUInt32 &&& Int32.toUInt32 31)).toInt32 &&& (1431655765 : Int32))).toUInt32 >>> ((2 : Int32).toUInt32 &&& Int32.toUInt32 31)).toInt32 &&& (858993459 : Int32))) + ((((x0 - ((x0.toUInt32 >>> ((1 : Int32).toUInt32 &&& Int32.toUInt32 31)).toInt32 &&& (1431655765 : Int32))) &&& (858993459 : Int32)) + (((x0 - ((x0.toUInt32 >>> ((1 : Int32).toUInt32 &&& Int32.toUInt32 31)).toInt32 &&& (1431655765 : Int32))).toUInt32 >>> ((2 : Int32).toUInt32 &&& Int32.toUInt32 31)).toInt32 &&& (858993459 : Int32))).toUInt32 >>> ((4 : Int32).toUInt32 &&& Int32.toUInt32 31)).toInt32) &&& (252645135 : Int32)) + ((((((x0 - ((x0.toUInt32 >>> ((1 : Int32).toUInt32 &&& Int32.toUInt32 31)).toInt32 &&& (1431655765 : Int32))) &&& (858993459 : Int32)) + (((x0 - ((x0.toUInt32 >>> ((1 : Int32).toUInt32 &&& Int32.toUInt32 31)).toInt32 &&& (1431655765 : Int32))).toUInt32 >>> ((2 : Int32).toUInt32 &&& Int32.toUInt32 31)).toInt32 &&& (858993459 : Int32))) + ((((x0 - ((x0.toUInt32 >>> ((1 : Int32).toUInt32 &&& Int32.toUInt32 31)).toInt32 &&& (1431655765 : Int32))) &&& (858993459 : Int32)) + (((x0 - ((x0.toUInt32 >>> ((1 : Int32).toUInt32 &&& Int32.toUInt32 31)).toInt32 &&& (1431655765 : Int32))).toUInt32 >>> ((2 : Int32).toUInt32 &&& Int32.toUInt32 31)).toInt32 &&& (858993459 : Int32))).toUInt32 >>> ((4 : Int32).toUInt32 &&& Int32.toUInt32 31)).toInt32) &&& (252645135 : Int32)).toUInt32 >>> ((8 : Int32).toUInt32 &&& Int32.toUInt32 31)).toInt32) + (((((((x0 - ((x0.toUInt32 >>> ((1 : Int32).toUInt32 &&& Int32.toUInt32 31)).toInt32 &&& (1431655765 : Int32))) &&& (858993459 : Int32)) + (((x0 - ((x0.toUInt32 >>> ((1 : Int32).toUInt32 &&& Int32.toUInt32 31)).toInt32 &&& (1431655765 : Int32))).toUInt32 >>> ((2 : Int32).toUInt32 &&& Int32.toUInt32 31)).toInt32 &&& (858993459 : Int32))) + ((((x0 - ((x0.toUInt32 >>> ((1 : Int32).toUInt32 &&& Int32.toUInt32 31)).toInt32 &&& (1431655765 : Int32))) &&& (858993459 : Int32)) + (((x0 - ((x0.toUInt32 >>> ((1 : Int32).toUInt32 &&& Int32.toUInt32 31)).toInt32 &&& (1431655765 : Int32))).toUInt32 >>> ((2 : Int32).toUInt32 &&& Int32.toUInt32 31)).toInt32 &&& (858993459 : Int32))).toUInt32 >>> ((4 : Int32).toUInt32 &&& Int32.toUInt32 31)).toInt32) &&& (252645135 : Int32)) + ((((((x0 - ((x0.toUInt32 >>> ((1 : Int32).toUInt32 &&& Int32.toUInt32 31)).toInt32 &&& (1431655765 : Int32))) &&& (858993459 : Int32)) + (((x0 - ((x0.toUInt32 >>> ((1 : Int32).toUInt32 &&& Int32.toUInt32 31)).toInt32 &&& (1431655765 : Int32))).toUInt32 >>> ((2 : Int32).toUInt32 &&& Int32.toUInt32 31)).toInt32 &&& (858993459 : Int32))) + ((((x0 - ((x0.toUInt32 >>> ((1 : Int32).toUInt32 &&& Int32.toUInt32 31)).toInt32 &&& (1431655765 : Int32))) &&& (858993459 : Int32)) + (((x0 - ((x0.toUInt32 >>> ((1 : Int32).toUInt32 &&& Int32.toUInt32 31)).toInt32 &&& (1431655765 : Int32))).toUInt32 >>> ((2 : Int32).toUInt32 &&& Int32.toUInt32 31)).toInt32 &&& (858993459 : Int32))).toUInt32 >>> ((4 : Int32).toUInt32 &&& Int32.toUInt32 31)).toInt32) &&& (252645135 : Int32)).toUInt32 >>> ((8 : Int32).toUInt32 &&& Int32.toUInt32 31)).toInt32).toUInt32 >>> ((16 : Int32).toUInt32 &&& Int32.toUInt32 31)).toInt32) &&& (63 : Int32))
abbrev pq_Integer_bitCount (dC : Nat → ClassId) (dI : Nat → Nat → Nat) (cI cZ cO : ClassId)   (x0 : Int32) (A : Nat → Prop) : Array Value → State → Outcome → State → Prop :=
  va_Qi (fun (r : Int32) (_ : Unit) => r = md_Integer_bitCount  x0) (fun (_ : Unit) t => va_P (dC, dI) vwCl ([]) t.heap ∧ va_K (dC, dI) vwCl [(cI, .int), (cZ, .boolean), (cO, .array .int)] t ∧ va_D A ([])) A
set_option maxHeartbeats 4000000 in
set_option maxRecDepth 100000 in
theorem ct_Integer_bitCount (l : Launch) (dC : Nat → ClassId) (dI : Nat → Nat → Nat) (cI cZ cO : ClassId)  (sz : Nat)  (x0 : Int32)  : Met l ny_Integer_bitCount nw_Integer_bitCount ({ frames := 0, cells := 0, slots := 0, locals := 0 } : Room) (va_Pc [.int x0] (fun U => U.heap.size = sz ∧ va_P (dC, dI) vwCl ([]) U.heap ∧ va_K (dC, dI) vwCl [(cI, .int), (cZ, .boolean), (cO, .array .int)] U ∧ va_D (fun _ => True) ([]))) (pq_Integer_bitCount dC dI cI cZ cO  x0 (va_A ([]) sz)) 0 0 (va_A ([]) sz) := by
  refine Met.ofW (cc := prog_8_method_49_code) (maxL := 1) (ret := (some .int)) (by decide) rfl ?_
  intro p e s m args below meth c s₁ B hml hv
  obtain ⟨rfl, hsz, hP, hK, hD0⟩ := hv
  have hx := B.exec
  have hb := B.bytes
  have hr := B.returns
  have hts0 := atoms_spec (ws := nw_Integer_bitCount) B.pre
  have hts : ∀ w ∈ ng_tbl, w.before ([.int x0] : List Value).toArray s = true := fun w h => hts0 w (List.mem_cons_of_mem _ h)
  have hown : s.vm.findClass "java/lang/Integer" = some m.cls := findClass_of_methodNamed B.named
  have hlocks := B.notSynchronized
  subst hsz
  have hD := hD0.self (sz := s.heap.size)
  generalize hAe : va_A ([]) s.heap.size = A at hD ⊢
  have hA : ∀ q : Nat, s.heap.size ≤ q → A q := fun q h => by rw [← hAe]; exact Or.inr h
  have hS : va_S A s.heap s.heap [] := va_S.rf
  have hP : va_P (dC, dI) vwCl ([]) s.heap := hP
  have hl := lv_entry ([.int x0]) (n := 1) (Nat.le_of_ble_eq_true rfl)
  rw [lg_entry_eq]
  generalize (lg_sl ([.int x0]) ++ List.replicate (1 - (lg_sl ([.int x0])).length) Slot.unset).toArray = ls at hl ⊢
  have hl : lv_has ls 1 [(0, .int x0)] := hl
  have k_1 : (1 : Int32).toInt = 1 := by decide
  have k_2 : (2 : Int32).toInt = 2 := by decide
  have k_4 : (4 : Int32).toInt = 4 := by decide
  have k_8 : (8 : Int32).toInt = 8 := by decide
  have k_16 : (16 : Int32).toInt = 16 := by decide
  have k_63 : (63 : Int32).toInt = 63 := by decide
  have k_252645135 : (252645135 : Int32).toInt = 252645135 := by decide
  have k_858993459 : (858993459 : Int32).toInt = 858993459 := by decide
  have k_1431655765 : (1431655765 : Int32).toInt = 1431655765 := by decide
  obtain ⟨tgt, hT⟩ : ∃ z, md_Integer_bitCount  x0 = z := ⟨_, rfl⟩
  have hM := hT
  unfold md_Integer_bitCount at hM
  refine lv_iload_n hx hb nd_Integer_bitCount_0 rfl (lv_at hl 0 rfl) ?_
  refine lv_iload_n hx hb nd_Integer_bitCount_1 rfl (lv_at hl 0 rfl) ?_
  refine lv_iconst (v := 1) hx hb nd_Integer_bitCount_2 (by decide) ?_
  refine lv_iushr (v := (x0.toUInt32 >>> ((1 : Int32).toUInt32 &&& Int32.toUInt32 31)).toInt32) hx hb nd_Integer_bitCount_3 rfl ?_
  refine lv_ldcw (v := 1431655765) hx hb hown (hts _ tw_403) nd_Integer_bitCount_4 ?_
  refine lv_iand hx hb nd_Integer_bitCount_7 ?_
  refine lv_isub hx hb nd_Integer_bitCount_8 ?_
  refine lv_istore_n (lv' := [(0, .int (x0 - ((x0.toUInt32 >>> ((1 : Int32).toUInt32 &&& Int32.toUInt32 31)).toInt32 &&& (1431655765 : Int32))))]) hx hb nd_Integer_bitCount_9 rfl hl (by decide) rfl (fun ls hl => ?_)
  refine lv_iload_n hx hb nd_Integer_bitCount_10 rfl (lv_at hl 0 rfl) ?_
  refine lv_ldcw (v := 858993459) hx hb hown (hts _ tw_404) nd_Integer_bitCount_11 ?_
  refine lv_iand hx hb nd_Integer_bitCount_14 ?_
  refine lv_iload_n hx hb nd_Integer_bitCount_15 rfl (lv_at hl 0 rfl) ?_
  refine lv_iconst (v := 2) hx hb nd_Integer_bitCount_16 (by decide) ?_
  refine lv_iushr (v := ((x0 - ((x0.toUInt32 >>> ((1 : Int32).toUInt32 &&& Int32.toUInt32 31)).toInt32 &&& (1431655765 : Int32))).toUInt32 >>> ((2 : Int32).toUInt32 &&& Int32.toUInt32 31)).toInt32) hx hb nd_Integer_bitCount_17 rfl ?_
  refine lv_ldcw (v := 858993459) hx hb hown (hts _ tw_404) nd_Integer_bitCount_18 ?_
  refine lv_iand hx hb nd_Integer_bitCount_21 ?_
  refine lv_iadd hx hb nd_Integer_bitCount_22 ?_
  refine lv_istore_n (lv' := [(0, .int (((x0 - ((x0.toUInt32 >>> ((1 : Int32).toUInt32 &&& Int32.toUInt32 31)).toInt32 &&& (1431655765 : Int32))) &&& (858993459 : Int32)) + (((x0 - ((x0.toUInt32 >>> ((1 : Int32).toUInt32 &&& Int32.toUInt32 31)).toInt32 &&& (1431655765 : Int32))).toUInt32 >>> ((2 : Int32).toUInt32 &&& Int32.toUInt32 31)).toInt32 &&& (858993459 : Int32))))]) hx hb nd_Integer_bitCount_23 rfl hl (by decide) rfl (fun ls hl => ?_)
  refine lv_iload_n hx hb nd_Integer_bitCount_24 rfl (lv_at hl 0 rfl) ?_
  refine lv_iload_n hx hb nd_Integer_bitCount_25 rfl (lv_at hl 0 rfl) ?_
  refine lv_iconst (v := 4) hx hb nd_Integer_bitCount_26 (by decide) ?_
  refine lv_iushr (v := ((((x0 - ((x0.toUInt32 >>> ((1 : Int32).toUInt32 &&& Int32.toUInt32 31)).toInt32 &&& (1431655765 : Int32))) &&& (858993459 : Int32)) + (((x0 - ((x0.toUInt32 >>> ((1 : Int32).toUInt32 &&& Int32.toUInt32 31)).toInt32 &&& (1431655765 : Int32))).toUInt32 >>> ((2 : Int32).toUInt32 &&& Int32.toUInt32 31)).toInt32 &&& (858993459 : Int32))).toUInt32 >>> ((4 : Int32).toUInt32 &&& Int32.toUInt32 31)).toInt32) hx hb nd_Integer_bitCount_27 rfl ?_
  refine lv_iadd hx hb nd_Integer_bitCount_28 ?_
  refine lv_ldcw (v := 252645135) hx hb hown (hts _ tw_405) nd_Integer_bitCount_29 ?_
  refine lv_iand hx hb nd_Integer_bitCount_32 ?_
  refine lv_istore_n (lv' := [(0, .int (((((x0 - ((x0.toUInt32 >>> ((1 : Int32).toUInt32 &&& Int32.toUInt32 31)).toInt32 &&& (1431655765 : Int32))) &&& (858993459 : Int32)) + (((x0 - ((x0.toUInt32 >>> ((1 : Int32).toUInt32 &&& Int32.toUInt32 31)).toInt32 &&& (1431655765 : Int32))).toUInt32 >>> ((2 : Int32).toUInt32 &&& Int32.toUInt32 31)).toInt32 &&& (858993459 : Int32))) + ((((x0 - ((x0.toUInt32 >>> ((1 : Int32).toUInt32 &&& Int32.toUInt32 31)).toInt32 &&& (1431655765 : Int32))) &&& (858993459 : Int32)) + (((x0 - ((x0.toUInt32 >>> ((1 : Int32).toUInt32 &&& Int32.toUInt32 31)).toInt32 &&& (1431655765 : Int32))).toUInt32 >>> ((2 : Int32).toUInt32 &&& Int32.toUInt32 31)).toInt32 &&& (858993459 : Int32))).toUInt32 >>> ((4 : Int32).toUInt32 &&& Int32.toUInt32 31)).toInt32) &&& (252645135 : Int32)))]) hx hb nd_Integer_bitCount_33 rfl hl (by decide) rfl (fun ls hl => ?_)
  refine lv_iload_n hx hb nd_Integer_bitCount_34 rfl (lv_at hl 0 rfl) ?_
  refine lv_iload_n hx hb nd_Integer_bitCount_35 rfl (lv_at hl 0 rfl) ?_
  refine lv_bipush (v := 8) hx hb nd_Integer_bitCount_36 (by decide) ?_
  refine lv_iushr (v := ((((((x0 - ((x0.toUInt32 >>> ((1 : Int32).toUInt32 &&& Int32.toUInt32 31)).toInt32 &&& (1431655765 : Int32))) &&& (858993459 : Int32)) + (((x0 - ((x0.toUInt32 >>> ((1 : Int32).toUInt32 &&& Int32.toUInt32 31)).toInt32 &&& (1431655765 : Int32))).toUInt32 >>> ((2 : Int32).toUInt32 &&& Int32.toUInt32 31)).toInt32 &&& (858993459 : Int32))) + ((((x0 - ((x0.toUInt32 >>> ((1 : Int32).toUInt32 &&& Int32.toUInt32 31)).toInt32 &&& (1431655765 : Int32))) &&& (858993459 : Int32)) + (((x0 - ((x0.toUInt32 >>> ((1 : Int32).toUInt32 &&& Int32.toUInt32 31)).toInt32 &&& (1431655765 : Int32))).toUInt32 >>> ((2 : Int32).toUInt32 &&& Int32.toUInt32 31)).toInt32 &&& (858993459 : Int32))).toUInt32 >>> ((4 : Int32).toUInt32 &&& Int32.toUInt32 31)).toInt32) &&& (252645135 : Int32)).toUInt32 >>> ((8 : Int32).toUInt32 &&& Int32.toUInt32 31)).toInt32) hx hb nd_Integer_bitCount_38 rfl ?_
  refine lv_iadd hx hb nd_Integer_bitCount_39 ?_
  refine lv_istore_n (lv' := [(0, .int ((((((x0 - ((x0.toUInt32 >>> ((1 : Int32).toUInt32 &&& Int32.toUInt32 31)).toInt32 &&& (1431655765 : Int32))) &&& (858993459 : Int32)) + (((x0 - ((x0.toUInt32 >>> ((1 : Int32).toUInt32 &&& Int32.toUInt32 31)).toInt32 &&& (1431655765 : Int32))).toUInt32 >>> ((2 : Int32).toUInt32 &&& Int32.toUInt32 31)).toInt32 &&& (858993459 : Int32))) + ((((x0 - ((x0.toUInt32 >>> ((1 : Int32).toUInt32 &&& Int32.toUInt32 31)).toInt32 &&& (1431655765 : Int32))) &&& (858993459 : Int32)) + (((x0 - ((x0.toUInt32 >>> ((1 : Int32).toUInt32 &&& Int32.toUInt32 31)).toInt32 &&& (1431655765 : Int32))).toUInt32 >>> ((2 : Int32).toUInt32 &&& Int32.toUInt32 31)).toInt32 &&& (858993459 : Int32))).toUInt32 >>> ((4 : Int32).toUInt32 &&& Int32.toUInt32 31)).toInt32) &&& (252645135 : Int32)) + ((((((x0 - ((x0.toUInt32 >>> ((1 : Int32).toUInt32 &&& Int32.toUInt32 31)).toInt32 &&& (1431655765 : Int32))) &&& (858993459 : Int32)) + (((x0 - ((x0.toUInt32 >>> ((1 : Int32).toUInt32 &&& Int32.toUInt32 31)).toInt32 &&& (1431655765 : Int32))).toUInt32 >>> ((2 : Int32).toUInt32 &&& Int32.toUInt32 31)).toInt32 &&& (858993459 : Int32))) + ((((x0 - ((x0.toUInt32 >>> ((1 : Int32).toUInt32 &&& Int32.toUInt32 31)).toInt32 &&& (1431655765 : Int32))) &&& (858993459 : Int32)) + (((x0 - ((x0.toUInt32 >>> ((1 : Int32).toUInt32 &&& Int32.toUInt32 31)).toInt32 &&& (1431655765 : Int32))).toUInt32 >>> ((2 : Int32).toUInt32 &&& Int32.toUInt32 31)).toInt32 &&& (858993459 : Int32))).toUInt32 >>> ((4 : Int32).toUInt32 &&& Int32.toUInt32 31)).toInt32) &&& (252645135 : Int32)).toUInt32 >>> ((8 : Int32).toUInt32 &&& Int32.toUInt32 31)).toInt32))]) hx hb nd_Integer_bitCount_40 rfl hl (by decide) rfl (fun ls hl => ?_)
  refine lv_iload_n hx hb nd_Integer_bitCount_41 rfl (lv_at hl 0 rfl) ?_
  refine lv_iload_n hx hb nd_Integer_bitCount_42 rfl (lv_at hl 0 rfl) ?_
  refine lv_bipush (v := 16) hx hb nd_Integer_bitCount_43 (by decide) ?_
  refine lv_iushr (v := (((((((x0 - ((x0.toUInt32 >>> ((1 : Int32).toUInt32 &&& Int32.toUInt32 31)).toInt32 &&& (1431655765 : Int32))) &&& (858993459 : Int32)) + (((x0 - ((x0.toUInt32 >>> ((1 : Int32).toUInt32 &&& Int32.toUInt32 31)).toInt32 &&& (1431655765 : Int32))).toUInt32 >>> ((2 : Int32).toUInt32 &&& Int32.toUInt32 31)).toInt32 &&& (858993459 : Int32))) + ((((x0 - ((x0.toUInt32 >>> ((1 : Int32).toUInt32 &&& Int32.toUInt32 31)).toInt32 &&& (1431655765 : Int32))) &&& (858993459 : Int32)) + (((x0 - ((x0.toUInt32 >>> ((1 : Int32).toUInt32 &&& Int32.toUInt32 31)).toInt32 &&& (1431655765 : Int32))).toUInt32 >>> ((2 : Int32).toUInt32 &&& Int32.toUInt32 31)).toInt32 &&& (858993459 : Int32))).toUInt32 >>> ((4 : Int32).toUInt32 &&& Int32.toUInt32 31)).toInt32) &&& (252645135 : Int32)) + ((((((x0 - ((x0.toUInt32 >>> ((1 : Int32).toUInt32 &&& Int32.toUInt32 31)).toInt32 &&& (1431655765 : Int32))) &&& (858993459 : Int32)) + (((x0 - ((x0.toUInt32 >>> ((1 : Int32).toUInt32 &&& Int32.toUInt32 31)).toInt32 &&& (1431655765 : Int32))).toUInt32 >>> ((2 : Int32).toUInt32 &&& Int32.toUInt32 31)).toInt32 &&& (858993459 : Int32))) + ((((x0 - ((x0.toUInt32 >>> ((1 : Int32).toUInt32 &&& Int32.toUInt32 31)).toInt32 &&& (1431655765 : Int32))) &&& (858993459 : Int32)) + (((x0 - ((x0.toUInt32 >>> ((1 : Int32).toUInt32 &&& Int32.toUInt32 31)).toInt32 &&& (1431655765 : Int32))).toUInt32 >>> ((2 : Int32).toUInt32 &&& Int32.toUInt32 31)).toInt32 &&& (858993459 : Int32))).toUInt32 >>> ((4 : Int32).toUInt32 &&& Int32.toUInt32 31)).toInt32) &&& (252645135 : Int32)).toUInt32 >>> ((8 : Int32).toUInt32 &&& Int32.toUInt32 31)).toInt32).toUInt32 >>> ((16 : Int32).toUInt32 &&& Int32.toUInt32 31)).toInt32) hx hb nd_Integer_bitCount_45 rfl ?_
  refine lv_iadd hx hb nd_Integer_bitCount_46 ?_
  refine lv_istore_n (lv' := [(0, .int (((((((x0 - ((x0.toUInt32 >>> ((1 : Int32).toUInt32 &&& Int32.toUInt32 31)).toInt32 &&& (1431655765 : Int32))) &&& (858993459 : Int32)) + (((x0 - ((x0.toUInt32 >>> ((1 : Int32).toUInt32 &&& Int32.toUInt32 31)).toInt32 &&& (1431655765 : Int32))).toUInt32 >>> ((2 : Int32).toUInt32 &&& Int32.toUInt32 31)).toInt32 &&& (858993459 : Int32))) + ((((x0 - ((x0.toUInt32 >>> ((1 : Int32).toUInt32 &&& Int32.toUInt32 31)).toInt32 &&& (1431655765 : Int32))) &&& (858993459 : Int32)) + (((x0 - ((x0.toUInt32 >>> ((1 : Int32).toUInt32 &&& Int32.toUInt32 31)).toInt32 &&& (1431655765 : Int32))).toUInt32 >>> ((2 : Int32).toUInt32 &&& Int32.toUInt32 31)).toInt32 &&& (858993459 : Int32))).toUInt32 >>> ((4 : Int32).toUInt32 &&& Int32.toUInt32 31)).toInt32) &&& (252645135 : Int32)) + ((((((x0 - ((x0.toUInt32 >>> ((1 : Int32).toUInt32 &&& Int32.toUInt32 31)).toInt32 &&& (1431655765 : Int32))) &&& (858993459 : Int32)) + (((x0 - ((x0.toUInt32 >>> ((1 : Int32).toUInt32 &&& Int32.toUInt32 31)).toInt32 &&& (1431655765 : Int32))).toUInt32 >>> ((2 : Int32).toUInt32 &&& Int32.toUInt32 31)).toInt32 &&& (858993459 : Int32))) + ((((x0 - ((x0.toUInt32 >>> ((1 : Int32).toUInt32 &&& Int32.toUInt32 31)).toInt32 &&& (1431655765 : Int32))) &&& (858993459 : Int32)) + (((x0 - ((x0.toUInt32 >>> ((1 : Int32).toUInt32 &&& Int32.toUInt32 31)).toInt32 &&& (1431655765 : Int32))).toUInt32 >>> ((2 : Int32).toUInt32 &&& Int32.toUInt32 31)).toInt32 &&& (858993459 : Int32))).toUInt32 >>> ((4 : Int32).toUInt32 &&& Int32.toUInt32 31)).toInt32) &&& (252645135 : Int32)).toUInt32 >>> ((8 : Int32).toUInt32 &&& Int32.toUInt32 31)).toInt32) + (((((((x0 - ((x0.toUInt32 >>> ((1 : Int32).toUInt32 &&& Int32.toUInt32 31)).toInt32 &&& (1431655765 : Int32))) &&& (858993459 : Int32)) + (((x0 - ((x0.toUInt32 >>> ((1 : Int32).toUInt32 &&& Int32.toUInt32 31)).toInt32 &&& (1431655765 : Int32))).toUInt32 >>> ((2 : Int32).toUInt32 &&& Int32.toUInt32 31)).toInt32 &&& (858993459 : Int32))) + ((((x0 - ((x0.toUInt32 >>> ((1 : Int32).toUInt32 &&& Int32.toUInt32 31)).toInt32 &&& (1431655765 : Int32))) &&& (858993459 : Int32)) + (((x0 - ((x0.toUInt32 >>> ((1 : Int32).toUInt32 &&& Int32.toUInt32 31)).toInt32 &&& (1431655765 : Int32))).toUInt32 >>> ((2 : Int32).toUInt32 &&& Int32.toUInt32 31)).toInt32 &&& (858993459 : Int32))).toUInt32 >>> ((4 : Int32).toUInt32 &&& Int32.toUInt32 31)).toInt32) &&& (252645135 : Int32)) + ((((((x0 - ((x0.toUInt32 >>> ((1 : Int32).toUInt32 &&& Int32.toUInt32 31)).toInt32 &&& (1431655765 : Int32))) &&& (858993459 : Int32)) + (((x0 - ((x0.toUInt32 >>> ((1 : Int32).toUInt32 &&& Int32.toUInt32 31)).toInt32 &&& (1431655765 : Int32))).toUInt32 >>> ((2 : Int32).toUInt32 &&& Int32.toUInt32 31)).toInt32 &&& (858993459 : Int32))) + ((((x0 - ((x0.toUInt32 >>> ((1 : Int32).toUInt32 &&& Int32.toUInt32 31)).toInt32 &&& (1431655765 : Int32))) &&& (858993459 : Int32)) + (((x0 - ((x0.toUInt32 >>> ((1 : Int32).toUInt32 &&& Int32.toUInt32 31)).toInt32 &&& (1431655765 : Int32))).toUInt32 >>> ((2 : Int32).toUInt32 &&& Int32.toUInt32 31)).toInt32 &&& (858993459 : Int32))).toUInt32 >>> ((4 : Int32).toUInt32 &&& Int32.toUInt32 31)).toInt32) &&& (252645135 : Int32)).toUInt32 >>> ((8 : Int32).toUInt32 &&& Int32.toUInt32 31)).toInt32).toUInt32 >>> ((16 : Int32).toUInt32 &&& Int32.toUInt32 31)).toInt32))]) hx hb nd_Integer_bitCount_47 rfl hl (by decide) rfl (fun ls hl => ?_)
  refine lv_iload_n hx hb nd_Integer_bitCount_48 rfl (lv_at hl 0 rfl) ?_
  refine lv_bipush (v := 63) hx hb nd_Integer_bitCount_49 (by decide) ?_
  refine lv_iand hx hb nd_Integer_bitCount_51 ?_
  exact W.iret (v := ((((((((x0 - ((x0.toUInt32 >>> ((1 : Int32).toUInt32 &&& Int32.toUInt32 31)).toInt32 &&& (1431655765 : Int32))) &&& (858993459 : Int32)) + (((x0 - ((x0.toUInt32 >>> ((1 : Int32).toUInt32 &&& Int32.toUInt32 31)).toInt32 &&& (1431655765 : Int32))).toUInt32 >>> ((2 : Int32).toUInt32 &&& Int32.toUInt32 31)).toInt32 &&& (858993459 : Int32))) + ((((x0 - ((x0.toUInt32 >>> ((1 : Int32).toUInt32 &&& Int32.toUInt32 31)).toInt32 &&& (1431655765 : Int32))) &&& (858993459 : Int32)) + (((x0 - ((x0.toUInt32 >>> ((1 : Int32).toUInt32 &&& Int32.toUInt32 31)).toInt32 &&& (1431655765 : Int32))).toUInt32 >>> ((2 : Int32).toUInt32 &&& Int32.toUInt32 31)).toInt32 &&& (858993459 : Int32))).toUInt32 >>> ((4 : Int32).toUInt32 &&& Int32.toUInt32 31)).toInt32) &&& (252645135 : Int32)) + ((((((x0 - ((x0.toUInt32 >>> ((1 : Int32).toUInt32 &&& Int32.toUInt32 31)).toInt32 &&& (1431655765 : Int32))) &&& (858993459 : Int32)) + (((x0 - ((x0.toUInt32 >>> ((1 : Int32).toUInt32 &&& Int32.toUInt32 31)).toInt32 &&& (1431655765 : Int32))).toUInt32 >>> ((2 : Int32).toUInt32 &&& Int32.toUInt32 31)).toInt32 &&& (858993459 : Int32))) + ((((x0 - ((x0.toUInt32 >>> ((1 : Int32).toUInt32 &&& Int32.toUInt32 31)).toInt32 &&& (1431655765 : Int32))) &&& (858993459 : Int32)) + (((x0 - ((x0.toUInt32 >>> ((1 : Int32).toUInt32 &&& Int32.toUInt32 31)).toInt32 &&& (1431655765 : Int32))).toUInt32 >>> ((2 : Int32).toUInt32 &&& Int32.toUInt32 31)).toInt32 &&& (858993459 : Int32))).toUInt32 >>> ((4 : Int32).toUInt32 &&& Int32.toUInt32 31)).toInt32) &&& (252645135 : Int32)).toUInt32 >>> ((8 : Int32).toUInt32 &&& Int32.toUInt32 31)).toInt32) + (((((((x0 - ((x0.toUInt32 >>> ((1 : Int32).toUInt32 &&& Int32.toUInt32 31)).toInt32 &&& (1431655765 : Int32))) &&& (858993459 : Int32)) + (((x0 - ((x0.toUInt32 >>> ((1 : Int32).toUInt32 &&& Int32.toUInt32 31)).toInt32 &&& (1431655765 : Int32))).toUInt32 >>> ((2 : Int32).toUInt32 &&& Int32.toUInt32 31)).toInt32 &&& (858993459 : Int32))) + ((((x0 - ((x0.toUInt32 >>> ((1 : Int32).toUInt32 &&& Int32.toUInt32 31)).toInt32 &&& (1431655765 : Int32))) &&& (858993459 : Int32)) + (((x0 - ((x0.toUInt32 >>> ((1 : Int32).toUInt32 &&& Int32.toUInt32 31)).toInt32 &&& (1431655765 : Int32))).toUInt32 >>> ((2 : Int32).toUInt32 &&& Int32.toUInt32 31)).toInt32 &&& (858993459 : Int32))).toUInt32 >>> ((4 : Int32).toUInt32 &&& Int32.toUInt32 31)).toInt32) &&& (252645135 : Int32)) + ((((((x0 - ((x0.toUInt32 >>> ((1 : Int32).toUInt32 &&& Int32.toUInt32 31)).toInt32 &&& (1431655765 : Int32))) &&& (858993459 : Int32)) + (((x0 - ((x0.toUInt32 >>> ((1 : Int32).toUInt32 &&& Int32.toUInt32 31)).toInt32 &&& (1431655765 : Int32))).toUInt32 >>> ((2 : Int32).toUInt32 &&& Int32.toUInt32 31)).toInt32 &&& (858993459 : Int32))) + ((((x0 - ((x0.toUInt32 >>> ((1 : Int32).toUInt32 &&& Int32.toUInt32 31)).toInt32 &&& (1431655765 : Int32))) &&& (858993459 : Int32)) + (((x0 - ((x0.toUInt32 >>> ((1 : Int32).toUInt32 &&& Int32.toUInt32 31)).toInt32 &&& (1431655765 : Int32))).toUInt32 >>> ((2 : Int32).toUInt32 &&& Int32.toUInt32 31)).toInt32 &&& (858993459 : Int32))).toUInt32 >>> ((4 : Int32).toUInt32 &&& Int32.toUInt32 31)).toInt32) &&& (252645135 : Int32)).toUInt32 >>> ((8 : Int32).toUInt32 &&& Int32.toUInt32 31)).toInt32).toUInt32 >>> ((16 : Int32).toUInt32 &&& Int32.toUInt32 31)).toInt32) &&& (63 : Int32))) hx hb hr (fun t ht hW => ⟨⟨((((((((x0 - ((x0.toUInt32 >>> ((1 : Int32).toUInt32 &&& Int32.toUInt32 31)).toInt32 &&& (1431655765 : Int32))) &&& (858993459 : Int32)) + (((x0 - ((x0.toUInt32 >>> ((1 : Int32).toUInt32 &&& Int32.toUInt32 31)).toInt32 &&& (1431655765 : Int32))).toUInt32 >>> ((2 : Int32).toUInt32 &&& Int32.toUInt32 31)).toInt32 &&& (858993459 : Int32))) + ((((x0 - ((x0.toUInt32 >>> ((1 : Int32).toUInt32 &&& Int32.toUInt32 31)).toInt32 &&& (1431655765 : Int32))) &&& (858993459 : Int32)) + (((x0 - ((x0.toUInt32 >>> ((1 : Int32).toUInt32 &&& Int32.toUInt32 31)).toInt32 &&& (1431655765 : Int32))).toUInt32 >>> ((2 : Int32).toUInt32 &&& Int32.toUInt32 31)).toInt32 &&& (858993459 : Int32))).toUInt32 >>> ((4 : Int32).toUInt32 &&& Int32.toUInt32 31)).toInt32) &&& (252645135 : Int32)) + ((((((x0 - ((x0.toUInt32 >>> ((1 : Int32).toUInt32 &&& Int32.toUInt32 31)).toInt32 &&& (1431655765 : Int32))) &&& (858993459 : Int32)) + (((x0 - ((x0.toUInt32 >>> ((1 : Int32).toUInt32 &&& Int32.toUInt32 31)).toInt32 &&& (1431655765 : Int32))).toUInt32 >>> ((2 : Int32).toUInt32 &&& Int32.toUInt32 31)).toInt32 &&& (858993459 : Int32))) + ((((x0 - ((x0.toUInt32 >>> ((1 : Int32).toUInt32 &&& Int32.toUInt32 31)).toInt32 &&& (1431655765 : Int32))) &&& (858993459 : Int32)) + (((x0 - ((x0.toUInt32 >>> ((1 : Int32).toUInt32 &&& Int32.toUInt32 31)).toInt32 &&& (1431655765 : Int32))).toUInt32 >>> ((2 : Int32).toUInt32 &&& Int32.toUInt32 31)).toInt32 &&& (858993459 : Int32))).toUInt32 >>> ((4 : Int32).toUInt32 &&& Int32.toUInt32 31)).toInt32) &&& (252645135 : Int32)).toUInt32 >>> ((8 : Int32).toUInt32 &&& Int32.toUInt32 31)).toInt32) + (((((((x0 - ((x0.toUInt32 >>> ((1 : Int32).toUInt32 &&& Int32.toUInt32 31)).toInt32 &&& (1431655765 : Int32))) &&& (858993459 : Int32)) + (((x0 - ((x0.toUInt32 >>> ((1 : Int32).toUInt32 &&& Int32.toUInt32 31)).toInt32 &&& (1431655765 : Int32))).toUInt32 >>> ((2 : Int32).toUInt32 &&& Int32.toUInt32 31)).toInt32 &&& (858993459 : Int32))) + ((((x0 - ((x0.toUInt32 >>> ((1 : Int32).toUInt32 &&& Int32.toUInt32 31)).toInt32 &&& (1431655765 : Int32))) &&& (858993459 : Int32)) + (((x0 - ((x0.toUInt32 >>> ((1 : Int32).toUInt32 &&& Int32.toUInt32 31)).toInt32 &&& (1431655765 : Int32))).toUInt32 >>> ((2 : Int32).toUInt32 &&& Int32.toUInt32 31)).toInt32 &&& (858993459 : Int32))).toUInt32 >>> ((4 : Int32).toUInt32 &&& Int32.toUInt32 31)).toInt32) &&& (252645135 : Int32)) + ((((((x0 - ((x0.toUInt32 >>> ((1 : Int32).toUInt32 &&& Int32.toUInt32 31)).toInt32 &&& (1431655765 : Int32))) &&& (858993459 : Int32)) + (((x0 - ((x0.toUInt32 >>> ((1 : Int32).toUInt32 &&& Int32.toUInt32 31)).toInt32 &&& (1431655765 : Int32))).toUInt32 >>> ((2 : Int32).toUInt32 &&& Int32.toUInt32 31)).toInt32 &&& (858993459 : Int32))) + ((((x0 - ((x0.toUInt32 >>> ((1 : Int32).toUInt32 &&& Int32.toUInt32 31)).toInt32 &&& (1431655765 : Int32))) &&& (858993459 : Int32)) + (((x0 - ((x0.toUInt32 >>> ((1 : Int32).toUInt32 &&& Int32.toUInt32 31)).toInt32 &&& (1431655765 : Int32))).toUInt32 >>> ((2 : Int32).toUInt32 &&& Int32.toUInt32 31)).toInt32 &&& (858993459 : Int32))).toUInt32 >>> ((4 : Int32).toUInt32 &&& Int32.toUInt32 31)).toInt32) &&& (252645135 : Int32)).toUInt32 >>> ((8 : Int32).toUInt32 &&& Int32.toUInt32 31)).toInt32).toUInt32 >>> ((16 : Int32).toUInt32 &&& Int32.toUInt32 31)).toInt32) &&& (63 : Int32)), (), rfl, by rw [hT, ← hM], by rw [ht]; exact hP, va_K.moved hW.alike hK, hD⟩, hS.F ht⟩) hS.2.2 nd_Integer_bitCount_52
end
section
theorem nd_Plan_hasTask_0 : decode prog_4_method_2_code 0 = .ok (.iload_n 1, 1) := by decide +kernel
theorem nd_Plan_hasTask_1 : decode prog_4_method_2_code 1 = .ok (.iconst 1, 1) := by decide +kernel
theorem nd_Plan_hasTask_2 : decode prog_4_method_2_code 2 = .ok (.if_icmp .lt (15), 3) := by decide +kernel
theorem nd_Plan_hasTask_5 : decode prog_4_method_2_code 5 = .ok (.iload_n 1, 1) := by decide +kernel
theorem nd_Plan_hasTask_6 : decode prog_4_method_2_code 6 = .ok (.aload_n 0, 1) := by decide +kernel
theorem nd_Plan_hasTask_7 : decode prog_4_method_2_code 7 = .ok (.getfield 29, 3) := by decide +kernel
theorem nd_Plan_hasTask_10 : decode prog_4_method_2_code 10 = .ok (.if_icmp .gt (7), 3) := by decide +kernel
theorem nd_Plan_hasTask_13 : decode prog_4_method_2_code 13 = .ok (.iconst 1, 1) := by decide +kernel
theorem nd_Plan_hasTask_14 : decode prog_4_method_2_code 14 = .ok (.goto (4), 3) := by decide +kernel
theorem nd_Plan_hasTask_17 : decode prog_4_method_2_code 17 = .ok (.iconst 0, 1) := by decide +kernel
theorem nd_Plan_hasTask_18 : decode prog_4_method_2_code 18 = .ok (.ireturn, 1) := by decide +kernel
def md_Plan_hasTask (pl : cr_S) (x1 : Int32) : Int32 :=
  (if x1 < (1 : Int32) then (0 : Int32) else (if (pl 0 0) < x1 then (0 : Int32) else (1 : Int32)))
abbrev pq_Plan_hasTask (dC : Nat → ClassId) (dI : Nat → Nat → Nat) (cI cZ cO : ClassId) (apl : Nat → Nat) (pl : cr_S) (x1 : Int32) (A : Nat → Prop) : Array Value → State → Outcome → State → Prop :=
  va_Qi (fun (r : Int32) (_ : Unit) => r = md_Plan_hasTask pl x1 ∧ (r.toInt = 0 ∨ (1 ≤ x1.toInt ∧ x1.toInt ≤ (pl 0 0).toInt))) (fun (_ : Unit) t => va_P (dC, dI) vwCl (cw_Plan cI cZ cO apl pl) t.heap ∧ va_K (dC, dI) vwCl [(cI, .int), (cZ, .boolean), (cO, .array .int)] t ∧ va_D A (cw_Plan cI cZ cO apl pl)) A
set_option maxHeartbeats 4000000 in
set_option maxRecDepth 100000 in
theorem ct_Plan_hasTask (l : Launch) (dC : Nat → ClassId) (dI : Nat → Nat → Nat) (cI cZ cO : ClassId) (apl : Nat → Nat) (sz : Nat) (pl : cr_S) (x1 : Int32) (hR_pl : cr_RPlan pl) : Met l ny_Plan_hasTask nw_Plan_hasTask ({ frames := 0, cells := 0, slots := 0, locals := 0 } : Room) (va_Pc [.ref (apl 0), .int x1] (fun U => U.heap.size = sz ∧ va_P (dC, dI) vwCl (cw_Plan cI cZ cO apl pl) U.heap ∧ va_K (dC, dI) vwCl [(cI, .int), (cZ, .boolean), (cO, .array .int)] U ∧ va_D (fun _ => True) (cw_Plan cI cZ cO apl pl))) (pq_Plan_hasTask dC dI cI cZ cO apl pl x1 (va_A (cw_Plan cI cZ cO apl pl) sz)) 0 0 (va_A (cw_Plan cI cZ cO apl pl) sz) := by
  refine Met.ofW (cc := prog_4_method_2_code) (maxL := 2) (ret := (some .boolean)) (by decide) rfl ?_
  intro p e s m args below meth c s₁ B hml hv
  obtain ⟨rfl, hsz, hP, hK, hD0⟩ := hv
  have hx := B.exec
  have hb := B.bytes
  have hr := B.returns
  have hts0 := atoms_spec (ws := nw_Plan_hasTask) B.pre
  have hts : ∀ w ∈ ng_tbl, w.before ([.ref (apl 0), .int x1] : List Value).toArray s = true := fun w h => hts0 w (List.mem_cons_of_mem _ h)
  have hown : s.vm.findClass "CeilingRows$Plan" = some m.cls := findClass_of_methodNamed B.named
  have hlocks := B.notSynchronized
  subst hsz
  have hD := hD0.self (sz := s.heap.size)
  generalize hAe : va_A (cw_Plan cI cZ cO apl pl) s.heap.size = A at hD ⊢
  have hA : ∀ q : Nat, s.heap.size ≤ q → A q := fun q h => by rw [← hAe]; exact Or.inr h
  have hS : va_S A s.heap s.heap [] := va_S.rf
  have hP : va_P (dC, dI) vwCl (cw_Plan cI cZ cO apl pl) s.heap := hP
  have hl := lv_entry ([.ref (apl 0), .int x1]) (n := 2) (Nat.le_of_ble_eq_true rfl)
  rw [lg_entry_eq]
  generalize (lg_sl ([.ref (apl 0), .int x1]) ++ List.replicate (2 - (lg_sl ([.ref (apl 0), .int x1])).length) Slot.unset).toArray = ls at hl ⊢
  have hl : lv_has ls 2 [(0, .ref (apl 0)), (1, .int x1)] := hl
  have k_0 : (0 : Int32).toInt = 0 := by decide
  have k_1 : (1 : Int32).toInt = 1 := by decide
  obtain ⟨tgt, hT⟩ : ∃ z, md_Plan_hasTask pl x1 = z := ⟨_, rfl⟩
  have hM := hT
  unfold md_Plan_hasTask at hM
  refine lv_iload_n hx hb nd_Plan_hasTask_0 rfl (lv_at hl 1 rfl) ?_
  refine lv_iconst (v := 1) hx hb nd_Plan_hasTask_1 (by decide) ?_
  refine lv_icmp_lt (tgt := 17) hx hb nd_Plan_hasTask_2 (by decide) (fun c_1 => ?_) (fun c_1 => ?_)
  · have c_1t := cr_lt c_1
    rw [if_pos c_1] at hM
    refine lv_iconst (v := 0) hx hb nd_Plan_hasTask_17 (by decide) ?_
    exact W.zret (v := (0 : Int32)) (ty := .boolean) hx hb hr (by decide) (fun t ht hW => ⟨⟨(0 : Int32), (), rfl, ⟨by rw [hT, ← hM], by omega⟩, by rw [ht]; exact hP, va_K.moved hW.alike hK, hD⟩, hS.F ht⟩) hS.2.2 nd_Plan_hasTask_18
  · have c_1t := cr_nlt c_1
    rw [if_neg c_1] at hM
    refine lv_iload_n hx hb nd_Plan_hasTask_5 rfl (lv_at hl 1 rfl) ?_
    refine lv_aload_n hx hb nd_Plan_hasTask_6 rfl (lv_at hl 0 rfl) ?_
    refine va_get (D := (dC, dI)) (ci := 0) (v := .int (pl 0 0)) (C := "CeilingRows$Plan") (T := nf_Plan) (N := 7) hx hb hts nin_Plan hown hK hP 0 rfl rfl 0 (by decide) (hts _ tw_26) (fun _ h9 => h9) rfl nd_Plan_hasTask_7 ?_
    have f_2 := cr_rfo hR_pl.1
    refine lv_icmp_gt (tgt := 17) hx hb nd_Plan_hasTask_10 (by decide) (fun c_3 => ?_) (fun c_3 => ?_)
    · have c_3t := cr_lt c_3
      rw [if_pos c_3] at hM
      refine lv_iconst (v := 0) hx hb nd_Plan_hasTask_17 (by decide) ?_
      exact W.zret (v := (0 : Int32)) (ty := .boolean) hx hb hr (by decide) (fun t ht hW => ⟨⟨(0 : Int32), (), rfl, ⟨by rw [hT, ← hM], by omega⟩, by rw [ht]; exact hP, va_K.moved hW.alike hK, hD⟩, hS.F ht⟩) hS.2.2 nd_Plan_hasTask_18
    · have c_3t := cr_nlt c_3
      rw [if_neg c_3] at hM
      refine lv_iconst (v := 1) hx hb nd_Plan_hasTask_13 (by decide) ?_
      refine lv_goto (tgt := 18) hx hb nd_Plan_hasTask_14 (by decide) ?_
      exact W.zret (v := (1 : Int32)) (ty := .boolean) hx hb hr (by decide) (fun t ht hW => ⟨⟨(1 : Int32), (), rfl, ⟨by rw [hT, ← hM], by omega⟩, by rw [ht]; exact hP, va_K.moved hW.alike hK, hD⟩, hS.F ht⟩) hS.2.2 nd_Plan_hasTask_18

theorem nd_Plan_hasResource_0 : decode prog_4_method_3_code 0 = .ok (.iload_n 1, 1) := by decide +kernel
theorem nd_Plan_hasResource_1 : decode prog_4_method_3_code 1 = .ok (.iconst 1, 1) := by decide +kernel
theorem nd_Plan_hasResource_2 : decode prog_4_method_3_code 2 = .ok (.if_icmp .lt (15), 3) := by decide +kernel
theorem nd_Plan_hasResource_5 : decode prog_4_method_3_code 5 = .ok (.iload_n 1, 1) := by decide +kernel
theorem nd_Plan_hasResource_6 : decode prog_4_method_3_code 6 = .ok (.aload_n 0, 1) := by decide +kernel
theorem nd_Plan_hasResource_7 : decode prog_4_method_3_code 7 = .ok (.getfield 33, 3) := by decide +kernel
theorem nd_Plan_hasResource_10 : decode prog_4_method_3_code 10 = .ok (.if_icmp .gt (7), 3) := by decide +kernel
theorem nd_Plan_hasResource_13 : decode prog_4_method_3_code 13 = .ok (.iconst 1, 1) := by decide +kernel
theorem nd_Plan_hasResource_14 : decode prog_4_method_3_code 14 = .ok (.goto (4), 3) := by decide +kernel
theorem nd_Plan_hasResource_17 : decode prog_4_method_3_code 17 = .ok (.iconst 0, 1) := by decide +kernel
theorem nd_Plan_hasResource_18 : decode prog_4_method_3_code 18 = .ok (.ireturn, 1) := by decide +kernel
def md_Plan_hasResource (pl : cr_S) (x1 : Int32) : Int32 :=
  (if x1 < (1 : Int32) then (0 : Int32) else (if (pl 0 1) < x1 then (0 : Int32) else (1 : Int32)))
abbrev pq_Plan_hasResource (dC : Nat → ClassId) (dI : Nat → Nat → Nat) (cI cZ cO : ClassId) (apl : Nat → Nat) (pl : cr_S) (x1 : Int32) (A : Nat → Prop) : Array Value → State → Outcome → State → Prop :=
  va_Qi (fun (r : Int32) (_ : Unit) => r = md_Plan_hasResource pl x1 ∧ (r.toInt = 0 ∨ (1 ≤ x1.toInt ∧ x1.toInt ≤ (pl 0 1).toInt))) (fun (_ : Unit) t => va_P (dC, dI) vwCl (cw_Plan cI cZ cO apl pl) t.heap ∧ va_K (dC, dI) vwCl [(cI, .int), (cZ, .boolean), (cO, .array .int)] t ∧ va_D A (cw_Plan cI cZ cO apl pl)) A
set_option maxHeartbeats 4000000 in
set_option maxRecDepth 100000 in
theorem ct_Plan_hasResource (l : Launch) (dC : Nat → ClassId) (dI : Nat → Nat → Nat) (cI cZ cO : ClassId) (apl : Nat → Nat) (sz : Nat) (pl : cr_S) (x1 : Int32) (hR_pl : cr_RPlan pl) : Met l ny_Plan_hasResource nw_Plan_hasResource ({ frames := 0, cells := 0, slots := 0, locals := 0 } : Room) (va_Pc [.ref (apl 0), .int x1] (fun U => U.heap.size = sz ∧ va_P (dC, dI) vwCl (cw_Plan cI cZ cO apl pl) U.heap ∧ va_K (dC, dI) vwCl [(cI, .int), (cZ, .boolean), (cO, .array .int)] U ∧ va_D (fun _ => True) (cw_Plan cI cZ cO apl pl))) (pq_Plan_hasResource dC dI cI cZ cO apl pl x1 (va_A (cw_Plan cI cZ cO apl pl) sz)) 0 0 (va_A (cw_Plan cI cZ cO apl pl) sz) := by
  refine Met.ofW (cc := prog_4_method_3_code) (maxL := 2) (ret := (some .boolean)) (by decide) rfl ?_
  intro p e s m args below meth c s₁ B hml hv
  obtain ⟨rfl, hsz, hP, hK, hD0⟩ := hv
  have hx := B.exec
  have hb := B.bytes
  have hr := B.returns
  have hts0 := atoms_spec (ws := nw_Plan_hasResource) B.pre
  have hts : ∀ w ∈ ng_tbl, w.before ([.ref (apl 0), .int x1] : List Value).toArray s = true := fun w h => hts0 w (List.mem_cons_of_mem _ h)
  have hown : s.vm.findClass "CeilingRows$Plan" = some m.cls := findClass_of_methodNamed B.named
  have hlocks := B.notSynchronized
  subst hsz
  have hD := hD0.self (sz := s.heap.size)
  generalize hAe : va_A (cw_Plan cI cZ cO apl pl) s.heap.size = A at hD ⊢
  have hA : ∀ q : Nat, s.heap.size ≤ q → A q := fun q h => by rw [← hAe]; exact Or.inr h
  have hS : va_S A s.heap s.heap [] := va_S.rf
  have hP : va_P (dC, dI) vwCl (cw_Plan cI cZ cO apl pl) s.heap := hP
  have hl := lv_entry ([.ref (apl 0), .int x1]) (n := 2) (Nat.le_of_ble_eq_true rfl)
  rw [lg_entry_eq]
  generalize (lg_sl ([.ref (apl 0), .int x1]) ++ List.replicate (2 - (lg_sl ([.ref (apl 0), .int x1])).length) Slot.unset).toArray = ls at hl ⊢
  have hl : lv_has ls 2 [(0, .ref (apl 0)), (1, .int x1)] := hl
  have k_0 : (0 : Int32).toInt = 0 := by decide
  have k_1 : (1 : Int32).toInt = 1 := by decide
  obtain ⟨tgt, hT⟩ : ∃ z, md_Plan_hasResource pl x1 = z := ⟨_, rfl⟩
  have hM := hT
  unfold md_Plan_hasResource at hM
  refine lv_iload_n hx hb nd_Plan_hasResource_0 rfl (lv_at hl 1 rfl) ?_
  refine lv_iconst (v := 1) hx hb nd_Plan_hasResource_1 (by decide) ?_
  refine lv_icmp_lt (tgt := 17) hx hb nd_Plan_hasResource_2 (by decide) (fun c_1 => ?_) (fun c_1 => ?_)
  · have c_1t := cr_lt c_1
    rw [if_pos c_1] at hM
    refine lv_iconst (v := 0) hx hb nd_Plan_hasResource_17 (by decide) ?_
    exact W.zret (v := (0 : Int32)) (ty := .boolean) hx hb hr (by decide) (fun t ht hW => ⟨⟨(0 : Int32), (), rfl, ⟨by rw [hT, ← hM], by omega⟩, by rw [ht]; exact hP, va_K.moved hW.alike hK, hD⟩, hS.F ht⟩) hS.2.2 nd_Plan_hasResource_18
  · have c_1t := cr_nlt c_1
    rw [if_neg c_1] at hM
    refine lv_iload_n hx hb nd_Plan_hasResource_5 rfl (lv_at hl 1 rfl) ?_
    refine lv_aload_n hx hb nd_Plan_hasResource_6 rfl (lv_at hl 0 rfl) ?_
    refine va_get (D := (dC, dI)) (ci := 0) (v := .int (pl 0 1)) (C := "CeilingRows$Plan") (T := nf_Plan) (N := 7) hx hb hts nin_Plan hown hK hP 0 rfl rfl 1 (by decide) (hts _ tw_31) (fun _ h9 => h9) rfl nd_Plan_hasResource_7 ?_
    have f_2 := cr_rfo hR_pl.2.1
    refine lv_icmp_gt (tgt := 17) hx hb nd_Plan_hasResource_10 (by decide) (fun c_3 => ?_) (fun c_3 => ?_)
    · have c_3t := cr_lt c_3
      rw [if_pos c_3] at hM
      refine lv_iconst (v := 0) hx hb nd_Plan_hasResource_17 (by decide) ?_
      exact W.zret (v := (0 : Int32)) (ty := .boolean) hx hb hr (by decide) (fun t ht hW => ⟨⟨(0 : Int32), (), rfl, ⟨by rw [hT, ← hM], by omega⟩, by rw [ht]; exact hP, va_K.moved hW.alike hK, hD⟩, hS.F ht⟩) hS.2.2 nd_Plan_hasResource_18
    · have c_3t := cr_nlt c_3
      rw [if_neg c_3] at hM
      refine lv_iconst (v := 1) hx hb nd_Plan_hasResource_13 (by decide) ?_
      refine lv_goto (tgt := 18) hx hb nd_Plan_hasResource_14 (by decide) ?_
      exact W.zret (v := (1 : Int32)) (ty := .boolean) hx hb hr (by decide) (fun t ht hW => ⟨⟨(1 : Int32), (), rfl, ⟨by rw [hT, ← hM], by omega⟩, by rw [ht]; exact hP, va_K.moved hW.alike hK, hD⟩, hS.F ht⟩) hS.2.2 nd_Plan_hasResource_18

theorem nd_Plan_addTask_0 : decode prog_4_method_4_code 0 = .ok (.aload_n 0, 1) := by decide +kernel
theorem nd_Plan_addTask_1 : decode prog_4_method_4_code 1 = .ok (.dup, 1) := by decide +kernel
theorem nd_Plan_addTask_2 : decode prog_4_method_4_code 2 = .ok (.getfield 29, 3) := by decide +kernel
theorem nd_Plan_addTask_5 : decode prog_4_method_4_code 5 = .ok (.iconst 1, 1) := by decide +kernel
theorem nd_Plan_addTask_6 : decode prog_4_method_4_code 6 = .ok (.iadd, 1) := by decide +kernel
theorem nd_Plan_addTask_7 : decode prog_4_method_4_code 7 = .ok (.putfield 29, 3) := by decide +kernel
theorem nd_Plan_addTask_10 : decode prog_4_method_4_code 10 = .ok (.aload_n 0, 1) := by decide +kernel
theorem nd_Plan_addTask_11 : decode prog_4_method_4_code 11 = .ok (.getfield 9, 3) := by decide +kernel
theorem nd_Plan_addTask_14 : decode prog_4_method_4_code 14 = .ok (.aload_n 0, 1) := by decide +kernel
theorem nd_Plan_addTask_15 : decode prog_4_method_4_code 15 = .ok (.getfield 29, 3) := by decide +kernel
theorem nd_Plan_addTask_18 : decode prog_4_method_4_code 18 = .ok (.iload_n 1, 1) := by decide +kernel
theorem nd_Plan_addTask_19 : decode prog_4_method_4_code 19 = .ok (.iastore, 1) := by decide +kernel
theorem nd_Plan_addTask_20 : decode prog_4_method_4_code 20 = .ok (.aload_n 0, 1) := by decide +kernel
theorem nd_Plan_addTask_21 : decode prog_4_method_4_code 21 = .ok (.getfield 15, 3) := by decide +kernel
theorem nd_Plan_addTask_24 : decode prog_4_method_4_code 24 = .ok (.aload_n 0, 1) := by decide +kernel
theorem nd_Plan_addTask_25 : decode prog_4_method_4_code 25 = .ok (.getfield 29, 3) := by decide +kernel
theorem nd_Plan_addTask_28 : decode prog_4_method_4_code 28 = .ok (.iload_n 2, 1) := by decide +kernel
theorem nd_Plan_addTask_29 : decode prog_4_method_4_code 29 = .ok (.iastore, 1) := by decide +kernel
theorem nd_Plan_addTask_30 : decode prog_4_method_4_code 30 = .ok (.aload_n 0, 1) := by decide +kernel
theorem nd_Plan_addTask_31 : decode prog_4_method_4_code 31 = .ok (.getfield 29, 3) := by decide +kernel
theorem nd_Plan_addTask_34 : decode prog_4_method_4_code 34 = .ok (.ireturn, 1) := by decide +kernel
def md_Plan_addTask (pl : cr_S) (x1 : Int32) (x2 : Int32) : Int32 × cr_S :=
  (((cr_up (cr_up (cr_up pl 0 0 ((pl 0 0) + (1 : Int32))) 1 ((cr_up pl 0 0 ((pl 0 0) + (1 : Int32))) 0 0).toNatClampNeg x1) 2 ((cr_up (cr_up pl 0 0 ((pl 0 0) + (1 : Int32))) 1 ((cr_up pl 0 0 ((pl 0 0) + (1 : Int32))) 0 0).toNatClampNeg x1) 0 0).toNatClampNeg x2) 0 0), (cr_up (cr_up (cr_up pl 0 0 ((pl 0 0) + (1 : Int32))) 1 ((cr_up pl 0 0 ((pl 0 0) + (1 : Int32))) 0 0).toNatClampNeg x1) 2 ((cr_up (cr_up pl 0 0 ((pl 0 0) + (1 : Int32))) 1 ((cr_up pl 0 0 ((pl 0 0) + (1 : Int32))) 0 0).toNatClampNeg x1) 0 0).toNatClampNeg x2))
abbrev pq_Plan_addTask (dC : Nat → ClassId) (dI : Nat → Nat → Nat) (cI cZ cO : ClassId) (apl : Nat → Nat) (pl : cr_S) (x1 : Int32) (x2 : Int32) (A : Nat → Prop) : Array Value → State → Outcome → State → Prop :=
  va_Qi (fun (r : Int32) (pl' : cr_S) => r = (md_Plan_addTask pl x1 x2).1 ∧ pl' = (md_Plan_addTask pl x1 x2).2 ∧ cr_RPlan pl') (fun (pl' : cr_S) t => va_P (dC, dI) vwCl (cw_Plan cI cZ cO apl pl') t.heap ∧ va_K (dC, dI) vwCl [(cI, .int), (cZ, .boolean), (cO, .array .int)] t ∧ va_D A (cw_Plan cI cZ cO apl pl')) A
set_option maxHeartbeats 4000000 in
set_option maxRecDepth 100000 in
theorem ct_Plan_addTask (l : Launch) (dC : Nat → ClassId) (dI : Nat → Nat → Nat) (cI cZ cO : ClassId) (apl : Nat → Nat) (sz : Nat) (pl : cr_S) (x1 : Int32) (x2 : Int32) (hR_pl : cr_RPlan pl) (hx2 : 1 ≤ x2.toInt ∧ x2.toInt ≤ 3) (hq : (pl 0 0).toInt ≤ 9) : Met l ny_Plan_addTask nw_Plan_addTask ({ frames := 0, cells := 0, slots := 0, locals := 0 } : Room) (va_Pc [.ref (apl 0), .int x1, .int x2] (fun U => U.heap.size = sz ∧ va_P (dC, dI) vwCl (cw_Plan cI cZ cO apl pl) U.heap ∧ va_K (dC, dI) vwCl [(cI, .int), (cZ, .boolean), (cO, .array .int)] U ∧ va_D (fun _ => True) (cw_Plan cI cZ cO apl pl))) (pq_Plan_addTask dC dI cI cZ cO apl pl x1 x2 (va_A (cw_Plan cI cZ cO apl pl) sz)) 0 0 (va_A (cw_Plan cI cZ cO apl pl) sz) := by
  refine Met.ofW (cc := prog_4_method_4_code) (maxL := 3) (ret := (some .int)) (by decide) rfl ?_
  intro p e s m args below meth c s₁ B hml hv
  obtain ⟨rfl, hsz, hP, hK, hD0⟩ := hv
  have hx := B.exec
  have hb := B.bytes
  have hr := B.returns
  have hts0 := atoms_spec (ws := nw_Plan_addTask) B.pre
  have hts : ∀ w ∈ ng_tbl, w.before ([.ref (apl 0), .int x1, .int x2] : List Value).toArray s = true := fun w h => hts0 w (List.mem_cons_of_mem _ h)
  have hown : s.vm.findClass "CeilingRows$Plan" = some m.cls := findClass_of_methodNamed B.named
  have hlocks := B.notSynchronized
  subst hsz
  have hD := hD0.self (sz := s.heap.size)
  generalize hAe : va_A (cw_Plan cI cZ cO apl pl) s.heap.size = A at hD ⊢
  have hA : ∀ q : Nat, s.heap.size ≤ q → A q := fun q h => by rw [← hAe]; exact Or.inr h
  have hS : va_S A s.heap s.heap [] := va_S.rf
  have hP : va_P (dC, dI) vwCl (cw_Plan cI cZ cO apl pl) s.heap := hP
  have hl := lv_entry ([.ref (apl 0), .int x1, .int x2]) (n := 3) (Nat.le_of_ble_eq_true rfl)
  rw [lg_entry_eq]
  generalize (lg_sl ([.ref (apl 0), .int x1, .int x2]) ++ List.replicate (3 - (lg_sl ([.ref (apl 0), .int x1, .int x2])).length) Slot.unset).toArray = ls at hl ⊢
  have hl : lv_has ls 3 [(0, .ref (apl 0)), (1, .int x1), (2, .int x2)] := hl
  have k_1 : (1 : Int32).toInt = 1 := by decide
  obtain ⟨tgt, hT⟩ : ∃ z, md_Plan_addTask pl x1 x2 = z := ⟨_, rfl⟩
  have hM := hT
  unfold md_Plan_addTask at hM
  refine lv_aload_n hx hb nd_Plan_addTask_0 rfl (lv_at hl 0 rfl) ?_
  refine lv_dup hx hb nd_Plan_addTask_1 rfl ?_
  refine va_get (D := (dC, dI)) (ci := 0) (v := .int (pl 0 0)) (C := "CeilingRows$Plan") (T := nf_Plan) (N := 7) hx hb hts nin_Plan hown hK hP 0 rfl rfl 0 (by decide) (hts _ tw_26) (fun _ h9 => h9) rfl nd_Plan_addTask_2 ?_
  have f_1 := cr_rfo hR_pl.1
  refine lv_iconst (v := 1) hx hb nd_Plan_addTask_5 (by decide) ?_
  refine lv_iadd hx hb nd_Plan_addTask_6 ?_
  have e_2 : ((pl 0 0) + (1 : Int32)).toInt = (pl 0 0).toInt + (1 : Int32).toInt := cr_add (by omega)
  refine va_put (D := (dC, dI)) (ci := 0) (v := .int ((pl 0 0) + (1 : Int32))) (ty := .int) (C := "CeilingRows$Plan") (T := nf_Plan) (N := 7) hx hb hts nin_Plan nt_Plan nto_Plan nno_Plan hown hK hP hD hS 0 rfl rfl 0 (by decide) (hts _ tw_26) (fun _ h9 => h9) rfl (by decide +kernel) rfl rfl (Nat.le_of_ble_eq_true rfl) nd_Plan_addTask_7 (fun H locs hP hD hS => ?_)
  have hP : va_P (dC, dI) vwCl (cw_Plan cI cZ cO apl (cr_up pl 0 0 ((pl 0 0) + (1 : Int32)))) H := hP
  have hD : va_D A (cw_Plan cI cZ cO apl (cr_up pl 0 0 ((pl 0 0) + (1 : Int32)))) := hD
  have hR_3 : cr_RPlan (cr_up pl 0 0 ((pl 0 0) + (1 : Int32))) := ⟨cr_rf_up hR_pl.1 (fun _ _ => by omega), cr_rf_up hR_pl.2.1 (fun _ e => absurd e (by decide)), cr_rg_up hR_pl.2.2 (fun e => absurd e (by decide))⟩
  obtain ⟨plq_4, hplq_4⟩ : ∃ z, (cr_up pl 0 0 ((pl 0 0) + (1 : Int32))) = z := ⟨_, rfl⟩
  rw [hplq_4] at hP hD hR_3
  try rw [hplq_4] at hM
  refine lv_aload_n hx hb nd_Plan_addTask_10 rfl (lv_at hl 0 rfl) ?_
  refine va_get (D := (dC, dI)) (ci := 0) (v := .ref (apl 1)) (C := "CeilingRows$Plan") (T := nf_Plan) (N := 7) hx hb hts nin_Plan hown hK hP 0 rfl rfl 2 (by decide) (hts _ tw_34) (fun _ h9 => h9) rfl nd_Plan_addTask_11 ?_
  refine lv_aload_n hx hb nd_Plan_addTask_14 rfl (lv_at hl 0 rfl) ?_
  refine va_get (D := (dC, dI)) (ci := 0) (v := .int (plq_4 0 0)) (C := "CeilingRows$Plan") (T := nf_Plan) (N := 7) hx hb hts nin_Plan hown hK hP 0 rfl rfl 0 (by decide) (hts _ tw_26) (fun _ h9 => h9) rfl nd_Plan_addTask_15 ?_
  have f_5 := cr_rfo hR_3.1
  refine lv_iload_n hx hb nd_Plan_addTask_18 rfl (lv_at hl 1 rfl) ?_
  have b_6 : vp_in (plq_4 0 0) 11 := vp_in_iff.mpr (by omega)
  refine va_iast hx hb hK hP hD hS 1 0 rfl rfl b_6 nd_Plan_addTask_19 (fun H locs hP hD hS => ?_)
  have hP : va_P (dC, dI) vwCl (cw_Plan cI cZ cO apl (cr_up plq_4 1 (plq_4 0 0).toNatClampNeg x1)) H := hP
  have hD : va_D A (cw_Plan cI cZ cO apl (cr_up plq_4 1 (plq_4 0 0).toNatClampNeg x1)) := hD
  have hR_7 : cr_RPlan (cr_up plq_4 1 (plq_4 0 0).toNatClampNeg x1) := ⟨cr_rf_up hR_3.1 (fun e _ => absurd e (by decide)), cr_rf_up hR_3.2.1 (fun e _ => absurd e (by decide)), cr_rg_up hR_3.2.2 (fun e => absurd e (by decide))⟩
  obtain ⟨plq_8, hplq_8⟩ : ∃ z, (cr_up plq_4 1 (plq_4 0 0).toNatClampNeg x1) = z := ⟨_, rfl⟩
  rw [hplq_8] at hP hD hR_7
  try rw [hplq_8] at hM
  refine lv_aload_n hx hb nd_Plan_addTask_20 rfl (lv_at hl 0 rfl) ?_
  refine va_get (D := (dC, dI)) (ci := 0) (v := .ref (apl 2)) (C := "CeilingRows$Plan") (T := nf_Plan) (N := 7) hx hb hts nin_Plan hown hK hP 0 rfl rfl 3 (by decide) (hts _ tw_36) (fun _ h9 => h9) rfl nd_Plan_addTask_21 ?_
  refine lv_aload_n hx hb nd_Plan_addTask_24 rfl (lv_at hl 0 rfl) ?_
  refine va_get (D := (dC, dI)) (ci := 0) (v := .int (plq_8 0 0)) (C := "CeilingRows$Plan") (T := nf_Plan) (N := 7) hx hb hts nin_Plan hown hK hP 0 rfl rfl 0 (by decide) (hts _ tw_26) (fun _ h9 => h9) rfl nd_Plan_addTask_25 ?_
  have f_9 := cr_rfo hR_7.1
  refine lv_iload_n hx hb nd_Plan_addTask_28 rfl (lv_at hl 2 rfl) ?_
  have b_10 : vp_in (plq_8 0 0) 11 := vp_in_iff.mpr (by omega)
  refine va_iast hx hb hK hP hD hS 2 0 rfl rfl b_10 nd_Plan_addTask_29 (fun H locs hP hD hS => ?_)
  have hP : va_P (dC, dI) vwCl (cw_Plan cI cZ cO apl (cr_up plq_8 2 (plq_8 0 0).toNatClampNeg x2)) H := hP
  have hD : va_D A (cw_Plan cI cZ cO apl (cr_up plq_8 2 (plq_8 0 0).toNatClampNeg x2)) := hD
  have hR_11 : cr_RPlan (cr_up plq_8 2 (plq_8 0 0).toNatClampNeg x2) := ⟨cr_rf_up hR_7.1 (fun e _ => absurd e (by decide)), cr_rf_up hR_7.2.1 (fun e _ => absurd e (by decide)), cr_rg_up hR_7.2.2 (fun _ => by omega)⟩
  obtain ⟨plq_12, hplq_12⟩ : ∃ z, (cr_up plq_8 2 (plq_8 0 0).toNatClampNeg x2) = z := ⟨_, rfl⟩
  rw [hplq_12] at hP hD hR_11
  try rw [hplq_12] at hM
  refine lv_aload_n hx hb nd_Plan_addTask_30 rfl (lv_at hl 0 rfl) ?_
  refine va_get (D := (dC, dI)) (ci := 0) (v := .int (plq_12 0 0)) (C := "CeilingRows$Plan") (T := nf_Plan) (N := 7) hx hb hts nin_Plan hown hK hP 0 rfl rfl 0 (by decide) (hts _ tw_26) (fun _ h9 => h9) rfl nd_Plan_addTask_31 ?_
  have f_13 := cr_rfo hR_11.1
  exact W.iret (v := (plq_12 0 0)) hx hb hr (fun t ht hW => ⟨⟨(plq_12 0 0), plq_12, rfl, ⟨by rw [hT, ← hM], by rw [hT, ← hM], hR_11⟩, by rw [ht]; exact hP, va_K.moved hW.alike hK, hD⟩, hS.F ht⟩) hS.2.2 nd_Plan_addTask_34

theorem nd_Plan_addResource_0 : decode prog_4_method_5_code 0 = .ok (.aload_n 0, 1) := by decide +kernel
theorem nd_Plan_addResource_1 : decode prog_4_method_5_code 1 = .ok (.dup, 1) := by decide +kernel
theorem nd_Plan_addResource_2 : decode prog_4_method_5_code 2 = .ok (.getfield 33, 3) := by decide +kernel
theorem nd_Plan_addResource_5 : decode prog_4_method_5_code 5 = .ok (.iconst 1, 1) := by decide +kernel
theorem nd_Plan_addResource_6 : decode prog_4_method_5_code 6 = .ok (.iadd, 1) := by decide +kernel
theorem nd_Plan_addResource_7 : decode prog_4_method_5_code 7 = .ok (.putfield 33, 3) := by decide +kernel
theorem nd_Plan_addResource_10 : decode prog_4_method_5_code 10 = .ok (.aload_n 0, 1) := by decide +kernel
theorem nd_Plan_addResource_11 : decode prog_4_method_5_code 11 = .ok (.getfield 33, 3) := by decide +kernel
theorem nd_Plan_addResource_14 : decode prog_4_method_5_code 14 = .ok (.ireturn, 1) := by decide +kernel
def md_Plan_addResource (pl : cr_S) : Int32 × cr_S :=
  (((cr_up pl 0 1 ((pl 0 1) + (1 : Int32))) 0 1), (cr_up pl 0 1 ((pl 0 1) + (1 : Int32))))
abbrev pq_Plan_addResource (dC : Nat → ClassId) (dI : Nat → Nat → Nat) (cI cZ cO : ClassId) (apl : Nat → Nat) (pl : cr_S)  (A : Nat → Prop) : Array Value → State → Outcome → State → Prop :=
  va_Qi (fun (r : Int32) (pl' : cr_S) => r = (md_Plan_addResource pl).1 ∧ pl' = (md_Plan_addResource pl).2 ∧ cr_RPlan pl') (fun (pl' : cr_S) t => va_P (dC, dI) vwCl (cw_Plan cI cZ cO apl pl') t.heap ∧ va_K (dC, dI) vwCl [(cI, .int), (cZ, .boolean), (cO, .array .int)] t ∧ va_D A (cw_Plan cI cZ cO apl pl')) A
set_option maxHeartbeats 4000000 in
set_option maxRecDepth 100000 in
theorem ct_Plan_addResource (l : Launch) (dC : Nat → ClassId) (dI : Nat → Nat → Nat) (cI cZ cO : ClassId) (apl : Nat → Nat) (sz : Nat) (pl : cr_S)  (hR_pl : cr_RPlan pl) (hq : (pl 0 1).toInt ≤ 7) : Met l ny_Plan_addResource nw_Plan_addResource ({ frames := 0, cells := 0, slots := 0, locals := 0 } : Room) (va_Pc [.ref (apl 0)] (fun U => U.heap.size = sz ∧ va_P (dC, dI) vwCl (cw_Plan cI cZ cO apl pl) U.heap ∧ va_K (dC, dI) vwCl [(cI, .int), (cZ, .boolean), (cO, .array .int)] U ∧ va_D (fun _ => True) (cw_Plan cI cZ cO apl pl))) (pq_Plan_addResource dC dI cI cZ cO apl pl  (va_A (cw_Plan cI cZ cO apl pl) sz)) 0 0 (va_A (cw_Plan cI cZ cO apl pl) sz) := by
  refine Met.ofW (cc := prog_4_method_5_code) (maxL := 1) (ret := (some .int)) (by decide) rfl ?_
  intro p e s m args below meth c s₁ B hml hv
  obtain ⟨rfl, hsz, hP, hK, hD0⟩ := hv
  have hx := B.exec
  have hb := B.bytes
  have hr := B.returns
  have hts0 := atoms_spec (ws := nw_Plan_addResource) B.pre
  have hts : ∀ w ∈ ng_tbl, w.before ([.ref (apl 0)] : List Value).toArray s = true := fun w h => hts0 w (List.mem_cons_of_mem _ h)
  have hown : s.vm.findClass "CeilingRows$Plan" = some m.cls := findClass_of_methodNamed B.named
  have hlocks := B.notSynchronized
  subst hsz
  have hD := hD0.self (sz := s.heap.size)
  generalize hAe : va_A (cw_Plan cI cZ cO apl pl) s.heap.size = A at hD ⊢
  have hA : ∀ q : Nat, s.heap.size ≤ q → A q := fun q h => by rw [← hAe]; exact Or.inr h
  have hS : va_S A s.heap s.heap [] := va_S.rf
  have hP : va_P (dC, dI) vwCl (cw_Plan cI cZ cO apl pl) s.heap := hP
  have hl := lv_entry ([.ref (apl 0)]) (n := 1) (Nat.le_of_ble_eq_true rfl)
  rw [lg_entry_eq]
  generalize (lg_sl ([.ref (apl 0)]) ++ List.replicate (1 - (lg_sl ([.ref (apl 0)])).length) Slot.unset).toArray = ls at hl ⊢
  have hl : lv_has ls 1 [(0, .ref (apl 0))] := hl
  have k_1 : (1 : Int32).toInt = 1 := by decide
  obtain ⟨tgt, hT⟩ : ∃ z, md_Plan_addResource pl = z := ⟨_, rfl⟩
  have hM := hT
  unfold md_Plan_addResource at hM
  refine lv_aload_n hx hb nd_Plan_addResource_0 rfl (lv_at hl 0 rfl) ?_
  refine lv_dup hx hb nd_Plan_addResource_1 rfl ?_
  refine va_get (D := (dC, dI)) (ci := 0) (v := .int (pl 0 1)) (C := "CeilingRows$Plan") (T := nf_Plan) (N := 7) hx hb hts nin_Plan hown hK hP 0 rfl rfl 1 (by decide) (hts _ tw_31) (fun _ h9 => h9) rfl nd_Plan_addResource_2 ?_
  have f_1 := cr_rfo hR_pl.2.1
  refine lv_iconst (v := 1) hx hb nd_Plan_addResource_5 (by decide) ?_
  refine lv_iadd hx hb nd_Plan_addResource_6 ?_
  have e_2 : ((pl 0 1) + (1 : Int32)).toInt = (pl 0 1).toInt + (1 : Int32).toInt := cr_add (by omega)
  refine va_put (D := (dC, dI)) (ci := 0) (v := .int ((pl 0 1) + (1 : Int32))) (ty := .int) (C := "CeilingRows$Plan") (T := nf_Plan) (N := 7) hx hb hts nin_Plan nt_Plan nto_Plan nno_Plan hown hK hP hD hS 0 rfl rfl 1 (by decide) (hts _ tw_31) (fun _ h9 => h9) rfl (by decide +kernel) rfl rfl (Nat.le_of_ble_eq_true rfl) nd_Plan_addResource_7 (fun H locs hP hD hS => ?_)
  have hP : va_P (dC, dI) vwCl (cw_Plan cI cZ cO apl (cr_up pl 0 1 ((pl 0 1) + (1 : Int32)))) H := hP
  have hD : va_D A (cw_Plan cI cZ cO apl (cr_up pl 0 1 ((pl 0 1) + (1 : Int32)))) := hD
  have hR_3 : cr_RPlan (cr_up pl 0 1 ((pl 0 1) + (1 : Int32))) := ⟨cr_rf_up hR_pl.1 (fun _ e => absurd e (by decide)), cr_rf_up hR_pl.2.1 (fun _ _ => by omega), cr_rg_up hR_pl.2.2 (fun e => absurd e (by decide))⟩
  obtain ⟨plq_4, hplq_4⟩ : ∃ z, (cr_up pl 0 1 ((pl 0 1) + (1 : Int32))) = z := ⟨_, rfl⟩
  rw [hplq_4] at hP hD hR_3
  try rw [hplq_4] at hM
  refine lv_aload_n hx hb nd_Plan_addResource_10 rfl (lv_at hl 0 rfl) ?_
  refine va_get (D := (dC, dI)) (ci := 0) (v := .int (plq_4 0 1)) (C := "CeilingRows$Plan") (T := nf_Plan) (N := 7) hx hb hts nin_Plan hown hK hP 0 rfl rfl 1 (by decide) (hts _ tw_31) (fun _ h9 => h9) rfl nd_Plan_addResource_11 ?_
  have f_5 := cr_rfo hR_3.2.1
  exact W.iret (v := (plq_4 0 1)) hx hb hr (fun t ht hW => ⟨⟨(plq_4 0 1), plq_4, rfl, ⟨by rw [hT, ← hM], by rw [hT, ← hM], hR_3⟩, by rw [ht]; exact hP, va_K.moved hW.alike hK, hD⟩, hS.F ht⟩) hS.2.2 nd_Plan_addResource_14

theorem nd_Plan_isUsedBy_0 : decode prog_4_method_6_code 0 = .ok (.aload_n 0, 1) := by decide +kernel
theorem nd_Plan_isUsedBy_1 : decode prog_4_method_6_code 1 = .ok (.getfield 26, 3) := by decide +kernel
theorem nd_Plan_isUsedBy_4 : decode prog_4_method_6_code 4 = .ok (.iload_n 1, 1) := by decide +kernel
theorem nd_Plan_isUsedBy_5 : decode prog_4_method_6_code 5 = .ok (.aaload, 1) := by decide +kernel
theorem nd_Plan_isUsedBy_6 : decode prog_4_method_6_code 6 = .ok (.iload_n 2, 1) := by decide +kernel
theorem nd_Plan_isUsedBy_7 : decode prog_4_method_6_code 7 = .ok (.iaload, 1) := by decide +kernel
theorem nd_Plan_isUsedBy_8 : decode prog_4_method_6_code 8 = .ok (.ifCond .le (7), 3) := by decide +kernel
theorem nd_Plan_isUsedBy_11 : decode prog_4_method_6_code 11 = .ok (.iconst 1, 1) := by decide +kernel
theorem nd_Plan_isUsedBy_12 : decode prog_4_method_6_code 12 = .ok (.goto (4), 3) := by decide +kernel
theorem nd_Plan_isUsedBy_15 : decode prog_4_method_6_code 15 = .ok (.iconst 0, 1) := by decide +kernel
theorem nd_Plan_isUsedBy_16 : decode prog_4_method_6_code 16 = .ok (.ireturn, 1) := by decide +kernel
def md_Plan_isUsedBy (pl : cr_S) (x1 : Int32) (x2 : Int32) : Int32 :=
  (if (pl (6 + x1.toNatClampNeg) x2.toNatClampNeg) ≤ 0 then (0 : Int32) else (1 : Int32))
abbrev pq_Plan_isUsedBy (dC : Nat → ClassId) (dI : Nat → Nat → Nat) (cI cZ cO : ClassId) (apl : Nat → Nat) (pl : cr_S) (x1 : Int32) (x2 : Int32) (A : Nat → Prop) : Array Value → State → Outcome → State → Prop :=
  va_Qi (fun (r : Int32) (_ : Unit) => r = md_Plan_isUsedBy pl x1 x2) (fun (_ : Unit) t => va_P (dC, dI) vwCl (cw_Plan cI cZ cO apl pl) t.heap ∧ va_K (dC, dI) vwCl [(cI, .int), (cZ, .boolean), (cO, .array .int)] t ∧ va_D A (cw_Plan cI cZ cO apl pl)) A
set_option maxHeartbeats 4000000 in
set_option maxRecDepth 100000 in
theorem ct_Plan_isUsedBy (l : Launch) (dC : Nat → ClassId) (dI : Nat → Nat → Nat) (cI cZ cO : ClassId) (apl : Nat → Nat) (sz : Nat) (pl : cr_S) (x1 : Int32) (x2 : Int32) (hR_pl : cr_RPlan pl) (hx1 : 0 ≤ x1.toInt ∧ x1.toInt ≤ 10) (hx2 : 0 ≤ x2.toInt ∧ x2.toInt ≤ 8) : Met l ny_Plan_isUsedBy nw_Plan_isUsedBy ({ frames := 0, cells := 0, slots := 0, locals := 0 } : Room) (va_Pc [.ref (apl 0), .int x1, .int x2] (fun U => U.heap.size = sz ∧ va_P (dC, dI) vwCl (cw_Plan cI cZ cO apl pl) U.heap ∧ va_K (dC, dI) vwCl [(cI, .int), (cZ, .boolean), (cO, .array .int)] U ∧ va_D (fun _ => True) (cw_Plan cI cZ cO apl pl))) (pq_Plan_isUsedBy dC dI cI cZ cO apl pl x1 x2 (va_A (cw_Plan cI cZ cO apl pl) sz)) 0 0 (va_A (cw_Plan cI cZ cO apl pl) sz) := by
  refine Met.ofW (cc := prog_4_method_6_code) (maxL := 3) (ret := (some .boolean)) (by decide) rfl ?_
  intro p e s m args below meth c s₁ B hml hv
  obtain ⟨rfl, hsz, hP, hK, hD0⟩ := hv
  have hx := B.exec
  have hb := B.bytes
  have hr := B.returns
  have hts0 := atoms_spec (ws := nw_Plan_isUsedBy) B.pre
  have hts : ∀ w ∈ ng_tbl, w.before ([.ref (apl 0), .int x1, .int x2] : List Value).toArray s = true := fun w h => hts0 w (List.mem_cons_of_mem _ h)
  have hown : s.vm.findClass "CeilingRows$Plan" = some m.cls := findClass_of_methodNamed B.named
  have hlocks := B.notSynchronized
  subst hsz
  have hD := hD0.self (sz := s.heap.size)
  generalize hAe : va_A (cw_Plan cI cZ cO apl pl) s.heap.size = A at hD ⊢
  have hA : ∀ q : Nat, s.heap.size ≤ q → A q := fun q h => by rw [← hAe]; exact Or.inr h
  have hS : va_S A s.heap s.heap [] := va_S.rf
  have hP : va_P (dC, dI) vwCl (cw_Plan cI cZ cO apl pl) s.heap := hP
  have hl := lv_entry ([.ref (apl 0), .int x1, .int x2]) (n := 3) (Nat.le_of_ble_eq_true rfl)
  rw [lg_entry_eq]
  generalize (lg_sl ([.ref (apl 0), .int x1, .int x2]) ++ List.replicate (3 - (lg_sl ([.ref (apl 0), .int x1, .int x2])).length) Slot.unset).toArray = ls at hl ⊢
  have hl : lv_has ls 3 [(0, .ref (apl 0)), (1, .int x1), (2, .int x2)] := hl
  have k_0 : (0 : Int32).toInt = 0 := by decide
  have k_1 : (1 : Int32).toInt = 1 := by decide
  obtain ⟨tgt, hT⟩ : ∃ z, md_Plan_isUsedBy pl x1 x2 = z := ⟨_, rfl⟩
  have hM := hT
  unfold md_Plan_isUsedBy at hM
  refine lv_aload_n hx hb nd_Plan_isUsedBy_0 rfl (lv_at hl 0 rfl) ?_
  refine va_get (D := (dC, dI)) (ci := 0) (v := .ref (apl 5)) (C := "CeilingRows$Plan") (T := nf_Plan) (N := 7) hx hb hts nin_Plan hown hK hP 0 rfl rfl 6 (by decide) (hts _ tw_43) (fun _ h9 => h9) rfl nd_Plan_isUsedBy_1 ?_
  refine lv_iload_n hx hb nd_Plan_isUsedBy_4 rfl (lv_at hl 1 rfl) ?_
  have b_1 : vp_in x1 11 := vp_in_iff.mpr (by omega)
  have g_2 : x1.toNatClampNeg < 11 := cr_ix b_1
  refine ga_ald hx hb hK hP 5 2 rfl rfl b_1 g_2 nd_Plan_isUsedBy_5 ?_
  refine lv_iload_n hx hb nd_Plan_isUsedBy_6 rfl (lv_at hl 2 rfl) ?_
  have b_3 : vp_in x2 9 := vp_in_iff.mpr (by omega)
  refine va_iald hx hb hK hP (6 + x1.toNatClampNeg) 0 (cg_Plan_6 cI cZ cO apl pl _ g_2) rfl b_3 nd_Plan_isUsedBy_7 ?_
  refine lv_if_le (tgt := 15) hx hb nd_Plan_isUsedBy_8 (by decide) (fun c_4 => ?_) (fun c_4 => ?_)
  · have c_4t := cr_le c_4
    rw [if_pos c_4] at hM
    refine lv_iconst (v := 0) hx hb nd_Plan_isUsedBy_15 (by decide) ?_
    exact W.zret (v := (0 : Int32)) (ty := .boolean) hx hb hr (by decide) (fun t ht hW => ⟨⟨(0 : Int32), (), rfl, by rw [hT, ← hM], by rw [ht]; exact hP, va_K.moved hW.alike hK, hD⟩, hS.F ht⟩) hS.2.2 nd_Plan_isUsedBy_16
  · have c_4t := cr_nle c_4
    rw [if_neg c_4] at hM
    refine lv_iconst (v := 1) hx hb nd_Plan_isUsedBy_11 (by decide) ?_
    refine lv_goto (tgt := 16) hx hb nd_Plan_isUsedBy_12 (by decide) ?_
    exact W.zret (v := (1 : Int32)) (ty := .boolean) hx hb hr (by decide) (fun t ht hW => ⟨⟨(1 : Int32), (), rfl, by rw [hT, ← hM], by rw [ht]; exact hP, va_K.moved hW.alike hK, hD⟩, hS.F ht⟩) hS.2.2 nd_Plan_isUsedBy_16

theorem nd_Plan_isUsedByAnotherCore_0 : decode prog_4_method_7_code 0 = .ok (.aload_n 0, 1) := by decide +kernel
theorem nd_Plan_isUsedByAnotherCore_1 : decode prog_4_method_7_code 1 = .ok (.getfield 21, 3) := by decide +kernel
theorem nd_Plan_isUsedByAnotherCore_4 : decode prog_4_method_7_code 4 = .ok (.iload_n 1, 1) := by decide +kernel
theorem nd_Plan_isUsedByAnotherCore_5 : decode prog_4_method_7_code 5 = .ok (.iaload, 1) := by decide +kernel
theorem nd_Plan_isUsedByAnotherCore_6 : decode prog_4_method_7_code 6 = .ok (.ifCond .eq (17), 3) := by decide +kernel
theorem nd_Plan_isUsedByAnotherCore_9 : decode prog_4_method_7_code 9 = .ok (.aload_n 0, 1) := by decide +kernel
theorem nd_Plan_isUsedByAnotherCore_10 : decode prog_4_method_7_code 10 = .ok (.getfield 21, 3) := by decide +kernel
theorem nd_Plan_isUsedByAnotherCore_13 : decode prog_4_method_7_code 13 = .ok (.iload_n 1, 1) := by decide +kernel
theorem nd_Plan_isUsedByAnotherCore_14 : decode prog_4_method_7_code 14 = .ok (.iaload, 1) := by decide +kernel
theorem nd_Plan_isUsedByAnotherCore_15 : decode prog_4_method_7_code 15 = .ok (.iload_n 2, 1) := by decide +kernel
theorem nd_Plan_isUsedByAnotherCore_16 : decode prog_4_method_7_code 16 = .ok (.if_icmp .eq (7), 3) := by decide +kernel
theorem nd_Plan_isUsedByAnotherCore_19 : decode prog_4_method_7_code 19 = .ok (.iconst 1, 1) := by decide +kernel
theorem nd_Plan_isUsedByAnotherCore_20 : decode prog_4_method_7_code 20 = .ok (.goto (4), 3) := by decide +kernel
theorem nd_Plan_isUsedByAnotherCore_23 : decode prog_4_method_7_code 23 = .ok (.iconst 0, 1) := by decide +kernel
theorem nd_Plan_isUsedByAnotherCore_24 : decode prog_4_method_7_code 24 = .ok (.ireturn, 1) := by decide +kernel
def md_Plan_isUsedByAnotherCore (pl : cr_S) (x1 : Int32) (x2 : Int32) : Int32 :=
  (if (pl 4 x1.toNatClampNeg) = 0 then (0 : Int32) else (if (pl 4 x1.toNatClampNeg) = x2 then (0 : Int32) else (1 : Int32)))
abbrev pq_Plan_isUsedByAnotherCore (dC : Nat → ClassId) (dI : Nat → Nat → Nat) (cI cZ cO : ClassId) (apl : Nat → Nat) (pl : cr_S) (x1 : Int32) (x2 : Int32) (A : Nat → Prop) : Array Value → State → Outcome → State → Prop :=
  va_Qi (fun (r : Int32) (_ : Unit) => r = md_Plan_isUsedByAnotherCore pl x1 x2) (fun (_ : Unit) t => va_P (dC, dI) vwCl (cw_Plan cI cZ cO apl pl) t.heap ∧ va_K (dC, dI) vwCl [(cI, .int), (cZ, .boolean), (cO, .array .int)] t ∧ va_D A (cw_Plan cI cZ cO apl pl)) A
set_option maxHeartbeats 4000000 in
set_option maxRecDepth 100000 in
theorem ct_Plan_isUsedByAnotherCore (l : Launch) (dC : Nat → ClassId) (dI : Nat → Nat → Nat) (cI cZ cO : ClassId) (apl : Nat → Nat) (sz : Nat) (pl : cr_S) (x1 : Int32) (x2 : Int32) (hR_pl : cr_RPlan pl) (hx1 : 0 ≤ x1.toInt ∧ x1.toInt ≤ 8) : Met l ny_Plan_isUsedByAnotherCore nw_Plan_isUsedByAnotherCore ({ frames := 0, cells := 0, slots := 0, locals := 0 } : Room) (va_Pc [.ref (apl 0), .int x1, .int x2] (fun U => U.heap.size = sz ∧ va_P (dC, dI) vwCl (cw_Plan cI cZ cO apl pl) U.heap ∧ va_K (dC, dI) vwCl [(cI, .int), (cZ, .boolean), (cO, .array .int)] U ∧ va_D (fun _ => True) (cw_Plan cI cZ cO apl pl))) (pq_Plan_isUsedByAnotherCore dC dI cI cZ cO apl pl x1 x2 (va_A (cw_Plan cI cZ cO apl pl) sz)) 0 0 (va_A (cw_Plan cI cZ cO apl pl) sz) := by
  refine Met.ofW (cc := prog_4_method_7_code) (maxL := 3) (ret := (some .boolean)) (by decide) rfl ?_
  intro p e s m args below meth c s₁ B hml hv
  obtain ⟨rfl, hsz, hP, hK, hD0⟩ := hv
  have hx := B.exec
  have hb := B.bytes
  have hr := B.returns
  have hts0 := atoms_spec (ws := nw_Plan_isUsedByAnotherCore) B.pre
  have hts : ∀ w ∈ ng_tbl, w.before ([.ref (apl 0), .int x1, .int x2] : List Value).toArray s = true := fun w h => hts0 w (List.mem_cons_of_mem _ h)
  have hown : s.vm.findClass "CeilingRows$Plan" = some m.cls := findClass_of_methodNamed B.named
  have hlocks := B.notSynchronized
  subst hsz
  have hD := hD0.self (sz := s.heap.size)
  generalize hAe : va_A (cw_Plan cI cZ cO apl pl) s.heap.size = A at hD ⊢
  have hA : ∀ q : Nat, s.heap.size ≤ q → A q := fun q h => by rw [← hAe]; exact Or.inr h
  have hS : va_S A s.heap s.heap [] := va_S.rf
  have hP : va_P (dC, dI) vwCl (cw_Plan cI cZ cO apl pl) s.heap := hP
  have hl := lv_entry ([.ref (apl 0), .int x1, .int x2]) (n := 3) (Nat.le_of_ble_eq_true rfl)
  rw [lg_entry_eq]
  generalize (lg_sl ([.ref (apl 0), .int x1, .int x2]) ++ List.replicate (3 - (lg_sl ([.ref (apl 0), .int x1, .int x2])).length) Slot.unset).toArray = ls at hl ⊢
  have hl : lv_has ls 3 [(0, .ref (apl 0)), (1, .int x1), (2, .int x2)] := hl
  have k_0 : (0 : Int32).toInt = 0 := by decide
  have k_1 : (1 : Int32).toInt = 1 := by decide
  obtain ⟨tgt, hT⟩ : ∃ z, md_Plan_isUsedByAnotherCore pl x1 x2 = z := ⟨_, rfl⟩
  have hM := hT
  unfold md_Plan_isUsedByAnotherCore at hM
  refine lv_aload_n hx hb nd_Plan_isUsedByAnotherCore_0 rfl (lv_at hl 0 rfl) ?_
  refine va_get (D := (dC, dI)) (ci := 0) (v := .ref (apl 4)) (C := "CeilingRows$Plan") (T := nf_Plan) (N := 7) hx hb hts nin_Plan hown hK hP 0 rfl rfl 5 (by decide) (hts _ tw_42) (fun _ h9 => h9) rfl nd_Plan_isUsedByAnotherCore_1 ?_
  refine lv_iload_n hx hb nd_Plan_isUsedByAnotherCore_4 rfl (lv_at hl 1 rfl) ?_
  have b_1 : vp_in x1 9 := vp_in_iff.mpr (by omega)
  refine va_iald hx hb hK hP 4 0 rfl rfl b_1 nd_Plan_isUsedByAnotherCore_5 ?_
  refine lv_if_eq (tgt := 23) hx hb nd_Plan_isUsedByAnotherCore_6 (by decide) (fun c_2 => ?_) (fun c_2 => ?_)
  · have c_2t := cr_eq c_2
    rw [if_pos c_2] at hM
    refine lv_iconst (v := 0) hx hb nd_Plan_isUsedByAnotherCore_23 (by decide) ?_
    exact W.zret (v := (0 : Int32)) (ty := .boolean) hx hb hr (by decide) (fun t ht hW => ⟨⟨(0 : Int32), (), rfl, by rw [hT, ← hM], by rw [ht]; exact hP, va_K.moved hW.alike hK, hD⟩, hS.F ht⟩) hS.2.2 nd_Plan_isUsedByAnotherCore_24
  · have c_2t := cr_ne c_2
    rw [if_neg c_2] at hM
    refine lv_aload_n hx hb nd_Plan_isUsedByAnotherCore_9 rfl (lv_at hl 0 rfl) ?_
    refine va_get (D := (dC, dI)) (ci := 0) (v := .ref (apl 4)) (C := "CeilingRows$Plan") (T := nf_Plan) (N := 7) hx hb hts nin_Plan hown hK hP 0 rfl rfl 5 (by decide) (hts _ tw_42) (fun _ h9 => h9) rfl nd_Plan_isUsedByAnotherCore_10 ?_
    refine lv_iload_n hx hb nd_Plan_isUsedByAnotherCore_13 rfl (lv_at hl 1 rfl) ?_
    have b_3 : vp_in x1 9 := vp_in_iff.mpr (by omega)
    refine va_iald hx hb hK hP 4 0 rfl rfl b_3 nd_Plan_isUsedByAnotherCore_14 ?_
    refine lv_iload_n hx hb nd_Plan_isUsedByAnotherCore_15 rfl (lv_at hl 2 rfl) ?_
    refine lv_icmp_eq (tgt := 23) hx hb nd_Plan_isUsedByAnotherCore_16 (by decide) (fun c_4 => ?_) (fun c_4 => ?_)
    · have c_4t := cr_eq c_4
      rw [if_pos c_4] at hM
      refine lv_iconst (v := 0) hx hb nd_Plan_isUsedByAnotherCore_23 (by decide) ?_
      exact W.zret (v := (0 : Int32)) (ty := .boolean) hx hb hr (by decide) (fun t ht hW => ⟨⟨(0 : Int32), (), rfl, by rw [hT, ← hM], by rw [ht]; exact hP, va_K.moved hW.alike hK, hD⟩, hS.F ht⟩) hS.2.2 nd_Plan_isUsedByAnotherCore_24
    · have c_4t := cr_ne c_4
      rw [if_neg c_4] at hM
      refine lv_iconst (v := 1) hx hb nd_Plan_isUsedByAnotherCore_19 (by decide) ?_
      refine lv_goto (tgt := 24) hx hb nd_Plan_isUsedByAnotherCore_20 (by decide) ?_
      exact W.zret (v := (1 : Int32)) (ty := .boolean) hx hb hr (by decide) (fun t ht hW => ⟨⟨(1 : Int32), (), rfl, by rw [hT, ← hM], by rw [ht]; exact hP, va_K.moved hW.alike hK, hD⟩, hS.F ht⟩) hS.2.2 nd_Plan_isUsedByAnotherCore_24

theorem nd_Plan_setUse_0 : decode prog_4_method_8_code 0 = .ok (.aload_n 0, 1) := by decide +kernel
theorem nd_Plan_setUse_1 : decode prog_4_method_8_code 1 = .ok (.getfield 26, 3) := by decide +kernel
theorem nd_Plan_setUse_4 : decode prog_4_method_8_code 4 = .ok (.iload_n 1, 1) := by decide +kernel
theorem nd_Plan_setUse_5 : decode prog_4_method_8_code 5 = .ok (.aaload, 1) := by decide +kernel
theorem nd_Plan_setUse_6 : decode prog_4_method_8_code 6 = .ok (.iload_n 2, 1) := by decide +kernel
theorem nd_Plan_setUse_7 : decode prog_4_method_8_code 7 = .ok (.iload_n 3, 1) := by decide +kernel
theorem nd_Plan_setUse_8 : decode prog_4_method_8_code 8 = .ok (.iastore, 1) := by decide +kernel
theorem nd_Plan_setUse_9 : decode prog_4_method_8_code 9 = .ok (.aload_n 0, 1) := by decide +kernel
theorem nd_Plan_setUse_10 : decode prog_4_method_8_code 10 = .ok (.getfield 21, 3) := by decide +kernel
theorem nd_Plan_setUse_13 : decode prog_4_method_8_code 13 = .ok (.iload_n 2, 1) := by decide +kernel
theorem nd_Plan_setUse_14 : decode prog_4_method_8_code 14 = .ok (.aload_n 0, 1) := by decide +kernel
theorem nd_Plan_setUse_15 : decode prog_4_method_8_code 15 = .ok (.getfield 15, 3) := by decide +kernel
theorem nd_Plan_setUse_18 : decode prog_4_method_8_code 18 = .ok (.iload_n 1, 1) := by decide +kernel
theorem nd_Plan_setUse_19 : decode prog_4_method_8_code 19 = .ok (.iaload, 1) := by decide +kernel
theorem nd_Plan_setUse_20 : decode prog_4_method_8_code 20 = .ok (.iastore, 1) := by decide +kernel
theorem nd_Plan_setUse_21 : decode prog_4_method_8_code 21 = .ok (.aload_n 0, 1) := by decide +kernel
theorem nd_Plan_setUse_22 : decode prog_4_method_8_code 22 = .ok (.getfield 18, 3) := by decide +kernel
theorem nd_Plan_setUse_25 : decode prog_4_method_8_code 25 = .ok (.iload_n 2, 1) := by decide +kernel
theorem nd_Plan_setUse_26 : decode prog_4_method_8_code 26 = .ok (.aload_n 0, 1) := by decide +kernel
theorem nd_Plan_setUse_27 : decode prog_4_method_8_code 27 = .ok (.getfield 18, 3) := by decide +kernel
theorem nd_Plan_setUse_30 : decode prog_4_method_8_code 30 = .ok (.iload_n 2, 1) := by decide +kernel
theorem nd_Plan_setUse_31 : decode prog_4_method_8_code 31 = .ok (.iaload, 1) := by decide +kernel
theorem nd_Plan_setUse_32 : decode prog_4_method_8_code 32 = .ok (.aload_n 0, 1) := by decide +kernel
theorem nd_Plan_setUse_33 : decode prog_4_method_8_code 33 = .ok (.getfield 9, 3) := by decide +kernel
theorem nd_Plan_setUse_36 : decode prog_4_method_8_code 36 = .ok (.iload_n 1, 1) := by decide +kernel
theorem nd_Plan_setUse_37 : decode prog_4_method_8_code 37 = .ok (.iaload, 1) := by decide +kernel
theorem nd_Plan_setUse_38 : decode prog_4_method_8_code 38 = .ok (.invokestatic 36, 3) := by decide +kernel
theorem nd_Plan_setUse_41 : decode prog_4_method_8_code 41 = .ok (.iastore, 1) := by decide +kernel
theorem nd_Plan_setUse_42 : decode prog_4_method_8_code 42 = .ok (.return_, 1) := by decide +kernel
def md_Plan_setUse (pl : cr_S) (x1 : Int32) (x2 : Int32) (x3 : Int32) : cr_S :=
  (cr_up (cr_up (cr_up pl (6 + x1.toNatClampNeg) x2.toNatClampNeg x3) 4 x2.toNatClampNeg ((cr_up pl (6 + x1.toNatClampNeg) x2.toNatClampNeg x3) 2 x1.toNatClampNeg)) 3 x2.toNatClampNeg (cr_max ((cr_up (cr_up pl (6 + x1.toNatClampNeg) x2.toNatClampNeg x3) 4 x2.toNatClampNeg ((cr_up pl (6 + x1.toNatClampNeg) x2.toNatClampNeg x3) 2 x1.toNatClampNeg)) 3 x2.toNatClampNeg) ((cr_up (cr_up pl (6 + x1.toNatClampNeg) x2.toNatClampNeg x3) 4 x2.toNatClampNeg ((cr_up pl (6 + x1.toNatClampNeg) x2.toNatClampNeg x3) 2 x1.toNatClampNeg)) 1 x1.toNatClampNeg)))
abbrev pq_Plan_setUse (dC : Nat → ClassId) (dI : Nat → Nat → Nat) (cI cZ cO : ClassId) (apl : Nat → Nat) (pl : cr_S) (x1 : Int32) (x2 : Int32) (x3 : Int32) (A : Nat → Prop) : Array Value → State → Outcome → State → Prop :=
  va_Qv (fun (pl' : cr_S) => pl' = md_Plan_setUse pl x1 x2 x3 ∧ cr_RPlan pl') (fun (pl' : cr_S) t => va_P (dC, dI) vwCl (cw_Plan cI cZ cO apl pl') t.heap ∧ va_K (dC, dI) vwCl [(cI, .int), (cZ, .boolean), (cO, .array .int)] t ∧ va_D A (cw_Plan cI cZ cO apl pl')) A
set_option maxHeartbeats 4000000 in
set_option maxRecDepth 100000 in
theorem ct_Plan_setUse (l : Launch) (dC : Nat → ClassId) (dI : Nat → Nat → Nat) (cI cZ cO : ClassId) (apl : Nat → Nat) (sz : Nat) (pl : cr_S) (x1 : Int32) (x2 : Int32) (x3 : Int32) (hR_pl : cr_RPlan pl) (hx1 : 0 ≤ x1.toInt ∧ x1.toInt ≤ 10) (hx2 : 0 ≤ x2.toInt ∧ x2.toInt ≤ 8) : Met l ny_Plan_setUse nw_Plan_setUse ({ frames := 1, cells := 0, slots := 0, locals := 21 } : Room) (va_Pc [.ref (apl 0), .int x1, .int x2, .int x3] (fun U => U.heap.size = sz ∧ va_P (dC, dI) vwCl (cw_Plan cI cZ cO apl pl) U.heap ∧ va_K (dC, dI) vwCl [(cI, .int), (cZ, .boolean), (cO, .array .int)] U ∧ va_D (fun _ => True) (cw_Plan cI cZ cO apl pl))) (pq_Plan_setUse dC dI cI cZ cO apl pl x1 x2 x3 (va_A (cw_Plan cI cZ cO apl pl) sz)) 0 0 (va_A (cw_Plan cI cZ cO apl pl) sz) := by
  refine Met.ofW (cc := prog_4_method_8_code) (maxL := 4) (ret := none) (by decide) rfl ?_
  intro p e s m args below meth c s₁ B hml hv
  obtain ⟨rfl, hsz, hP, hK, hD0⟩ := hv
  have hx := B.exec
  have hb := B.bytes
  have hr := B.returns
  have hts0 := atoms_spec (ws := nw_Plan_setUse) B.pre
  have hts : ∀ w ∈ ng_tbl, w.before ([.ref (apl 0), .int x1, .int x2, .int x3] : List Value).toArray s = true := fun w h => hts0 w (List.mem_cons_of_mem _ h)
  have hown : s.vm.findClass "CeilingRows$Plan" = some m.cls := findClass_of_methodNamed B.named
  have hlocks := B.notSynchronized
  subst hsz
  have hD := hD0.self (sz := s.heap.size)
  generalize hAe : va_A (cw_Plan cI cZ cO apl pl) s.heap.size = A at hD ⊢
  have hA : ∀ q : Nat, s.heap.size ≤ q → A q := fun q h => by rw [← hAe]; exact Or.inr h
  have hS : va_S A s.heap s.heap [] := va_S.rf
  have hP : va_P (dC, dI) vwCl (cw_Plan cI cZ cO apl pl) s.heap := hP
  have hl := lv_entry ([.ref (apl 0), .int x1, .int x2, .int x3]) (n := 4) (Nat.le_of_ble_eq_true rfl)
  rw [lg_entry_eq]
  generalize (lg_sl ([.ref (apl 0), .int x1, .int x2, .int x3]) ++ List.replicate (4 - (lg_sl ([.ref (apl 0), .int x1, .int x2, .int x3])).length) Slot.unset).toArray = ls at hl ⊢
  have hl : lv_has ls 4 [(0, .ref (apl 0)), (1, .int x1), (2, .int x2), (3, .int x3)] := hl
  obtain ⟨tgt, hT⟩ : ∃ z, md_Plan_setUse pl x1 x2 x3 = z := ⟨_, rfl⟩
  have hM := hT
  unfold md_Plan_setUse at hM
  refine lv_aload_n hx hb nd_Plan_setUse_0 rfl (lv_at hl 0 rfl) ?_
  refine va_get (D := (dC, dI)) (ci := 0) (v := .ref (apl 5)) (C := "CeilingRows$Plan") (T := nf_Plan) (N := 7) hx hb hts nin_Plan hown hK hP 0 rfl rfl 6 (by decide) (hts _ tw_43) (fun _ h9 => h9) rfl nd_Plan_setUse_1 ?_
  refine lv_iload_n hx hb nd_Plan_setUse_4 rfl (lv_at hl 1 rfl) ?_
  have b_1 : vp_in x1 11 := vp_in_iff.mpr (by omega)
  have g_2 : x1.toNatClampNeg < 11 := cr_ix b_1
  refine ga_ald hx hb hK hP 5 2 rfl rfl b_1 g_2 nd_Plan_setUse_5 ?_
  refine lv_iload_n hx hb nd_Plan_setUse_6 rfl (lv_at hl 2 rfl) ?_
  refine lv_iload_n hx hb nd_Plan_setUse_7 rfl (lv_at hl 3 rfl) ?_
  have b_3 : vp_in x2 9 := vp_in_iff.mpr (by omega)
  refine va_iast hx hb hK hP hD hS (6 + x1.toNatClampNeg) 0 (cg_Plan_6 cI cZ cO apl pl _ g_2) rfl b_3 nd_Plan_setUse_8 (fun H locs hP hD hS => ?_)
  rw [(cs_Plan_6 cI cZ cO apl pl x2.toNatClampNeg x3 _ g_2)] at hP hD
  have hP : va_P (dC, dI) vwCl (cw_Plan cI cZ cO apl (cr_up pl (6 + x1.toNatClampNeg) x2.toNatClampNeg x3)) H := hP
  have hD : va_D A (cw_Plan cI cZ cO apl (cr_up pl (6 + x1.toNatClampNeg) x2.toNatClampNeg x3)) := hD
  have hR_4 : cr_RPlan (cr_up pl (6 + x1.toNatClampNeg) x2.toNatClampNeg x3) := ⟨cr_rf_up hR_pl.1 (fun e _ => absurd e (by omega)), cr_rf_up hR_pl.2.1 (fun e _ => absurd e (by omega)), cr_rg_up hR_pl.2.2 (fun e => absurd e (by omega))⟩
  obtain ⟨plq_5, hplq_5⟩ : ∃ z, (cr_up pl (6 + x1.toNatClampNeg) x2.toNatClampNeg x3) = z := ⟨_, rfl⟩
  rw [hplq_5] at hP hD hR_4
  try rw [hplq_5] at hM
  refine lv_aload_n hx hb nd_Plan_setUse_9 rfl (lv_at hl 0 rfl) ?_
  refine va_get (D := (dC, dI)) (ci := 0) (v := .ref (apl 4)) (C := "CeilingRows$Plan") (T := nf_Plan) (N := 7) hx hb hts nin_Plan hown hK hP 0 rfl rfl 5 (by decide) (hts _ tw_42) (fun _ h9 => h9) rfl nd_Plan_setUse_10 ?_
  refine lv_iload_n hx hb nd_Plan_setUse_13 rfl (lv_at hl 2 rfl) ?_
  refine lv_aload_n hx hb nd_Plan_setUse_14 rfl (lv_at hl 0 rfl) ?_
  refine va_get (D := (dC, dI)) (ci := 0) (v := .ref (apl 2)) (C := "CeilingRows$Plan") (T := nf_Plan) (N := 7) hx hb hts nin_Plan hown hK hP 0 rfl rfl 3 (by decide) (hts _ tw_36) (fun _ h9 => h9) rfl nd_Plan_setUse_15 ?_
  refine lv_iload_n hx hb nd_Plan_setUse_18 rfl (lv_at hl 1 rfl) ?_
  have b_6 : vp_in x1 11 := vp_in_iff.mpr (by omega)
  refine va_iald hx hb hK hP 2 0 rfl rfl b_6 nd_Plan_setUse_19 ?_
  have f_7 := cr_rgo hR_4.2.2 (x1.toNatClampNeg)
  have b_8 : vp_in x2 9 := vp_in_iff.mpr (by omega)
  refine va_iast hx hb hK hP hD hS 4 0 rfl rfl b_8 nd_Plan_setUse_20 (fun H locs hP hD hS => ?_)
  have hP : va_P (dC, dI) vwCl (cw_Plan cI cZ cO apl (cr_up plq_5 4 x2.toNatClampNeg (plq_5 2 x1.toNatClampNeg))) H := hP
  have hD : va_D A (cw_Plan cI cZ cO apl (cr_up plq_5 4 x2.toNatClampNeg (plq_5 2 x1.toNatClampNeg))) := hD
  have hR_9 : cr_RPlan (cr_up plq_5 4 x2.toNatClampNeg (plq_5 2 x1.toNatClampNeg)) := ⟨cr_rf_up hR_4.1 (fun e _ => absurd e (by decide)), cr_rf_up hR_4.2.1 (fun e _ => absurd e (by decide)), cr_rg_up hR_4.2.2 (fun e => absurd e (by decide))⟩
  obtain ⟨plq_10, hplq_10⟩ : ∃ z, (cr_up plq_5 4 x2.toNatClampNeg (plq_5 2 x1.toNatClampNeg)) = z := ⟨_, rfl⟩
  rw [hplq_10] at hP hD hR_9
  try rw [hplq_10] at hM
  refine lv_aload_n hx hb nd_Plan_setUse_21 rfl (lv_at hl 0 rfl) ?_
  refine va_get (D := (dC, dI)) (ci := 0) (v := .ref (apl 3)) (C := "CeilingRows$Plan") (T := nf_Plan) (N := 7) hx hb hts nin_Plan hown hK hP 0 rfl rfl 4 (by decide) (hts _ tw_39) (fun _ h9 => h9) rfl nd_Plan_setUse_22 ?_
  refine lv_iload_n hx hb nd_Plan_setUse_25 rfl (lv_at hl 2 rfl) ?_
  refine lv_aload_n hx hb nd_Plan_setUse_26 rfl (lv_at hl 0 rfl) ?_
  refine va_get (D := (dC, dI)) (ci := 0) (v := .ref (apl 3)) (C := "CeilingRows$Plan") (T := nf_Plan) (N := 7) hx hb hts nin_Plan hown hK hP 0 rfl rfl 4 (by decide) (hts _ tw_39) (fun _ h9 => h9) rfl nd_Plan_setUse_27 ?_
  refine lv_iload_n hx hb nd_Plan_setUse_30 rfl (lv_at hl 2 rfl) ?_
  have b_11 : vp_in x2 9 := vp_in_iff.mpr (by omega)
  refine va_iald hx hb hK hP 3 0 rfl rfl b_11 nd_Plan_setUse_31 ?_
  refine lv_aload_n hx hb nd_Plan_setUse_32 rfl (lv_at hl 0 rfl) ?_
  refine va_get (D := (dC, dI)) (ci := 0) (v := .ref (apl 1)) (C := "CeilingRows$Plan") (T := nf_Plan) (N := 7) hx hb hts nin_Plan hown hK hP 0 rfl rfl 2 (by decide) (hts _ tw_34) (fun _ h9 => h9) rfl nd_Plan_setUse_33 ?_
  refine lv_iload_n hx hb nd_Plan_setUse_36 rfl (lv_at hl 1 rfl) ?_
  have b_12 : vp_in x1 11 := vp_in_iff.mpr (by omega)
  refine va_iald hx hb hK hP 1 0 rfl rfl b_12 nd_Plan_setUse_37 ?_
  refine va_mmax hx hb (by rw [hml]; exact hl.1.symm) hown (hts _ tw_206) (hts _ tw_207) (hts _ tw_7) (hts _ tw_208) (Nat.le_of_ble_eq_true rfl) (Nat.le_of_ble_eq_true rfl) (Nat.zero_le _) (Nat.zero_le _) nd_Plan_setUse_38 ?_
  have b_13 : vp_in x2 9 := vp_in_iff.mpr (by omega)
  refine va_iast hx hb hK hP hD hS 3 0 rfl rfl b_13 nd_Plan_setUse_41 (fun H locs hP hD hS => ?_)
  have hP : va_P (dC, dI) vwCl (cw_Plan cI cZ cO apl (cr_up plq_10 3 x2.toNatClampNeg (cr_max (plq_10 3 x2.toNatClampNeg) (plq_10 1 x1.toNatClampNeg)))) H := hP
  have hD : va_D A (cw_Plan cI cZ cO apl (cr_up plq_10 3 x2.toNatClampNeg (cr_max (plq_10 3 x2.toNatClampNeg) (plq_10 1 x1.toNatClampNeg)))) := hD
  have hR_14 : cr_RPlan (cr_up plq_10 3 x2.toNatClampNeg (cr_max (plq_10 3 x2.toNatClampNeg) (plq_10 1 x1.toNatClampNeg))) := ⟨cr_rf_up hR_9.1 (fun e _ => absurd e (by decide)), cr_rf_up hR_9.2.1 (fun e _ => absurd e (by decide)), cr_rg_up hR_9.2.2 (fun e => absurd e (by decide))⟩
  obtain ⟨plq_15, hplq_15⟩ : ∃ z, (cr_up plq_10 3 x2.toNatClampNeg (cr_max (plq_10 3 x2.toNatClampNeg) (plq_10 1 x1.toNatClampNeg))) = z := ⟨_, rfl⟩
  rw [hplq_15] at hP hD hR_14
  try rw [hplq_15] at hM
  exact W.vret hx hb hr (fun t ht hW => ⟨⟨plq_15, rfl, ⟨by rw [hT, ← hM], hR_14⟩, by rw [ht]; exact hP, va_K.moved hW.alike hK, hD⟩, hS.F ht⟩) hS.2.2 nd_Plan_setUse_42

theorem nd_Plan_isBelow_0 : decode prog_4_method_9_code 0 = .ok (.aload_n 0, 1) := by decide +kernel
theorem nd_Plan_isBelow_1 : decode prog_4_method_9_code 1 = .ok (.getfield 15, 3) := by decide +kernel
theorem nd_Plan_isBelow_4 : decode prog_4_method_9_code 4 = .ok (.iload_n 1, 1) := by decide +kernel
theorem nd_Plan_isBelow_5 : decode prog_4_method_9_code 5 = .ok (.iaload, 1) := by decide +kernel
theorem nd_Plan_isBelow_6 : decode prog_4_method_9_code 6 = .ok (.aload_n 0, 1) := by decide +kernel
theorem nd_Plan_isBelow_7 : decode prog_4_method_9_code 7 = .ok (.getfield 15, 3) := by decide +kernel
theorem nd_Plan_isBelow_10 : decode prog_4_method_9_code 10 = .ok (.iload_n 2, 1) := by decide +kernel
theorem nd_Plan_isBelow_11 : decode prog_4_method_9_code 11 = .ok (.iaload, 1) := by decide +kernel
theorem nd_Plan_isBelow_12 : decode prog_4_method_9_code 12 = .ok (.if_icmp .ne (22), 3) := by decide +kernel
theorem nd_Plan_isBelow_15 : decode prog_4_method_9_code 15 = .ok (.aload_n 0, 1) := by decide +kernel
theorem nd_Plan_isBelow_16 : decode prog_4_method_9_code 16 = .ok (.getfield 9, 3) := by decide +kernel
theorem nd_Plan_isBelow_19 : decode prog_4_method_9_code 19 = .ok (.iload_n 1, 1) := by decide +kernel
theorem nd_Plan_isBelow_20 : decode prog_4_method_9_code 20 = .ok (.iaload, 1) := by decide +kernel
theorem nd_Plan_isBelow_21 : decode prog_4_method_9_code 21 = .ok (.aload_n 0, 1) := by decide +kernel
theorem nd_Plan_isBelow_22 : decode prog_4_method_9_code 22 = .ok (.getfield 9, 3) := by decide +kernel
theorem nd_Plan_isBelow_25 : decode prog_4_method_9_code 25 = .ok (.iload_n 2, 1) := by decide +kernel
theorem nd_Plan_isBelow_26 : decode prog_4_method_9_code 26 = .ok (.iaload, 1) := by decide +kernel
theorem nd_Plan_isBelow_27 : decode prog_4_method_9_code 27 = .ok (.if_icmp .ge (7), 3) := by decide +kernel
theorem nd_Plan_isBelow_30 : decode prog_4_method_9_code 30 = .ok (.iconst 1, 1) := by decide +kernel
theorem nd_Plan_isBelow_31 : decode prog_4_method_9_code 31 = .ok (.goto (4), 3) := by decide +kernel
theorem nd_Plan_isBelow_34 : decode prog_4_method_9_code 34 = .ok (.iconst 0, 1) := by decide +kernel
theorem nd_Plan_isBelow_35 : decode prog_4_method_9_code 35 = .ok (.ireturn, 1) := by decide +kernel
def md_Plan_isBelow (pl : cr_S) (x1 : Int32) (x2 : Int32) : Int32 :=
  (if (pl 2 x1.toNatClampNeg) = (pl 2 x2.toNatClampNeg) then (if (pl 1 x2.toNatClampNeg) ≤ (pl 1 x1.toNatClampNeg) then (0 : Int32) else (1 : Int32)) else (0 : Int32))
abbrev pq_Plan_isBelow (dC : Nat → ClassId) (dI : Nat → Nat → Nat) (cI cZ cO : ClassId) (apl : Nat → Nat) (pl : cr_S) (x1 : Int32) (x2 : Int32) (A : Nat → Prop) : Array Value → State → Outcome → State → Prop :=
  va_Qi (fun (r : Int32) (_ : Unit) => r = md_Plan_isBelow pl x1 x2) (fun (_ : Unit) t => va_P (dC, dI) vwCl (cw_Plan cI cZ cO apl pl) t.heap ∧ va_K (dC, dI) vwCl [(cI, .int), (cZ, .boolean), (cO, .array .int)] t ∧ va_D A (cw_Plan cI cZ cO apl pl)) A
set_option maxHeartbeats 4000000 in
set_option maxRecDepth 100000 in
theorem ct_Plan_isBelow (l : Launch) (dC : Nat → ClassId) (dI : Nat → Nat → Nat) (cI cZ cO : ClassId) (apl : Nat → Nat) (sz : Nat) (pl : cr_S) (x1 : Int32) (x2 : Int32) (hR_pl : cr_RPlan pl) (hx1 : 0 ≤ x1.toInt ∧ x1.toInt ≤ 10) (hx2 : 0 ≤ x2.toInt ∧ x2.toInt ≤ 10) : Met l ny_Plan_isBelow nw_Plan_isBelow ({ frames := 0, cells := 0, slots := 0, locals := 0 } : Room) (va_Pc [.ref (apl 0), .int x1, .int x2] (fun U => U.heap.size = sz ∧ va_P (dC, dI) vwCl (cw_Plan cI cZ cO apl pl) U.heap ∧ va_K (dC, dI) vwCl [(cI, .int), (cZ, .boolean), (cO, .array .int)] U ∧ va_D (fun _ => True) (cw_Plan cI cZ cO apl pl))) (pq_Plan_isBelow dC dI cI cZ cO apl pl x1 x2 (va_A (cw_Plan cI cZ cO apl pl) sz)) 0 0 (va_A (cw_Plan cI cZ cO apl pl) sz) := by
  refine Met.ofW (cc := prog_4_method_9_code) (maxL := 3) (ret := (some .boolean)) (by decide) rfl ?_
  intro p e s m args below meth c s₁ B hml hv
  obtain ⟨rfl, hsz, hP, hK, hD0⟩ := hv
  have hx := B.exec
  have hb := B.bytes
  have hr := B.returns
  have hts0 := atoms_spec (ws := nw_Plan_isBelow) B.pre
  have hts : ∀ w ∈ ng_tbl, w.before ([.ref (apl 0), .int x1, .int x2] : List Value).toArray s = true := fun w h => hts0 w (List.mem_cons_of_mem _ h)
  have hown : s.vm.findClass "CeilingRows$Plan" = some m.cls := findClass_of_methodNamed B.named
  have hlocks := B.notSynchronized
  subst hsz
  have hD := hD0.self (sz := s.heap.size)
  generalize hAe : va_A (cw_Plan cI cZ cO apl pl) s.heap.size = A at hD ⊢
  have hA : ∀ q : Nat, s.heap.size ≤ q → A q := fun q h => by rw [← hAe]; exact Or.inr h
  have hS : va_S A s.heap s.heap [] := va_S.rf
  have hP : va_P (dC, dI) vwCl (cw_Plan cI cZ cO apl pl) s.heap := hP
  have hl := lv_entry ([.ref (apl 0), .int x1, .int x2]) (n := 3) (Nat.le_of_ble_eq_true rfl)
  rw [lg_entry_eq]
  generalize (lg_sl ([.ref (apl 0), .int x1, .int x2]) ++ List.replicate (3 - (lg_sl ([.ref (apl 0), .int x1, .int x2])).length) Slot.unset).toArray = ls at hl ⊢
  have hl : lv_has ls 3 [(0, .ref (apl 0)), (1, .int x1), (2, .int x2)] := hl
  have k_0 : (0 : Int32).toInt = 0 := by decide
  have k_1 : (1 : Int32).toInt = 1 := by decide
  obtain ⟨tgt, hT⟩ : ∃ z, md_Plan_isBelow pl x1 x2 = z := ⟨_, rfl⟩
  have hM := hT
  unfold md_Plan_isBelow at hM
  refine lv_aload_n hx hb nd_Plan_isBelow_0 rfl (lv_at hl 0 rfl) ?_
  refine va_get (D := (dC, dI)) (ci := 0) (v := .ref (apl 2)) (C := "CeilingRows$Plan") (T := nf_Plan) (N := 7) hx hb hts nin_Plan hown hK hP 0 rfl rfl 3 (by decide) (hts _ tw_36) (fun _ h9 => h9) rfl nd_Plan_isBelow_1 ?_
  refine lv_iload_n hx hb nd_Plan_isBelow_4 rfl (lv_at hl 1 rfl) ?_
  have b_1 : vp_in x1 11 := vp_in_iff.mpr (by omega)
  refine va_iald hx hb hK hP 2 0 rfl rfl b_1 nd_Plan_isBelow_5 ?_
  have f_2 := cr_rgo hR_pl.2.2 (x1.toNatClampNeg)
  refine lv_aload_n hx hb nd_Plan_isBelow_6 rfl (lv_at hl 0 rfl) ?_
  refine va_get (D := (dC, dI)) (ci := 0) (v := .ref (apl 2)) (C := "CeilingRows$Plan") (T := nf_Plan) (N := 7) hx hb hts nin_Plan hown hK hP 0 rfl rfl 3 (by decide) (hts _ tw_36) (fun _ h9 => h9) rfl nd_Plan_isBelow_7 ?_
  refine lv_iload_n hx hb nd_Plan_isBelow_10 rfl (lv_at hl 2 rfl) ?_
  have b_3 : vp_in x2 11 := vp_in_iff.mpr (by omega)
  refine va_iald hx hb hK hP 2 0 rfl rfl b_3 nd_Plan_isBelow_11 ?_
  have f_4 := cr_rgo hR_pl.2.2 (x2.toNatClampNeg)
  refine lv_icmp_ne (tgt := 34) hx hb nd_Plan_isBelow_12 (by decide) (fun c_5 => ?_) (fun c_5 => ?_)
  · have c_5t := cr_ne c_5
    rw [if_neg c_5] at hM
    refine lv_iconst (v := 0) hx hb nd_Plan_isBelow_34 (by decide) ?_
    exact W.zret (v := (0 : Int32)) (ty := .boolean) hx hb hr (by decide) (fun t ht hW => ⟨⟨(0 : Int32), (), rfl, by rw [hT, ← hM], by rw [ht]; exact hP, va_K.moved hW.alike hK, hD⟩, hS.F ht⟩) hS.2.2 nd_Plan_isBelow_35
  · have c_5t := cr_eq c_5
    rw [if_pos c_5] at hM
    refine lv_aload_n hx hb nd_Plan_isBelow_15 rfl (lv_at hl 0 rfl) ?_
    refine va_get (D := (dC, dI)) (ci := 0) (v := .ref (apl 1)) (C := "CeilingRows$Plan") (T := nf_Plan) (N := 7) hx hb hts nin_Plan hown hK hP 0 rfl rfl 2 (by decide) (hts _ tw_34) (fun _ h9 => h9) rfl nd_Plan_isBelow_16 ?_
    refine lv_iload_n hx hb nd_Plan_isBelow_19 rfl (lv_at hl 1 rfl) ?_
    have b_6 : vp_in x1 11 := vp_in_iff.mpr (by omega)
    refine va_iald hx hb hK hP 1 0 rfl rfl b_6 nd_Plan_isBelow_20 ?_
    refine lv_aload_n hx hb nd_Plan_isBelow_21 rfl (lv_at hl 0 rfl) ?_
    refine va_get (D := (dC, dI)) (ci := 0) (v := .ref (apl 1)) (C := "CeilingRows$Plan") (T := nf_Plan) (N := 7) hx hb hts nin_Plan hown hK hP 0 rfl rfl 2 (by decide) (hts _ tw_34) (fun _ h9 => h9) rfl nd_Plan_isBelow_22 ?_
    refine lv_iload_n hx hb nd_Plan_isBelow_25 rfl (lv_at hl 2 rfl) ?_
    have b_7 : vp_in x2 11 := vp_in_iff.mpr (by omega)
    refine va_iald hx hb hK hP 1 0 rfl rfl b_7 nd_Plan_isBelow_26 ?_
    refine lv_icmp_ge (tgt := 34) hx hb nd_Plan_isBelow_27 (by decide) (fun c_8 => ?_) (fun c_8 => ?_)
    · have c_8t := cr_le c_8
      rw [if_pos c_8] at hM
      refine lv_iconst (v := 0) hx hb nd_Plan_isBelow_34 (by decide) ?_
      exact W.zret (v := (0 : Int32)) (ty := .boolean) hx hb hr (by decide) (fun t ht hW => ⟨⟨(0 : Int32), (), rfl, by rw [hT, ← hM], by rw [ht]; exact hP, va_K.moved hW.alike hK, hD⟩, hS.F ht⟩) hS.2.2 nd_Plan_isBelow_35
    · have c_8t := cr_nle c_8
      rw [if_neg c_8] at hM
      refine lv_iconst (v := 1) hx hb nd_Plan_isBelow_30 (by decide) ?_
      refine lv_goto (tgt := 35) hx hb nd_Plan_isBelow_31 (by decide) ?_
      exact W.zret (v := (1 : Int32)) (ty := .boolean) hx hb hr (by decide) (fun t ht hW => ⟨⟨(1 : Int32), (), rfl, by rw [hT, ← hM], by rw [ht]; exact hP, va_K.moved hW.alike hK, hD⟩, hS.F ht⟩) hS.2.2 nd_Plan_isBelow_35

theorem nd_Plan_longestDelay_0 : decode prog_4_method_10_code 0 = .ok (.aload_n 0, 1) := by decide +kernel
theorem nd_Plan_longestDelay_1 : decode prog_4_method_10_code 1 = .ok (.iload_n 2, 1) := by decide +kernel
theorem nd_Plan_longestDelay_2 : decode prog_4_method_10_code 2 = .ok (.iload_n 1, 1) := by decide +kernel
theorem nd_Plan_longestDelay_3 : decode prog_4_method_10_code 3 = .ok (.invokevirtual 42, 3) := by decide +kernel
theorem nd_Plan_longestDelay_6 : decode prog_4_method_10_code 6 = .ok (.ifCond .ne (5), 3) := by decide +kernel
theorem nd_Plan_longestDelay_9 : decode prog_4_method_10_code 9 = .ok (.iconst 0, 1) := by decide +kernel
theorem nd_Plan_longestDelay_10 : decode prog_4_method_10_code 10 = .ok (.ireturn, 1) := by decide +kernel
theorem nd_Plan_longestDelay_11 : decode prog_4_method_10_code 11 = .ok (.iconst 0, 1) := by decide +kernel
theorem nd_Plan_longestDelay_12 : decode prog_4_method_10_code 12 = .ok (.istore_n 3, 1) := by decide +kernel
theorem nd_Plan_longestDelay_13 : decode prog_4_method_10_code 13 = .ok (.iconst 1, 1) := by decide +kernel
theorem nd_Plan_longestDelay_14 : decode prog_4_method_10_code 14 = .ok (.istore 4, 2) := by decide +kernel
theorem nd_Plan_longestDelay_16 : decode prog_4_method_10_code 16 = .ok (.iload 4, 2) := by decide +kernel
theorem nd_Plan_longestDelay_18 : decode prog_4_method_10_code 18 = .ok (.aload_n 0, 1) := by decide +kernel
theorem nd_Plan_longestDelay_19 : decode prog_4_method_10_code 19 = .ok (.getfield 33, 3) := by decide +kernel
theorem nd_Plan_longestDelay_22 : decode prog_4_method_10_code 22 = .ok (.if_icmp .gt (39), 3) := by decide +kernel
theorem nd_Plan_longestDelay_25 : decode prog_4_method_10_code 25 = .ok (.aload_n 0, 1) := by decide +kernel
theorem nd_Plan_longestDelay_26 : decode prog_4_method_10_code 26 = .ok (.getfield 18, 3) := by decide +kernel
theorem nd_Plan_longestDelay_29 : decode prog_4_method_10_code 29 = .ok (.iload 4, 2) := by decide +kernel
theorem nd_Plan_longestDelay_31 : decode prog_4_method_10_code 31 = .ok (.iaload, 1) := by decide +kernel
theorem nd_Plan_longestDelay_32 : decode prog_4_method_10_code 32 = .ok (.aload_n 0, 1) := by decide +kernel
theorem nd_Plan_longestDelay_33 : decode prog_4_method_10_code 33 = .ok (.getfield 9, 3) := by decide +kernel
theorem nd_Plan_longestDelay_36 : decode prog_4_method_10_code 36 = .ok (.iload_n 1, 1) := by decide +kernel
theorem nd_Plan_longestDelay_37 : decode prog_4_method_10_code 37 = .ok (.iaload, 1) := by decide +kernel
theorem nd_Plan_longestDelay_38 : decode prog_4_method_10_code 38 = .ok (.if_icmp .lt (17), 3) := by decide +kernel
theorem nd_Plan_longestDelay_41 : decode prog_4_method_10_code 41 = .ok (.iload_n 3, 1) := by decide +kernel
theorem nd_Plan_longestDelay_42 : decode prog_4_method_10_code 42 = .ok (.aload_n 0, 1) := by decide +kernel
theorem nd_Plan_longestDelay_43 : decode prog_4_method_10_code 43 = .ok (.getfield 26, 3) := by decide +kernel
theorem nd_Plan_longestDelay_46 : decode prog_4_method_10_code 46 = .ok (.iload_n 2, 1) := by decide +kernel
theorem nd_Plan_longestDelay_47 : decode prog_4_method_10_code 47 = .ok (.aaload, 1) := by decide +kernel
theorem nd_Plan_longestDelay_48 : decode prog_4_method_10_code 48 = .ok (.iload 4, 2) := by decide +kernel
theorem nd_Plan_longestDelay_50 : decode prog_4_method_10_code 50 = .ok (.iaload, 1) := by decide +kernel
theorem nd_Plan_longestDelay_51 : decode prog_4_method_10_code 51 = .ok (.invokestatic 36, 3) := by decide +kernel
theorem nd_Plan_longestDelay_54 : decode prog_4_method_10_code 54 = .ok (.istore_n 3, 1) := by decide +kernel
theorem nd_Plan_longestDelay_55 : decode prog_4_method_10_code 55 = .ok (.iinc 4 1, 3) := by decide +kernel
theorem nd_Plan_longestDelay_58 : decode prog_4_method_10_code 58 = .ok (.goto (-42), 3) := by decide +kernel
theorem nd_Plan_longestDelay_61 : decode prog_4_method_10_code 61 = .ok (.iload_n 3, 1) := by decide +kernel
theorem nd_Plan_longestDelay_62 : decode prog_4_method_10_code 62 = .ok (.ireturn, 1) := by decide +kernel
def lo_Plan_longestDelay_16 (pl : cr_S) (x1 : Int32) (x2 : Int32) : Nat → Int32 → Int32 → Int32
  | 0, _, _ => 0
  | n_16 + 1, v3_16, v4_16 =>
    (if (pl 0 1) < v4_16 then v3_16 else (if (pl 3 v4_16.toNatClampNeg) < (pl 1 x1.toNatClampNeg) then (lo_Plan_longestDelay_16 pl x1 x2 n_16 v3_16 (v4_16 + (1 : Int32))) else (lo_Plan_longestDelay_16 pl x1 x2 n_16 (cr_max v3_16 (pl (6 + x2.toNatClampNeg) v4_16.toNatClampNeg)) (v4_16 + (1 : Int32)))))
def md_Plan_longestDelay (pl : cr_S) (x1 : Int32) (x2 : Int32) : Int32 :=
  (if (md_Plan_isBelow pl x2 x1) = 0 then (0 : Int32) else (lo_Plan_longestDelay_16 pl x1 x2 9 (0 : Int32) (1 : Int32)))
abbrev pq_Plan_longestDelay (dC : Nat → ClassId) (dI : Nat → Nat → Nat) (cI cZ cO : ClassId) (apl : Nat → Nat) (pl : cr_S) (x1 : Int32) (x2 : Int32) (A : Nat → Prop) : Array Value → State → Outcome → State → Prop :=
  va_Qi (fun (r : Int32) (_ : Unit) => r = md_Plan_longestDelay pl x1 x2) (fun (_ : Unit) t => va_P (dC, dI) vwCl (cw_Plan cI cZ cO apl pl) t.heap ∧ va_K (dC, dI) vwCl [(cI, .int), (cZ, .boolean), (cO, .array .int)] t ∧ va_D A (cw_Plan cI cZ cO apl pl)) A
set_option maxHeartbeats 4000000 in
set_option maxRecDepth 100000 in
theorem ct_Plan_longestDelay (l : Launch) (dC : Nat → ClassId) (dI : Nat → Nat → Nat) (cI cZ cO : ClassId) (apl : Nat → Nat) (sz : Nat) (pl : cr_S) (x1 : Int32) (x2 : Int32) (hR_pl : cr_RPlan pl) (hx1 : 0 ≤ x1.toInt ∧ x1.toInt ≤ 10) (hx2 : 0 ≤ x2.toInt ∧ x2.toInt ≤ 10) : Met l ny_Plan_longestDelay nw_Plan_longestDelay ({ frames := 1, cells := 0, slots := 0, locals := 22 } : Room) (va_Pc [.ref (apl 0), .int x1, .int x2] (fun U => U.heap.size = sz ∧ va_P (dC, dI) vwCl (cw_Plan cI cZ cO apl pl) U.heap ∧ va_K (dC, dI) vwCl [(cI, .int), (cZ, .boolean), (cO, .array .int)] U ∧ va_D (fun _ => True) (cw_Plan cI cZ cO apl pl))) (pq_Plan_longestDelay dC dI cI cZ cO apl pl x1 x2 (va_A (cw_Plan cI cZ cO apl pl) sz)) 0 0 (va_A (cw_Plan cI cZ cO apl pl) sz) := by
  refine Met.ofW (cc := prog_4_method_10_code) (maxL := 5) (ret := (some .int)) (by decide) rfl ?_
  intro p e s m args below meth c s₁ B hml hv
  obtain ⟨rfl, hsz, hP, hK, hD0⟩ := hv
  have hx := B.exec
  have hb := B.bytes
  have hr := B.returns
  have hts0 := atoms_spec (ws := nw_Plan_longestDelay) B.pre
  have hts : ∀ w ∈ ng_tbl, w.before ([.ref (apl 0), .int x1, .int x2] : List Value).toArray s = true := fun w h => hts0 w (List.mem_cons_of_mem _ h)
  have hown : s.vm.findClass "CeilingRows$Plan" = some m.cls := findClass_of_methodNamed B.named
  have hlocks := B.notSynchronized
  subst hsz
  have hD := hD0.self (sz := s.heap.size)
  generalize hAe : va_A (cw_Plan cI cZ cO apl pl) s.heap.size = A at hD ⊢
  have hA : ∀ q : Nat, s.heap.size ≤ q → A q := fun q h => by rw [← hAe]; exact Or.inr h
  have hS : va_S A s.heap s.heap [] := va_S.rf
  have hP : va_P (dC, dI) vwCl (cw_Plan cI cZ cO apl pl) s.heap := hP
  have hl := lv_entry ([.ref (apl 0), .int x1, .int x2]) (n := 5) (Nat.le_of_ble_eq_true rfl)
  rw [lg_entry_eq]
  generalize (lg_sl ([.ref (apl 0), .int x1, .int x2]) ++ List.replicate (5 - (lg_sl ([.ref (apl 0), .int x1, .int x2])).length) Slot.unset).toArray = ls at hl ⊢
  have hl : lv_has ls 5 [(0, .ref (apl 0)), (1, .int x1), (2, .int x2)] := hl
  have k_0 : (0 : Int32).toInt = 0 := by decide
  have k_1 : (1 : Int32).toInt = 1 := by decide
  obtain ⟨tgt, hT⟩ : ∃ z, md_Plan_longestDelay pl x1 x2 = z := ⟨_, rfl⟩
  have hM := hT
  unfold md_Plan_longestDelay at hM
  refine lv_aload_n hx hb nd_Plan_longestDelay_0 rfl (lv_at hl 0 rfl) ?_
  refine lv_iload_n hx hb nd_Plan_longestDelay_1 rfl (lv_at hl 2 rfl) ?_
  refine lv_iload_n hx hb nd_Plan_longestDelay_2 rfl (lv_at hl 1 rfl) ?_
  have hPc := hP
  have hDc := hD
  have hFc := va_free (wc := cw_Plan cI cZ cO apl pl) hD hS hA [0, 1, 2, 3, 4, 5, 6, 7, 8, 9, 10, 11, 12, 13, 14, 15, 16] rfl
  refine va_calli (va_runV (As := [.int x2, .int x1]) (rest := []) ⟨hx, hb, hml, hown, hts⟩ (ct_Plan_isBelow l dC dI cI cZ cO apl s.heap.size pl x2 x1 hR_pl (by omega) (by omega)) (cwV 2 hts (ng_V tw_303 tw_304 tw_305 tw_2 tw_306) rfl rfl rfl (by decide +kernel) ⟨Nat.le_of_ble_eq_true rfl, Nat.le_of_ble_eq_true rfl⟩) ⟨fun a U g mk q => by obtain ⟨q0, q1, qP, qK, qD⟩ := q; exact ⟨q0, q1, qP, va_K.moved (u := U) (U := U.calling g mk a) (Vm.Alike.refl U.vm) qK, qD⟩, va_recv hK hPc (ci := 0) (q0 := 0) rfl rfl, fun U hU hW => ⟨rfl, by rw [hU], by rw [hU]; exact hPc, va_K.moved hW.alike hK, hDc.weaken (fun _ _ _ _ => trivial)⟩⟩ rfl rfl hl.1 rfl (lv_room (Nat.le_of_ble_eq_true rfl)) nd_Plan_longestDelay_3 ⟨Nat.zero_le _, Nat.zero_le _⟩) hS (fun q _ h => hFc q h) hFc (fun r_1 u t H1 locs ht hvm hw hB hz1 hk1 hS => ?_)
  obtain ⟨hP1, hK1, hD1⟩ := hB
  rw [ht] at hP1
  have w_2 := hw
  try rw [← w_2] at hM
  have hP := hP1
  have hD := cr_Dw hD1 hFc
  generalize H1 = H at hP hS ⊢
  refine lv_if_ne (tgt := 11) hx hb nd_Plan_longestDelay_6 (by decide) (fun c_3 => ?_) (fun c_3 => ?_)
  · have c_3t := cr_ne c_3
    rw [if_neg c_3] at hM
    refine lv_iconst (v := 0) hx hb nd_Plan_longestDelay_11 (by decide) ?_
    refine lv_istore_n (lv' := [(3, .int (0 : Int32)), (0, .ref (apl 0)), (1, .int x1), (2, .int x2)]) hx hb nd_Plan_longestDelay_12 rfl hl (by decide) rfl (fun ls hl => ?_)
    refine lv_iconst (v := 1) hx hb nd_Plan_longestDelay_13 (by decide) ?_
    refine lv_istore (lv' := [(4, .int (1 : Int32)), (3, .int (0 : Int32)), (0, .ref (apl 0)), (1, .int x1), (2, .int x2)]) hx hb nd_Plan_longestDelay_14 hl (by decide) rfl (fun ls hl => ?_)
    have hl := lv_sub hl [2, 3, 4, 1, 0] rfl
    have lp_16 : ∀ (n_16 : Nat) (v3_16 : Int32) (v4_16 : Int32), (1 ≤ v4_16.toInt ∧ v4_16.toInt ≤ 9) → (9 < v4_16.toInt + (n_16 : Int)) → lo_Plan_longestDelay_16 pl x1 x2 n_16 v3_16 v4_16 = tgt → ∀ (H : Heap) (locs : List Loc), va_P (dC, dI) vwCl (cw_Plan cI cZ cO apl pl) H → va_D A (cw_Plan cI cZ cO apl pl) → va_S A s.heap H locs → ∀ ls : Array Slot, lv_has ls 5 [(0, .ref (apl 0)), (1, .int x1), (2, .int x2), (3, .int v3_16), (4, .int v4_16)] → W p l e (headSpec nw_Plan_longestDelay ({ frames := 1, cells := 0, slots := 0, locals := 22 } : Room)).room s m ([.ref (apl 0), .int x1, .int x2] : List Value).toArray below meth c H locs 0 0 (MQ below (pq_Plan_longestDelay dC dI cI cZ cO apl pl x1 x2 A) ([.ref (apl 0), .int x1, .int x2] : List Value).toArray s 0 0 A) (F0 m 16 ls []) := by
      intro n_16
      induction n_16 with
      | zero =>
        intro v3_16 v4_16 hv4_16 hn_16
        exfalso; omega
      | succ n_16 ih_16 =>
        intro v3_16 v4_16 hv4_16 hn_16 hM H locs hP hD hS ls hl
        have hn_16 : 9 < v4_16.toInt + ((n_16 : Int) + 1) := by omega
        rw [lo_Plan_longestDelay_16] at hM
        refine lv_iload hx hb nd_Plan_longestDelay_16 (lv_at hl 4 rfl) ?_
        refine lv_aload_n hx hb nd_Plan_longestDelay_18 rfl (lv_at hl 0 rfl) ?_
        refine va_get (D := (dC, dI)) (ci := 0) (v := .int (pl 0 1)) (C := "CeilingRows$Plan") (T := nf_Plan) (N := 7) hx hb hts nin_Plan hown hK hP 0 rfl rfl 1 (by decide) (hts _ tw_31) (fun _ h9 => h9) rfl nd_Plan_longestDelay_19 ?_
        have f_4 := cr_rfo hR_pl.2.1
        refine lv_icmp_gt (tgt := 61) hx hb nd_Plan_longestDelay_22 (by decide) (fun c_5 => ?_) (fun c_5 => ?_)
        · have c_5t := cr_lt c_5
          rw [if_pos c_5] at hM
          refine lv_iload_n hx hb nd_Plan_longestDelay_61 rfl (lv_at hl 3 rfl) ?_
          exact W.iret (v := v3_16) hx hb hr (fun t ht hW => ⟨⟨v3_16, (), rfl, by rw [hT, ← hM], by rw [ht]; exact hP, va_K.moved hW.alike hK, hD⟩, hS.F ht⟩) hS.2.2 nd_Plan_longestDelay_62
        · have c_5t := cr_nlt c_5
          rw [if_neg c_5] at hM
          refine lv_aload_n hx hb nd_Plan_longestDelay_25 rfl (lv_at hl 0 rfl) ?_
          refine va_get (D := (dC, dI)) (ci := 0) (v := .ref (apl 3)) (C := "CeilingRows$Plan") (T := nf_Plan) (N := 7) hx hb hts nin_Plan hown hK hP 0 rfl rfl 4 (by decide) (hts _ tw_39) (fun _ h9 => h9) rfl nd_Plan_longestDelay_26 ?_
          refine lv_iload hx hb nd_Plan_longestDelay_29 (lv_at hl 4 rfl) ?_
          have b_6 : vp_in v4_16 9 := vp_in_iff.mpr (by omega)
          refine va_iald hx hb hK hP 3 0 rfl rfl b_6 nd_Plan_longestDelay_31 ?_
          refine lv_aload_n hx hb nd_Plan_longestDelay_32 rfl (lv_at hl 0 rfl) ?_
          refine va_get (D := (dC, dI)) (ci := 0) (v := .ref (apl 1)) (C := "CeilingRows$Plan") (T := nf_Plan) (N := 7) hx hb hts nin_Plan hown hK hP 0 rfl rfl 2 (by decide) (hts _ tw_34) (fun _ h9 => h9) rfl nd_Plan_longestDelay_33 ?_
          refine lv_iload_n hx hb nd_Plan_longestDelay_36 rfl (lv_at hl 1 rfl) ?_
          have b_7 : vp_in x1 11 := vp_in_iff.mpr (by omega)
          refine va_iald hx hb hK hP 1 0 rfl rfl b_7 nd_Plan_longestDelay_37 ?_
          refine lv_icmp_lt (tgt := 55) hx hb nd_Plan_longestDelay_38 (by decide) (fun c_8 => ?_) (fun c_8 => ?_)
          · have c_8t := cr_lt c_8
            rw [if_pos c_8] at hM
            have e_9 : (v4_16 + (1 : Int32)).toInt = v4_16.toInt + (1 : Int32).toInt := cr_add (by omega)
            refine lv_iinc (v := (v4_16 + (1 : Int32))) (lv' := [(4, .int (v4_16 + (1 : Int32))), (0, .ref (apl 0)), (1, .int x1), (2, .int x2), (3, .int v3_16)]) hx hb nd_Plan_longestDelay_55 hl (k := 4) rfl (by rfl) (by decide) rfl (fun ls hl => ?_)
            refine lv_goto (tgt := 16) hx hb nd_Plan_longestDelay_58 (by decide) ?_
            exact ih_16 v3_16 (v4_16 + (1 : Int32)) (by omega) (by omega) hM _ _ hP hD hS _ (lv_sub hl [1, 2, 3, 4, 0] rfl)
          · have c_8t := cr_nlt c_8
            rw [if_neg c_8] at hM
            refine lv_iload_n hx hb nd_Plan_longestDelay_41 rfl (lv_at hl 3 rfl) ?_
            refine lv_aload_n hx hb nd_Plan_longestDelay_42 rfl (lv_at hl 0 rfl) ?_
            refine va_get (D := (dC, dI)) (ci := 0) (v := .ref (apl 5)) (C := "CeilingRows$Plan") (T := nf_Plan) (N := 7) hx hb hts nin_Plan hown hK hP 0 rfl rfl 6 (by decide) (hts _ tw_43) (fun _ h9 => h9) rfl nd_Plan_longestDelay_43 ?_
            refine lv_iload_n hx hb nd_Plan_longestDelay_46 rfl (lv_at hl 2 rfl) ?_
            have b_10 : vp_in x2 11 := vp_in_iff.mpr (by omega)
            have g_11 : x2.toNatClampNeg < 11 := cr_ix b_10
            refine ga_ald hx hb hK hP 5 2 rfl rfl b_10 g_11 nd_Plan_longestDelay_47 ?_
            refine lv_iload hx hb nd_Plan_longestDelay_48 (lv_at hl 4 rfl) ?_
            have b_12 : vp_in v4_16 9 := vp_in_iff.mpr (by omega)
            refine va_iald hx hb hK hP (6 + x2.toNatClampNeg) 0 (cg_Plan_6 cI cZ cO apl pl _ g_11) rfl b_12 nd_Plan_longestDelay_50 ?_
            refine va_mmax hx hb (by rw [hml]; exact hl.1.symm) hown (hts _ tw_206) (hts _ tw_207) (hts _ tw_7) (hts _ tw_208) (Nat.le_of_ble_eq_true rfl) (Nat.le_of_ble_eq_true rfl) (Nat.zero_le _) (Nat.zero_le _) nd_Plan_longestDelay_51 ?_
            refine lv_istore_n (lv' := [(3, .int (cr_max v3_16 (pl (6 + x2.toNatClampNeg) v4_16.toNatClampNeg))), (0, .ref (apl 0)), (1, .int x1), (2, .int x2), (4, .int v4_16)]) hx hb nd_Plan_longestDelay_54 rfl hl (by decide) rfl (fun ls hl => ?_)
            have e_13 : (v4_16 + (1 : Int32)).toInt = v4_16.toInt + (1 : Int32).toInt := cr_add (by omega)
            refine lv_iinc (v := (v4_16 + (1 : Int32))) (lv' := [(4, .int (v4_16 + (1 : Int32))), (3, .int (cr_max v3_16 (pl (6 + x2.toNatClampNeg) v4_16.toNatClampNeg))), (0, .ref (apl 0)), (1, .int x1), (2, .int x2)]) hx hb nd_Plan_longestDelay_55 hl (k := 4) rfl (by rfl) (by decide) rfl (fun ls hl => ?_)
            refine lv_goto (tgt := 16) hx hb nd_Plan_longestDelay_58 (by decide) ?_
            exact ih_16 (cr_max v3_16 (pl (6 + x2.toNatClampNeg) v4_16.toNatClampNeg)) (v4_16 + (1 : Int32)) (by omega) (by omega) hM _ _ hP hD hS _ (lv_sub hl [2, 3, 4, 1, 0] rfl)
    exact lp_16 9 (0 : Int32) (1 : Int32) (by omega) (by omega) hM _ _ hP hD hS _ hl
  · have c_3t := cr_eq c_3
    rw [if_pos c_3] at hM
    refine lv_iconst (v := 0) hx hb nd_Plan_longestDelay_9 (by decide) ?_
    exact W.iret (v := (0 : Int32)) hx hb hr (fun t ht hW => ⟨⟨(0 : Int32), (), rfl, by rw [hT, ← hM], by rw [ht]; exact hP, va_K.moved hW.alike hK, hD⟩, hS.F ht⟩) hS.2.2 nd_Plan_longestDelay_10
end
section
theorem nd_Board_clear_0 : decode prog_2_method_2_code 0 = .ok (.aload_n 0, 1) := by decide +kernel
theorem nd_Board_clear_1 : decode prog_2_method_2_code 1 = .ok (.getfield 9, 3) := by decide +kernel
theorem nd_Board_clear_4 : decode prog_2_method_2_code 4 = .ok (.iconst 0, 1) := by decide +kernel
theorem nd_Board_clear_5 : decode prog_2_method_2_code 5 = .ok (.invokestatic 31, 3) := by decide +kernel
theorem nd_Board_clear_8 : decode prog_2_method_2_code 8 = .ok (.aload_n 0, 1) := by decide +kernel
theorem nd_Board_clear_9 : decode prog_2_method_2_code 9 = .ok (.getfield 15, 3) := by decide +kernel
theorem nd_Board_clear_12 : decode prog_2_method_2_code 12 = .ok (.iconst 0, 1) := by decide +kernel
theorem nd_Board_clear_13 : decode prog_2_method_2_code 13 = .ok (.invokestatic 31, 3) := by decide +kernel
theorem nd_Board_clear_16 : decode prog_2_method_2_code 16 = .ok (.aload_n 0, 1) := by decide +kernel
theorem nd_Board_clear_17 : decode prog_2_method_2_code 17 = .ok (.iconst 0, 1) := by decide +kernel
theorem nd_Board_clear_18 : decode prog_2_method_2_code 18 = .ok (.putfield 37, 3) := by decide +kernel
theorem nd_Board_clear_21 : decode prog_2_method_2_code 21 = .ok (.aload_n 0, 1) := by decide +kernel
theorem nd_Board_clear_22 : decode prog_2_method_2_code 22 = .ok (.getfield 18, 3) := by decide +kernel
theorem nd_Board_clear_25 : decode prog_2_method_2_code 25 = .ok (.iconst 0, 1) := by decide +kernel
theorem nd_Board_clear_26 : decode prog_2_method_2_code 26 = .ok (.invokestatic 31, 3) := by decide +kernel
theorem nd_Board_clear_29 : decode prog_2_method_2_code 29 = .ok (.aload_n 0, 1) := by decide +kernel
theorem nd_Board_clear_30 : decode prog_2_method_2_code 30 = .ok (.getfield 21, 3) := by decide +kernel
theorem nd_Board_clear_33 : decode prog_2_method_2_code 33 = .ok (.iconst 0, 1) := by decide +kernel
theorem nd_Board_clear_34 : decode prog_2_method_2_code 34 = .ok (.invokestatic 31, 3) := by decide +kernel
theorem nd_Board_clear_37 : decode prog_2_method_2_code 37 = .ok (.aload_n 0, 1) := by decide +kernel
theorem nd_Board_clear_38 : decode prog_2_method_2_code 38 = .ok (.getfield 24, 3) := by decide +kernel
theorem nd_Board_clear_41 : decode prog_2_method_2_code 41 = .ok (.iconst 0, 1) := by decide +kernel
theorem nd_Board_clear_42 : decode prog_2_method_2_code 42 = .ok (.invokestatic 31, 3) := by decide +kernel
theorem nd_Board_clear_45 : decode prog_2_method_2_code 45 = .ok (.return_, 1) := by decide +kernel
def md_Board_clear (pl : cr_S) (bd : cr_S) : cr_S :=
  (cr_fill (cr_fill (cr_fill (cr_up (cr_fill (cr_fill bd 1 11 (0 : Int32)) 2 11 (0 : Int32)) 0 0 (0 : Int32)) 3 11 (0 : Int32)) 4 9 (0 : Int32)) 5 9 (0 : Int32))
abbrev pq_Board_clear (dC : Nat → ClassId) (dI : Nat → Nat → Nat) (cI cZ cO : ClassId) (apl abd : Nat → Nat) (pl : cr_S) (bd : cr_S)  (A : Nat → Prop) : Array Value → State → Outcome → State → Prop :=
  va_Qv (fun (bd' : cr_S) => bd' = md_Board_clear pl bd ∧ cr_RBoard bd') (fun (bd' : cr_S) t => va_P (dC, dI) vwCl (cw_Plan cI cZ cO apl pl ++ cw_Board cI cZ cO abd apl bd') t.heap ∧ va_K (dC, dI) vwCl [(cI, .int), (cZ, .boolean), (cO, .array .int)] t ∧ va_D A (cw_Plan cI cZ cO apl pl ++ cw_Board cI cZ cO abd apl bd')) A
set_option maxHeartbeats 4000000 in
set_option maxRecDepth 100000 in
theorem ct_Board_clear (l : Launch) (dC : Nat → ClassId) (dI : Nat → Nat → Nat) (cI cZ cO : ClassId) (apl abd : Nat → Nat) (sz : Nat) (pl : cr_S) (bd : cr_S)  (hR_bd : cr_RBoard bd) (hR_pl : cr_RPlan pl) : Met l ny_Board_clear nw_Board_clear ({ frames := 1, cells := 0, slots := 0, locals := 23 } : Room) (va_Pc [.ref (abd 0)] (fun U => U.heap.size = sz ∧ va_P (dC, dI) vwCl (cw_Plan cI cZ cO apl pl ++ cw_Board cI cZ cO abd apl bd) U.heap ∧ va_K (dC, dI) vwCl [(cI, .int), (cZ, .boolean), (cO, .array .int)] U ∧ va_D (fun _ => True) (cw_Plan cI cZ cO apl pl ++ cw_Board cI cZ cO abd apl bd))) (pq_Board_clear dC dI cI cZ cO apl abd pl bd  (va_A (cw_Plan cI cZ cO apl pl ++ cw_Board cI cZ cO abd apl bd) sz)) 0 0 (va_A (cw_Plan cI cZ cO apl pl ++ cw_Board cI cZ cO abd apl bd) sz) := by
  refine Met.ofW (cc := prog_2_method_2_code) (maxL := 1) (ret := none) (by decide) rfl ?_
  intro p e s m args below meth c s₁ B hml hv
  obtain ⟨rfl, hsz, hP, hK, hD0⟩ := hv
  have hx := B.exec
  have hb := B.bytes
  have hr := B.returns
  have hts0 := atoms_spec (ws := nw_Board_clear) B.pre
  have hts : ∀ w ∈ ng_tbl, w.before ([.ref (abd 0)] : List Value).toArray s = true := fun w h => hts0 w (List.mem_cons_of_mem _ h)
  have hown : s.vm.findClass "CeilingRows$Board" = some m.cls := findClass_of_methodNamed B.named
  have hlocks := B.notSynchronized
  subst hsz
  have hD := hD0.self (sz := s.heap.size)
  generalize hAe : va_A (cw_Plan cI cZ cO apl pl ++ cw_Board cI cZ cO abd apl bd) s.heap.size = A at hD ⊢
  have hA : ∀ q : Nat, s.heap.size ≤ q → A q := fun q h => by rw [← hAe]; exact Or.inr h
  have hS : va_S A s.heap s.heap [] := va_S.rf
  have hP : va_P (dC, dI) vwCl (cw_Plan cI cZ cO apl pl ++ cw_Board cI cZ cO abd apl bd) s.heap := hP
  have hl := lv_entry ([.ref (abd 0)]) (n := 1) (Nat.le_of_ble_eq_true rfl)
  rw [lg_entry_eq]
  generalize (lg_sl ([.ref (abd 0)]) ++ List.replicate (1 - (lg_sl ([.ref (abd 0)])).length) Slot.unset).toArray = ls at hl ⊢
  have hl : lv_has ls 1 [(0, .ref (abd 0))] := hl
  have k_0 : (0 : Int32).toInt = 0 := by decide
  obtain ⟨tgt, hT⟩ : ∃ z, md_Board_clear pl bd = z := ⟨_, rfl⟩
  have hM := hT
  unfold md_Board_clear at hM
  refine lv_aload_n hx hb nd_Board_clear_0 rfl (lv_at hl 0 rfl) ?_
  refine va_get (D := (dC, dI)) (ci := 1) (v := .ref (abd 1)) (C := "CeilingRows$Board") (T := nf_Board) (N := 7) hx hb hts nin_Board hown hK hP 17 rfl rfl 1 (by decide) (hts _ tw_68) (fun _ h9 => h9) rfl nd_Board_clear_1 ?_
  refine lv_iconst (v := 0) hx hb nd_Board_clear_4 (by decide) ?_
  have h_1 : (cw_Plan cI cZ cO apl pl ++ cw_Board cI cZ cO abd apl bd)[18]? = some (abd 1, (.inl (cI, 11, .inl (bd 1)) : va_E)) := rfl
  have hPc := cr_P1 hP h_1
  have hFc := cr_F1 hD hS hA h_1
  refine va_callv (va_runS (As := [.ref (abd 1), .int (0 : Int32)]) (rest := []) ⟨hx, hb, hml, hown, hts⟩ (ct_fill l dC dI cI cZ cO (abd 1) s.heap.size 11 (bd 1) (0 : Int32) (by decide)) (va_cwS 2 hts (ng_S tw_357 tw_358 tw_8 tw_359) rfl rfl rfl (by decide +kernel) ⟨Nat.le_of_ble_eq_true rfl, Nat.le_of_ble_eq_true rfl⟩) ⟨fun a U g mk q => by obtain ⟨q0, q1, qP, qK, qD⟩ := q; exact ⟨q0, q1, qP, va_K.moved (u := U) (U := U.calling g mk a) (Vm.Alike.refl U.vm) qK, qD⟩, fun U hU hW => ⟨rfl, by rw [hU], by rw [hU]; exact hPc, va_K.moved hW.alike hK, cr_D1⟩⟩ rfl rfl hl.1 rfl (lv_room (Nat.le_of_ble_eq_true rfl)) nd_Board_clear_5 ⟨Nat.zero_le _, Nat.zero_le _⟩) hS (fun q _ h => hFc q h) hFc (fun u t H1 locs ht hvm hw hB hz1 hk1 hS => ?_)
  obtain ⟨hP1, hK1, hD1⟩ := hB
  rw [ht] at hP1
  subst hw
  obtain ⟨hP, hD⟩ := cr_join1 hP hD h_1 hk1 hP1
  generalize H1 = H at hP hS ⊢
  have hP : va_P (dC, dI) vwCl (cw_Plan cI cZ cO apl pl ++ cw_Board cI cZ cO abd apl (cr_fill bd 1 11 (0 : Int32))) H := hP
  have hD : va_D A (cw_Plan cI cZ cO apl pl ++ cw_Board cI cZ cO abd apl (cr_fill bd 1 11 (0 : Int32))) := hD
  have hR_2 : cr_RBoard (cr_fill bd 1 11 (0 : Int32)) := ⟨cr_rg_fill hR_bd.1 (fun e => absurd e (by decide)), cr_rg_fill hR_bd.2 (fun e => absurd e (by decide))⟩
  obtain ⟨bdq_3, hbdq_3⟩ : ∃ z, (cr_fill bd 1 11 (0 : Int32)) = z := ⟨_, rfl⟩
  rw [hbdq_3] at hP hD hR_2
  try rw [hbdq_3] at hM
  refine lv_aload_n hx hb nd_Board_clear_8 rfl (lv_at hl 0 rfl) ?_
  refine va_get (D := (dC, dI)) (ci := 1) (v := .ref (abd 2)) (C := "CeilingRows$Board") (T := nf_Board) (N := 7) hx hb hts nin_Board hown hK hP 17 rfl rfl 2 (by decide) (hts _ tw_71) (fun _ h9 => h9) rfl nd_Board_clear_9 ?_
  refine lv_iconst (v := 0) hx hb nd_Board_clear_12 (by decide) ?_
  have h_4 : (cw_Plan cI cZ cO apl pl ++ cw_Board cI cZ cO abd apl bdq_3)[19]? = some (abd 2, (.inl (cI, 11, .inl (bdq_3 2)) : va_E)) := rfl
  have hPc := cr_P1 hP h_4
  have hFc := cr_F1 hD hS hA h_4
  refine va_callv (va_runS (As := [.ref (abd 2), .int (0 : Int32)]) (rest := []) ⟨hx, hb, hml, hown, hts⟩ (ct_fill l dC dI cI cZ cO (abd 2) H.size 11 (bdq_3 2) (0 : Int32) (by decide)) (va_cwS 2 hts (ng_S tw_357 tw_358 tw_8 tw_359) rfl rfl rfl (by decide +kernel) ⟨Nat.le_of_ble_eq_true rfl, Nat.le_of_ble_eq_true rfl⟩) ⟨fun a U g mk q => by obtain ⟨q0, q1, qP, qK, qD⟩ := q; exact ⟨q0, q1, qP, va_K.moved (u := U) (U := U.calling g mk a) (Vm.Alike.refl U.vm) qK, qD⟩, fun U hU hW => ⟨rfl, by rw [hU], by rw [hU]; exact hPc, va_K.moved hW.alike hK, cr_D1⟩⟩ rfl rfl hl.1 rfl (lv_room (Nat.le_of_ble_eq_true rfl)) nd_Board_clear_13 ⟨Nat.zero_le _, Nat.zero_le _⟩) hS (fun q _ h => hFc q h) hFc (fun u t H1 locs ht hvm hw hB hz1 hk1 hS => ?_)
  obtain ⟨hP1, hK1, hD1⟩ := hB
  rw [ht] at hP1
  subst hw
  obtain ⟨hP, hD⟩ := cr_join1 hP hD h_4 hk1 hP1
  generalize H1 = H at hP hS ⊢
  have hP : va_P (dC, dI) vwCl (cw_Plan cI cZ cO apl pl ++ cw_Board cI cZ cO abd apl (cr_fill bdq_3 2 11 (0 : Int32))) H := hP
  have hD : va_D A (cw_Plan cI cZ cO apl pl ++ cw_Board cI cZ cO abd apl (cr_fill bdq_3 2 11 (0 : Int32))) := hD
  have hR_5 : cr_RBoard (cr_fill bdq_3 2 11 (0 : Int32)) := ⟨cr_rg_fill hR_2.1 (fun e => absurd e (by decide)), cr_rg_fill hR_2.2 (fun e => absurd e (by decide))⟩
  obtain ⟨bdq_6, hbdq_6⟩ : ∃ z, (cr_fill bdq_3 2 11 (0 : Int32)) = z := ⟨_, rfl⟩
  rw [hbdq_6] at hP hD hR_5
  try rw [hbdq_6] at hM
  refine lv_aload_n hx hb nd_Board_clear_16 rfl (lv_at hl 0 rfl) ?_
  refine lv_iconst (v := 0) hx hb nd_Board_clear_17 (by decide) ?_
  refine va_put (D := (dC, dI)) (ci := 1) (v := .int (0 : Int32)) (ty := .int) (C := "CeilingRows$Board") (T := nf_Board) (N := 7) hx hb hts nin_Board nt_Board nto_Board nno_Board hown hK hP hD hS 17 rfl rfl 3 (by decide) (hts _ tw_72) (fun _ h9 => h9) rfl (by decide +kernel) rfl rfl (Nat.le_of_ble_eq_true rfl) nd_Board_clear_18 (fun H locs hP hD hS => ?_)
  have hP : va_P (dC, dI) vwCl (cw_Plan cI cZ cO apl pl ++ cw_Board cI cZ cO abd apl (cr_up bdq_6 0 0 (0 : Int32))) H := hP
  have hD : va_D A (cw_Plan cI cZ cO apl pl ++ cw_Board cI cZ cO abd apl (cr_up bdq_6 0 0 (0 : Int32))) := hD
  have hR_7 : cr_RBoard (cr_up bdq_6 0 0 (0 : Int32)) := ⟨cr_rg_up hR_5.1 (fun e => absurd e (by decide)), cr_rg_up hR_5.2 (fun e => absurd e (by decide))⟩
  obtain ⟨bdq_8, hbdq_8⟩ : ∃ z, (cr_up bdq_6 0 0 (0 : Int32)) = z := ⟨_, rfl⟩
  rw [hbdq_8] at hP hD hR_7
  try rw [hbdq_8] at hM
  refine lv_aload_n hx hb nd_Board_clear_21 rfl (lv_at hl 0 rfl) ?_
  refine va_get (D := (dC, dI)) (ci := 1) (v := .ref (abd 3)) (C := "CeilingRows$Board") (T := nf_Board) (N := 7) hx hb hts nin_Board hown hK hP 17 rfl rfl 4 (by decide) (hts _ tw_73) (fun _ h9 => h9) rfl nd_Board_clear_22 ?_
  refine lv_iconst (v := 0) hx hb nd_Board_clear_25 (by decide) ?_
  have h_9 : (cw_Plan cI cZ cO apl pl ++ cw_Board cI cZ cO abd apl bdq_8)[20]? = some (abd 3, (.inl (cI, 11, .inl (bdq_8 3)) : va_E)) := rfl
  have hPc := cr_P1 hP h_9
  have hFc := cr_F1 hD hS hA h_9
  refine va_callv (va_runS (As := [.ref (abd 3), .int (0 : Int32)]) (rest := []) ⟨hx, hb, hml, hown, hts⟩ (ct_fill l dC dI cI cZ cO (abd 3) H.size 11 (bdq_8 3) (0 : Int32) (by decide)) (va_cwS 2 hts (ng_S tw_357 tw_358 tw_8 tw_359) rfl rfl rfl (by decide +kernel) ⟨Nat.le_of_ble_eq_true rfl, Nat.le_of_ble_eq_true rfl⟩) ⟨fun a U g mk q => by obtain ⟨q0, q1, qP, qK, qD⟩ := q; exact ⟨q0, q1, qP, va_K.moved (u := U) (U := U.calling g mk a) (Vm.Alike.refl U.vm) qK, qD⟩, fun U hU hW => ⟨rfl, by rw [hU], by rw [hU]; exact hPc, va_K.moved hW.alike hK, cr_D1⟩⟩ rfl rfl hl.1 rfl (lv_room (Nat.le_of_ble_eq_true rfl)) nd_Board_clear_26 ⟨Nat.zero_le _, Nat.zero_le _⟩) hS (fun q _ h => hFc q h) hFc (fun u t H1 locs ht hvm hw hB hz1 hk1 hS => ?_)
  obtain ⟨hP1, hK1, hD1⟩ := hB
  rw [ht] at hP1
  subst hw
  obtain ⟨hP, hD⟩ := cr_join1 hP hD h_9 hk1 hP1
  generalize H1 = H at hP hS ⊢
  have hP : va_P (dC, dI) vwCl (cw_Plan cI cZ cO apl pl ++ cw_Board cI cZ cO abd apl (cr_fill bdq_8 3 11 (0 : Int32))) H := hP
  have hD : va_D A (cw_Plan cI cZ cO apl pl ++ cw_Board cI cZ cO abd apl (cr_fill bdq_8 3 11 (0 : Int32))) := hD
  have hR_10 : cr_RBoard (cr_fill bdq_8 3 11 (0 : Int32)) := ⟨cr_rg_fill hR_7.1 (fun _ => by omega), cr_rg_fill hR_7.2 (fun e => absurd e (by decide))⟩
  obtain ⟨bdq_11, hbdq_11⟩ : ∃ z, (cr_fill bdq_8 3 11 (0 : Int32)) = z := ⟨_, rfl⟩
  rw [hbdq_11] at hP hD hR_10
  try rw [hbdq_11] at hM
  refine lv_aload_n hx hb nd_Board_clear_29 rfl (lv_at hl 0 rfl) ?_
  refine va_get (D := (dC, dI)) (ci := 1) (v := .ref (abd 4)) (C := "CeilingRows$Board") (T := nf_Board) (N := 7) hx hb hts nin_Board hown hK hP 17 rfl rfl 5 (by decide) (hts _ tw_75) (fun _ h9 => h9) rfl nd_Board_clear_30 ?_
  refine lv_iconst (v := 0) hx hb nd_Board_clear_33 (by decide) ?_
  have h_12 : (cw_Plan cI cZ cO apl pl ++ cw_Board cI cZ cO abd apl bdq_11)[21]? = some (abd 4, (.inl (cI, 9, .inl (bdq_11 4)) : va_E)) := rfl
  have hPc := cr_P1 hP h_12
  have hFc := cr_F1 hD hS hA h_12
  refine va_callv (va_runS (As := [.ref (abd 4), .int (0 : Int32)]) (rest := []) ⟨hx, hb, hml, hown, hts⟩ (ct_fill l dC dI cI cZ cO (abd 4) H.size 9 (bdq_11 4) (0 : Int32) (by decide)) (va_cwS 2 hts (ng_S tw_357 tw_358 tw_8 tw_359) rfl rfl rfl (by decide +kernel) ⟨Nat.le_of_ble_eq_true rfl, Nat.le_of_ble_eq_true rfl⟩) ⟨fun a U g mk q => by obtain ⟨q0, q1, qP, qK, qD⟩ := q; exact ⟨q0, q1, qP, va_K.moved (u := U) (U := U.calling g mk a) (Vm.Alike.refl U.vm) qK, qD⟩, fun U hU hW => ⟨rfl, by rw [hU], by rw [hU]; exact hPc, va_K.moved hW.alike hK, cr_D1⟩⟩ rfl rfl hl.1 rfl (lv_room (Nat.le_of_ble_eq_true rfl)) nd_Board_clear_34 ⟨Nat.zero_le _, Nat.zero_le _⟩) hS (fun q _ h => hFc q h) hFc (fun u t H1 locs ht hvm hw hB hz1 hk1 hS => ?_)
  obtain ⟨hP1, hK1, hD1⟩ := hB
  rw [ht] at hP1
  subst hw
  obtain ⟨hP, hD⟩ := cr_join1 hP hD h_12 hk1 hP1
  generalize H1 = H at hP hS ⊢
  have hP : va_P (dC, dI) vwCl (cw_Plan cI cZ cO apl pl ++ cw_Board cI cZ cO abd apl (cr_fill bdq_11 4 9 (0 : Int32))) H := hP
  have hD : va_D A (cw_Plan cI cZ cO apl pl ++ cw_Board cI cZ cO abd apl (cr_fill bdq_11 4 9 (0 : Int32))) := hD
  have hR_13 : cr_RBoard (cr_fill bdq_11 4 9 (0 : Int32)) := ⟨cr_rg_fill hR_10.1 (fun e => absurd e (by decide)), cr_rg_fill hR_10.2 (fun e => absurd e (by decide))⟩
  obtain ⟨bdq_14, hbdq_14⟩ : ∃ z, (cr_fill bdq_11 4 9 (0 : Int32)) = z := ⟨_, rfl⟩
  rw [hbdq_14] at hP hD hR_13
  try rw [hbdq_14] at hM
  refine lv_aload_n hx hb nd_Board_clear_37 rfl (lv_at hl 0 rfl) ?_
  refine va_get (D := (dC, dI)) (ci := 1) (v := .ref (abd 5)) (C := "CeilingRows$Board") (T := nf_Board) (N := 7) hx hb hts nin_Board hown hK hP 17 rfl rfl 6 (by decide) (hts _ tw_78) (fun _ h9 => h9) rfl nd_Board_clear_38 ?_
  refine lv_iconst (v := 0) hx hb nd_Board_clear_41 (by decide) ?_
  have h_15 : (cw_Plan cI cZ cO apl pl ++ cw_Board cI cZ cO abd apl bdq_14)[22]? = some (abd 5, (.inl (cI, 9, .inl (bdq_14 5)) : va_E)) := rfl
  have hPc := cr_P1 hP h_15
  have hFc := cr_F1 hD hS hA h_15
  refine va_callv (va_runS (As := [.ref (abd 5), .int (0 : Int32)]) (rest := []) ⟨hx, hb, hml, hown, hts⟩ (ct_fill l dC dI cI cZ cO (abd 5) H.size 9 (bdq_14 5) (0 : Int32) (by decide)) (va_cwS 2 hts (ng_S tw_357 tw_358 tw_8 tw_359) rfl rfl rfl (by decide +kernel) ⟨Nat.le_of_ble_eq_true rfl, Nat.le_of_ble_eq_true rfl⟩) ⟨fun a U g mk q => by obtain ⟨q0, q1, qP, qK, qD⟩ := q; exact ⟨q0, q1, qP, va_K.moved (u := U) (U := U.calling g mk a) (Vm.Alike.refl U.vm) qK, qD⟩, fun U hU hW => ⟨rfl, by rw [hU], by rw [hU]; exact hPc, va_K.moved hW.alike hK, cr_D1⟩⟩ rfl rfl hl.1 rfl (lv_room (Nat.le_of_ble_eq_true rfl)) nd_Board_clear_42 ⟨Nat.zero_le _, Nat.zero_le _⟩) hS (fun q _ h => hFc q h) hFc (fun u t H1 locs ht hvm hw hB hz1 hk1 hS => ?_)
  obtain ⟨hP1, hK1, hD1⟩ := hB
  rw [ht] at hP1
  subst hw
  obtain ⟨hP, hD⟩ := cr_join1 hP hD h_15 hk1 hP1
  generalize H1 = H at hP hS ⊢
  have hP : va_P (dC, dI) vwCl (cw_Plan cI cZ cO apl pl ++ cw_Board cI cZ cO abd apl (cr_fill bdq_14 5 9 (0 : Int32))) H := hP
  have hD : va_D A (cw_Plan cI cZ cO apl pl ++ cw_Board cI cZ cO abd apl (cr_fill bdq_14 5 9 (0 : Int32))) := hD
  have hR_16 : cr_RBoard (cr_fill bdq_14 5 9 (0 : Int32)) := ⟨cr_rg_fill hR_13.1 (fun e => absurd e (by decide)), cr_rg_fill hR_13.2 (fun _ => by omega)⟩
  obtain ⟨bdq_17, hbdq_17⟩ : ∃ z, (cr_fill bdq_14 5 9 (0 : Int32)) = z := ⟨_, rfl⟩
  rw [hbdq_17] at hP hD hR_16
  try rw [hbdq_17] at hM
  exact W.vret hx hb hr (fun t ht hW => ⟨⟨bdq_17, rfl, ⟨by rw [hT, ← hM], hR_16⟩, by rw [ht]; exact hP, va_K.moved hW.alike hK, hD⟩, hS.F ht⟩) hS.2.2 nd_Board_clear_45

theorem nd_Board_allSleepOn_0 : decode prog_2_method_3_code 0 = .ok (.iconst 1, 1) := by decide +kernel
theorem nd_Board_allSleepOn_1 : decode prog_2_method_3_code 1 = .ok (.istore_n 2, 1) := by decide +kernel
theorem nd_Board_allSleepOn_2 : decode prog_2_method_3_code 2 = .ok (.iload_n 2, 1) := by decide +kernel
theorem nd_Board_allSleepOn_3 : decode prog_2_method_3_code 3 = .ok (.aload_n 0, 1) := by decide +kernel
theorem nd_Board_allSleepOn_4 : decode prog_2_method_3_code 4 = .ok (.getfield 27, 3) := by decide +kernel
theorem nd_Board_allSleepOn_7 : decode prog_2_method_3_code 7 = .ok (.getfield 41, 3) := by decide +kernel
theorem nd_Board_allSleepOn_10 : decode prog_2_method_3_code 10 = .ok (.if_icmp .gt (33), 3) := by decide +kernel
theorem nd_Board_allSleepOn_13 : decode prog_2_method_3_code 13 = .ok (.aload_n 0, 1) := by decide +kernel
theorem nd_Board_allSleepOn_14 : decode prog_2_method_3_code 14 = .ok (.getfield 27, 3) := by decide +kernel
theorem nd_Board_allSleepOn_17 : decode prog_2_method_3_code 17 = .ok (.getfield 46, 3) := by decide +kernel
theorem nd_Board_allSleepOn_20 : decode prog_2_method_3_code 20 = .ok (.iload_n 2, 1) := by decide +kernel
theorem nd_Board_allSleepOn_21 : decode prog_2_method_3_code 21 = .ok (.iaload, 1) := by decide +kernel
theorem nd_Board_allSleepOn_22 : decode prog_2_method_3_code 22 = .ok (.iload_n 1, 1) := by decide +kernel
theorem nd_Board_allSleepOn_23 : decode prog_2_method_3_code 23 = .ok (.if_icmp .ne (14), 3) := by decide +kernel
theorem nd_Board_allSleepOn_26 : decode prog_2_method_3_code 26 = .ok (.aload_n 0, 1) := by decide +kernel
theorem nd_Board_allSleepOn_27 : decode prog_2_method_3_code 27 = .ok (.getfield 9, 3) := by decide +kernel
theorem nd_Board_allSleepOn_30 : decode prog_2_method_3_code 30 = .ok (.iload_n 2, 1) := by decide +kernel
theorem nd_Board_allSleepOn_31 : decode prog_2_method_3_code 31 = .ok (.iaload, 1) := by decide +kernel
theorem nd_Board_allSleepOn_32 : decode prog_2_method_3_code 32 = .ok (.ifCond .eq (5), 3) := by decide +kernel
theorem nd_Board_allSleepOn_35 : decode prog_2_method_3_code 35 = .ok (.iconst 0, 1) := by decide +kernel
theorem nd_Board_allSleepOn_36 : decode prog_2_method_3_code 36 = .ok (.ireturn, 1) := by decide +kernel
theorem nd_Board_allSleepOn_37 : decode prog_2_method_3_code 37 = .ok (.iinc 2 1, 3) := by decide +kernel
theorem nd_Board_allSleepOn_40 : decode prog_2_method_3_code 40 = .ok (.goto (-38), 3) := by decide +kernel
theorem nd_Board_allSleepOn_43 : decode prog_2_method_3_code 43 = .ok (.iconst 1, 1) := by decide +kernel
theorem nd_Board_allSleepOn_44 : decode prog_2_method_3_code 44 = .ok (.ireturn, 1) := by decide +kernel
def lo_Board_allSleepOn_2 (pl : cr_S) (bd : cr_S) (x1 : Int32) : Nat → Int32 → Int32
  | 0, _ => 0
  | n_2 + 1, v2_2 =>
    (if (pl 0 0) < v2_2 then (1 : Int32) else (if (pl 2 v2_2.toNatClampNeg) = x1 then (if (bd 1 v2_2.toNatClampNeg) = 0 then (lo_Board_allSleepOn_2 pl bd x1 n_2 (v2_2 + (1 : Int32))) else (0 : Int32)) else (lo_Board_allSleepOn_2 pl bd x1 n_2 (v2_2 + (1 : Int32)))))
def md_Board_allSleepOn (pl : cr_S) (bd : cr_S) (x1 : Int32) : Int32 :=
  (lo_Board_allSleepOn_2 pl bd x1 11 (1 : Int32))
abbrev pq_Board_allSleepOn (dC : Nat → ClassId) (dI : Nat → Nat → Nat) (cI cZ cO : ClassId) (apl abd : Nat → Nat) (pl : cr_S) (bd : cr_S) (x1 : Int32) (A : Nat → Prop) : Array Value → State → Outcome → State → Prop :=
  va_Qi (fun (r : Int32) (_ : Unit) => r = md_Board_allSleepOn pl bd x1) (fun (_ : Unit) t => va_P (dC, dI) vwCl (cw_Plan cI cZ cO apl pl ++ cw_Board cI cZ cO abd apl bd) t.heap ∧ va_K (dC, dI) vwCl [(cI, .int), (cZ, .boolean), (cO, .array .int)] t ∧ va_D A (cw_Plan cI cZ cO apl pl ++ cw_Board cI cZ cO abd apl bd)) A
set_option maxHeartbeats 4000000 in
set_option maxRecDepth 100000 in
theorem ct_Board_allSleepOn (l : Launch) (dC : Nat → ClassId) (dI : Nat → Nat → Nat) (cI cZ cO : ClassId) (apl abd : Nat → Nat) (sz : Nat) (pl : cr_S) (bd : cr_S) (x1 : Int32) (hR_bd : cr_RBoard bd) (hR_pl : cr_RPlan pl) : Met l ny_Board_allSleepOn nw_Board_allSleepOn ({ frames := 0, cells := 0, slots := 0, locals := 0 } : Room) (va_Pc [.ref (abd 0), .int x1] (fun U => U.heap.size = sz ∧ va_P (dC, dI) vwCl (cw_Plan cI cZ cO apl pl ++ cw_Board cI cZ cO abd apl bd) U.heap ∧ va_K (dC, dI) vwCl [(cI, .int), (cZ, .boolean), (cO, .array .int)] U ∧ va_D (fun _ => True) (cw_Plan cI cZ cO apl pl ++ cw_Board cI cZ cO abd apl bd))) (pq_Board_allSleepOn dC dI cI cZ cO apl abd pl bd x1 (va_A (cw_Plan cI cZ cO apl pl ++ cw_Board cI cZ cO abd apl bd) sz)) 0 0 (va_A (cw_Plan cI cZ cO apl pl ++ cw_Board cI cZ cO abd apl bd) sz) := by
  refine Met.ofW (cc := prog_2_method_3_code) (maxL := 3) (ret := (some .boolean)) (by decide) rfl ?_
  intro p e s m args below meth c s₁ B hml hv
  obtain ⟨rfl, hsz, hP, hK, hD0⟩ := hv
  have hx := B.exec
  have hb := B.bytes
  have hr := B.returns
  have hts0 := atoms_spec (ws := nw_Board_allSleepOn) B.pre
  have hts : ∀ w ∈ ng_tbl, w.before ([.ref (abd 0), .int x1] : List Value).toArray s = true := fun w h => hts0 w (List.mem_cons_of_mem _ h)
  have hown : s.vm.findClass "CeilingRows$Board" = some m.cls := findClass_of_methodNamed B.named
  have hlocks := B.notSynchronized
  subst hsz
  have hD := hD0.self (sz := s.heap.size)
  generalize hAe : va_A (cw_Plan cI cZ cO apl pl ++ cw_Board cI cZ cO abd apl bd) s.heap.size = A at hD ⊢
  have hA : ∀ q : Nat, s.heap.size ≤ q → A q := fun q h => by rw [← hAe]; exact Or.inr h
  have hS : va_S A s.heap s.heap [] := va_S.rf
  have hP : va_P (dC, dI) vwCl (cw_Plan cI cZ cO apl pl ++ cw_Board cI cZ cO abd apl bd) s.heap := hP
  have hl := lv_entry ([.ref (abd 0), .int x1]) (n := 3) (Nat.le_of_ble_eq_true rfl)
  rw [lg_entry_eq]
  generalize (lg_sl ([.ref (abd 0), .int x1]) ++ List.replicate (3 - (lg_sl ([.ref (abd 0), .int x1])).length) Slot.unset).toArray = ls at hl ⊢
  have hl : lv_has ls 3 [(0, .ref (abd 0)), (1, .int x1)] := hl
  have k_0 : (0 : Int32).toInt = 0 := by decide
  have k_1 : (1 : Int32).toInt = 1 := by decide
  obtain ⟨tgt, hT⟩ : ∃ z, md_Board_allSleepOn pl bd x1 = z := ⟨_, rfl⟩
  have hM := hT
  unfold md_Board_allSleepOn at hM
  refine lv_iconst (v := 1) hx hb nd_Board_allSleepOn_0 (by decide) ?_
  refine lv_istore_n (lv' := [(2, .int (1 : Int32)), (0, .ref (abd 0)), (1, .int x1)]) hx hb nd_Board_allSleepOn_1 rfl hl (by decide) rfl (fun ls hl => ?_)
  have hl := lv_sub hl [1, 2, 0] rfl
  have lp_2 : ∀ (n_2 : Nat) (v2_2 : Int32), (1 ≤ v2_2.toInt ∧ v2_2.toInt ≤ 11) → (11 < v2_2.toInt + (n_2 : Int)) → lo_Board_allSleepOn_2 pl bd x1 n_2 v2_2 = tgt → ∀ (H : Heap) (locs : List Loc), va_P (dC, dI) vwCl (cw_Plan cI cZ cO apl pl ++ cw_Board cI cZ cO abd apl bd) H → va_D A (cw_Plan cI cZ cO apl pl ++ cw_Board cI cZ cO abd apl bd) → va_S A s.heap H locs → ∀ ls : Array Slot, lv_has ls 3 [(0, .ref (abd 0)), (1, .int x1), (2, .int v2_2)] → W p l e (headSpec nw_Board_allSleepOn ({ frames := 0, cells := 0, slots := 0, locals := 0 } : Room)).room s m ([.ref (abd 0), .int x1] : List Value).toArray below meth c H locs 0 0 (MQ below (pq_Board_allSleepOn dC dI cI cZ cO apl abd pl bd x1 A) ([.ref (abd 0), .int x1] : List Value).toArray s 0 0 A) (F0 m 2 ls []) := by
    intro n_2
    induction n_2 with
    | zero =>
      intro v2_2 hv2_2 hn_2
      exfalso; omega
    | succ n_2 ih_2 =>
      intro v2_2 hv2_2 hn_2 hM H locs hP hD hS ls hl
      have hn_2 : 11 < v2_2.toInt + ((n_2 : Int) + 1) := by omega
      rw [lo_Board_allSleepOn_2] at hM
      refine lv_iload_n hx hb nd_Board_allSleepOn_2 rfl (lv_at hl 2 rfl) ?_
      refine lv_aload_n hx hb nd_Board_allSleepOn_3 rfl (lv_at hl 0 rfl) ?_
      refine va_get (D := (dC, dI)) (ci := 1) (v := .ref (apl 0)) (C := "CeilingRows$Board") (T := nf_Board) (N := 7) hx hb hts nin_Board hown hK hP 17 rfl rfl 0 (by decide) (hts _ tw_67) (fun _ h9 => h9) rfl nd_Board_allSleepOn_4 ?_
      refine va_get (D := (dC, dI)) (ci := 0) (v := .int (pl 0 0)) (C := "CeilingRows$Plan") (T := nf_Plan) (N := 7) hx hb hts nin_Plan hown hK hP 0 rfl rfl 0 (by decide) (hts _ tw_29) (fun _ h9 => h9) rfl nd_Board_allSleepOn_7 ?_
      have f_1 := cr_rfo hR_pl.1
      refine lv_icmp_gt (tgt := 43) hx hb nd_Board_allSleepOn_10 (by decide) (fun c_2 => ?_) (fun c_2 => ?_)
      · have c_2t := cr_lt c_2
        rw [if_pos c_2] at hM
        refine lv_iconst (v := 1) hx hb nd_Board_allSleepOn_43 (by decide) ?_
        exact W.zret (v := (1 : Int32)) (ty := .boolean) hx hb hr (by decide) (fun t ht hW => ⟨⟨(1 : Int32), (), rfl, by rw [hT, ← hM], by rw [ht]; exact hP, va_K.moved hW.alike hK, hD⟩, hS.F ht⟩) hS.2.2 nd_Board_allSleepOn_44
      · have c_2t := cr_nlt c_2
        rw [if_neg c_2] at hM
        refine lv_aload_n hx hb nd_Board_allSleepOn_13 rfl (lv_at hl 0 rfl) ?_
        refine va_get (D := (dC, dI)) (ci := 1) (v := .ref (apl 0)) (C := "CeilingRows$Board") (T := nf_Board) (N := 7) hx hb hts nin_Board hown hK hP 17 rfl rfl 0 (by decide) (hts _ tw_67) (fun _ h9 => h9) rfl nd_Board_allSleepOn_14 ?_
        refine va_get (D := (dC, dI)) (ci := 0) (v := .ref (apl 2)) (C := "CeilingRows$Plan") (T := nf_Plan) (N := 7) hx hb hts nin_Plan hown hK hP 0 rfl rfl 3 (by decide) (hts _ tw_37) (fun _ h9 => h9) rfl nd_Board_allSleepOn_17 ?_
        refine lv_iload_n hx hb nd_Board_allSleepOn_20 rfl (lv_at hl 2 rfl) ?_
        have b_3 : vp_in v2_2 11 := vp_in_iff.mpr (by omega)
        refine va_iald hx hb hK hP 2 0 rfl rfl b_3 nd_Board_allSleepOn_21 ?_
        have f_4 := cr_rgo hR_pl.2.2 (v2_2.toNatClampNeg)
        refine lv_iload_n hx hb nd_Board_allSleepOn_22 rfl (lv_at hl 1 rfl) ?_
        refine lv_icmp_ne (tgt := 37) hx hb nd_Board_allSleepOn_23 (by decide) (fun c_5 => ?_) (fun c_5 => ?_)
        · have c_5t := cr_ne c_5
          rw [if_neg c_5] at hM
          have e_6 : (v2_2 + (1 : Int32)).toInt = v2_2.toInt + (1 : Int32).toInt := cr_add (by omega)
          refine lv_iinc (v := (v2_2 + (1 : Int32))) (lv' := [(2, .int (v2_2 + (1 : Int32))), (0, .ref (abd 0)), (1, .int x1)]) hx hb nd_Board_allSleepOn_37 hl (k := 2) rfl (by rfl) (by decide) rfl (fun ls hl => ?_)
          refine lv_goto (tgt := 2) hx hb nd_Board_allSleepOn_40 (by decide) ?_
          exact ih_2 (v2_2 + (1 : Int32)) (by omega) (by omega) hM _ _ hP hD hS _ (lv_sub hl [1, 2, 0] rfl)
        · have c_5t := cr_eq c_5
          rw [if_pos c_5] at hM
          refine lv_aload_n hx hb nd_Board_allSleepOn_26 rfl (lv_at hl 0 rfl) ?_
          refine va_get (D := (dC, dI)) (ci := 1) (v := .ref (abd 1)) (C := "CeilingRows$Board") (T := nf_Board) (N := 7) hx hb hts nin_Board hown hK hP 17 rfl rfl 1 (by decide) (hts _ tw_68) (fun _ h9 => h9) rfl nd_Board_allSleepOn_27 ?_
          refine lv_iload_n hx hb nd_Board_allSleepOn_30 rfl (lv_at hl 2 rfl) ?_
          have b_7 : vp_in v2_2 11 := vp_in_iff.mpr (by omega)
          refine va_iald hx hb hK hP 18 0 rfl rfl b_7 nd_Board_allSleepOn_31 ?_
          refine lv_if_eq (tgt := 37) hx hb nd_Board_allSleepOn_32 (by decide) (fun c_8 => ?_) (fun c_8 => ?_)
          · have c_8t := cr_eq c_8
            rw [if_pos c_8] at hM
            have e_9 : (v2_2 + (1 : Int32)).toInt = v2_2.toInt + (1 : Int32).toInt := cr_add (by omega)
            refine lv_iinc (v := (v2_2 + (1 : Int32))) (lv' := [(2, .int (v2_2 + (1 : Int32))), (0, .ref (abd 0)), (1, .int x1)]) hx hb nd_Board_allSleepOn_37 hl (k := 2) rfl (by rfl) (by decide) rfl (fun ls hl => ?_)
            refine lv_goto (tgt := 2) hx hb nd_Board_allSleepOn_40 (by decide) ?_
            exact ih_2 (v2_2 + (1 : Int32)) (by omega) (by omega) hM _ _ hP hD hS _ (lv_sub hl [1, 2, 0] rfl)
          · have c_8t := cr_ne c_8
            rw [if_neg c_8] at hM
            refine lv_iconst (v := 0) hx hb nd_Board_allSleepOn_35 (by decide) ?_
            exact W.zret (v := (0 : Int32)) (ty := .boolean) hx hb hr (by decide) (fun t ht hW => ⟨⟨(0 : Int32), (), rfl, by rw [hT, ← hM], by rw [ht]; exact hP, va_K.moved hW.alike hK, hD⟩, hS.F ht⟩) hS.2.2 nd_Board_allSleepOn_36
  exact lp_2 11 (1 : Int32) (by omega) (by omega) hM _ _ hP hD hS _ hl

theorem nd_Board_makeReady_0 : decode prog_2_method_4_code 0 = .ok (.aload_n 0, 1) := by decide +kernel
theorem nd_Board_makeReady_1 : decode prog_2_method_4_code 1 = .ok (.getfield 9, 3) := by decide +kernel
theorem nd_Board_makeReady_4 : decode prog_2_method_4_code 4 = .ok (.iload_n 1, 1) := by decide +kernel
theorem nd_Board_makeReady_5 : decode prog_2_method_4_code 5 = .ok (.iconst 1, 1) := by decide +kernel
theorem nd_Board_makeReady_6 : decode prog_2_method_4_code 6 = .ok (.iastore, 1) := by decide +kernel
theorem nd_Board_makeReady_7 : decode prog_2_method_4_code 7 = .ok (.aload_n 0, 1) := by decide +kernel
theorem nd_Board_makeReady_8 : decode prog_2_method_4_code 8 = .ok (.dup, 1) := by decide +kernel
theorem nd_Board_makeReady_9 : decode prog_2_method_4_code 9 = .ok (.getfield 37, 3) := by decide +kernel
theorem nd_Board_makeReady_12 : decode prog_2_method_4_code 12 = .ok (.iconst 1, 1) := by decide +kernel
theorem nd_Board_makeReady_13 : decode prog_2_method_4_code 13 = .ok (.iadd, 1) := by decide +kernel
theorem nd_Board_makeReady_14 : decode prog_2_method_4_code 14 = .ok (.putfield 37, 3) := by decide +kernel
theorem nd_Board_makeReady_17 : decode prog_2_method_4_code 17 = .ok (.aload_n 0, 1) := by decide +kernel
theorem nd_Board_makeReady_18 : decode prog_2_method_4_code 18 = .ok (.getfield 15, 3) := by decide +kernel
theorem nd_Board_makeReady_21 : decode prog_2_method_4_code 21 = .ok (.iload_n 1, 1) := by decide +kernel
theorem nd_Board_makeReady_22 : decode prog_2_method_4_code 22 = .ok (.aload_n 0, 1) := by decide +kernel
theorem nd_Board_makeReady_23 : decode prog_2_method_4_code 23 = .ok (.getfield 37, 3) := by decide +kernel
theorem nd_Board_makeReady_26 : decode prog_2_method_4_code 26 = .ok (.iastore, 1) := by decide +kernel
theorem nd_Board_makeReady_27 : decode prog_2_method_4_code 27 = .ok (.return_, 1) := by decide +kernel
def md_Board_makeReady (pl : cr_S) (bd : cr_S) (x1 : Int32) : cr_S :=
  (cr_up (cr_up (cr_up bd 1 x1.toNatClampNeg (1 : Int32)) 0 0 (((cr_up bd 1 x1.toNatClampNeg (1 : Int32)) 0 0) + (1 : Int32))) 2 x1.toNatClampNeg ((cr_up (cr_up bd 1 x1.toNatClampNeg (1 : Int32)) 0 0 (((cr_up bd 1 x1.toNatClampNeg (1 : Int32)) 0 0) + (1 : Int32))) 0 0))
abbrev pq_Board_makeReady (dC : Nat → ClassId) (dI : Nat → Nat → Nat) (cI cZ cO : ClassId) (apl abd : Nat → Nat) (pl : cr_S) (bd : cr_S) (x1 : Int32) (A : Nat → Prop) : Array Value → State → Outcome → State → Prop :=
  va_Qv (fun (bd' : cr_S) => bd' = md_Board_makeReady pl bd x1 ∧ cr_RBoard bd') (fun (bd' : cr_S) t => va_P (dC, dI) vwCl (cw_Plan cI cZ cO apl pl ++ cw_Board cI cZ cO abd apl bd') t.heap ∧ va_K (dC, dI) vwCl [(cI, .int), (cZ, .boolean), (cO, .array .int)] t ∧ va_D A (cw_Plan cI cZ cO apl pl ++ cw_Board cI cZ cO abd apl bd')) A
set_option maxHeartbeats 4000000 in
set_option maxRecDepth 100000 in
theorem ct_Board_makeReady (l : Launch) (dC : Nat → ClassId) (dI : Nat → Nat → Nat) (cI cZ cO : ClassId) (apl abd : Nat → Nat) (sz : Nat) (pl : cr_S) (bd : cr_S) (x1 : Int32) (hR_bd : cr_RBoard bd) (hR_pl : cr_RPlan pl) (hx1 : 0 ≤ x1.toInt ∧ x1.toInt ≤ 10) : Met l ny_Board_makeReady nw_Board_makeReady ({ frames := 0, cells := 0, slots := 0, locals := 0 } : Room) (va_Pc [.ref (abd 0), .int x1] (fun U => U.heap.size = sz ∧ va_P (dC, dI) vwCl (cw_Plan cI cZ cO apl pl ++ cw_Board cI cZ cO abd apl bd) U.heap ∧ va_K (dC, dI) vwCl [(cI, .int), (cZ, .boolean), (cO, .array .int)] U ∧ va_D (fun _ => True) (cw_Plan cI cZ cO apl pl ++ cw_Board cI cZ cO abd apl bd))) (pq_Board_makeReady dC dI cI cZ cO apl abd pl bd x1 (va_A (cw_Plan cI cZ cO apl pl ++ cw_Board cI cZ cO abd apl bd) sz)) 0 0 (va_A (cw_Plan cI cZ cO apl pl ++ cw_Board cI cZ cO abd apl bd) sz) := by
  refine Met.ofW (cc := prog_2_method_4_code) (maxL := 2) (ret := none) (by decide) rfl ?_
  intro p e s m args below meth c s₁ B hml hv
  obtain ⟨rfl, hsz, hP, hK, hD0⟩ := hv
  have hx := B.exec
  have hb := B.bytes
  have hr := B.returns
  have hts0 := atoms_spec (ws := nw_Board_makeReady) B.pre
  have hts : ∀ w ∈ ng_tbl, w.before ([.ref (abd 0), .int x1] : List Value).toArray s = true := fun w h => hts0 w (List.mem_cons_of_mem _ h)
  have hown : s.vm.findClass "CeilingRows$Board" = some m.cls := findClass_of_methodNamed B.named
  have hlocks := B.notSynchronized
  subst hsz
  have hD := hD0.self (sz := s.heap.size)
  generalize hAe : va_A (cw_Plan cI cZ cO apl pl ++ cw_Board cI cZ cO abd apl bd) s.heap.size = A at hD ⊢
  have hA : ∀ q : Nat, s.heap.size ≤ q → A q := fun q h => by rw [← hAe]; exact Or.inr h
  have hS : va_S A s.heap s.heap [] := va_S.rf
  have hP : va_P (dC, dI) vwCl (cw_Plan cI cZ cO apl pl ++ cw_Board cI cZ cO abd apl bd) s.heap := hP
  have hl := lv_entry ([.ref (abd 0), .int x1]) (n := 2) (Nat.le_of_ble_eq_true rfl)
  rw [lg_entry_eq]
  generalize (lg_sl ([.ref (abd 0), .int x1]) ++ List.replicate (2 - (lg_sl ([.ref (abd 0), .int x1])).length) Slot.unset).toArray = ls at hl ⊢
  have hl : lv_has ls 2 [(0, .ref (abd 0)), (1, .int x1)] := hl
  have k_1 : (1 : Int32).toInt = 1 := by decide
  obtain ⟨tgt, hT⟩ : ∃ z, md_Board_makeReady pl bd x1 = z := ⟨_, rfl⟩
  have hM := hT
  unfold md_Board_makeReady at hM
  refine lv_aload_n hx hb nd_Board_makeReady_0 rfl (lv_at hl 0 rfl) ?_
  refine va_get (D := (dC, dI)) (ci := 1) (v := .ref (abd 1)) (C := "CeilingRows$Board") (T := nf_Board) (N := 7) hx hb hts nin_Board hown hK hP 17 rfl rfl 1 (by decide) (hts _ tw_68) (fun _ h9 => h9) rfl nd_Board_makeReady_1 ?_
  refine lv_iload_n hx hb nd_Board_makeReady_4 rfl (lv_at hl 1 rfl) ?_
  refine lv_iconst (v := 1) hx hb nd_Board_makeReady_5 (by decide) ?_
  have b_1 : vp_in x1 11 := vp_in_iff.mpr (by omega)
  refine va_iast hx hb hK hP hD hS 18 0 rfl rfl b_1 nd_Board_makeReady_6 (fun H locs hP hD hS => ?_)
  have hP : va_P (dC, dI) vwCl (cw_Plan cI cZ cO apl pl ++ cw_Board cI cZ cO abd apl (cr_up bd 1 x1.toNatClampNeg (1 : Int32))) H := hP
  have hD : va_D A (cw_Plan cI cZ cO apl pl ++ cw_Board cI cZ cO abd apl (cr_up bd 1 x1.toNatClampNeg (1 : Int32))) := hD
  have hR_2 : cr_RBoard (cr_up bd 1 x1.toNatClampNeg (1 : Int32)) := ⟨cr_rg_up hR_bd.1 (fun e => absurd e (by decide)), cr_rg_up hR_bd.2 (fun e => absurd e (by decide))⟩
  obtain ⟨bdq_3, hbdq_3⟩ : ∃ z, (cr_up bd 1 x1.toNatClampNeg (1 : Int32)) = z := ⟨_, rfl⟩
  rw [hbdq_3] at hP hD hR_2
  try rw [hbdq_3] at hM
  refine lv_aload_n hx hb nd_Board_makeReady_7 rfl (lv_at hl 0 rfl) ?_
  refine lv_dup hx hb nd_Board_makeReady_8 rfl ?_
  refine va_get (D := (dC, dI)) (ci := 1) (v := .int (bdq_3 0 0)) (C := "CeilingRows$Board") (T := nf_Board) (N := 7) hx hb hts nin_Board hown hK hP 17 rfl rfl 3 (by decide) (hts _ tw_72) (fun _ h9 => h9) rfl nd_Board_makeReady_9 ?_
  refine lv_iconst (v := 1) hx hb nd_Board_makeReady_12 (by decide) ?_
  refine lv_iadd hx hb nd_Board_makeReady_13 ?_
  refine va_put (D := (dC, dI)) (ci := 1) (v := .int ((bdq_3 0 0) + (1 : Int32))) (ty := .int) (C := "CeilingRows$Board") (T := nf_Board) (N := 7) hx hb hts nin_Board nt_Board nto_Board nno_Board hown hK hP hD hS 17 rfl rfl 3 (by decide) (hts _ tw_72) (fun _ h9 => h9) rfl (by decide +kernel) rfl rfl (Nat.le_of_ble_eq_true rfl) nd_Board_makeReady_14 (fun H locs hP hD hS => ?_)
  have hP : va_P (dC, dI) vwCl (cw_Plan cI cZ cO apl pl ++ cw_Board cI cZ cO abd apl (cr_up bdq_3 0 0 ((bdq_3 0 0) + (1 : Int32)))) H := hP
  have hD : va_D A (cw_Plan cI cZ cO apl pl ++ cw_Board cI cZ cO abd apl (cr_up bdq_3 0 0 ((bdq_3 0 0) + (1 : Int32)))) := hD
  have hR_4 : cr_RBoard (cr_up bdq_3 0 0 ((bdq_3 0 0) + (1 : Int32))) := ⟨cr_rg_up hR_2.1 (fun e => absurd e (by decide)), cr_rg_up hR_2.2 (fun e => absurd e (by decide))⟩
  obtain ⟨bdq_5, hbdq_5⟩ : ∃ z, (cr_up bdq_3 0 0 ((bdq_3 0 0) + (1 : Int32))) = z := ⟨_, rfl⟩
  rw [hbdq_5] at hP hD hR_4
  try rw [hbdq_5] at hM
  refine lv_aload_n hx hb nd_Board_makeReady_17 rfl (lv_at hl 0 rfl) ?_
  refine va_get (D := (dC, dI)) (ci := 1) (v := .ref (abd 2)) (C := "CeilingRows$Board") (T := nf_Board) (N := 7) hx hb hts nin_Board hown hK hP 17 rfl rfl 2 (by decide) (hts _ tw_71) (fun _ h9 => h9) rfl nd_Board_makeReady_18 ?_
  refine lv_iload_n hx hb nd_Board_makeReady_21 rfl (lv_at hl 1 rfl) ?_
  refine lv_aload_n hx hb nd_Board_makeReady_22 rfl (lv_at hl 0 rfl) ?_
  refine va_get (D := (dC, dI)) (ci := 1) (v := .int (bdq_5 0 0)) (C := "CeilingRows$Board") (T := nf_Board) (N := 7) hx hb hts nin_Board hown hK hP 17 rfl rfl 3 (by decide) (hts _ tw_72) (fun _ h9 => h9) rfl nd_Board_makeReady_23 ?_
  have b_6 : vp_in x1 11 := vp_in_iff.mpr (by omega)
  refine va_iast hx hb hK hP hD hS 19 0 rfl rfl b_6 nd_Board_makeReady_26 (fun H locs hP hD hS => ?_)
  have hP : va_P (dC, dI) vwCl (cw_Plan cI cZ cO apl pl ++ cw_Board cI cZ cO abd apl (cr_up bdq_5 2 x1.toNatClampNeg (bdq_5 0 0))) H := hP
  have hD : va_D A (cw_Plan cI cZ cO apl pl ++ cw_Board cI cZ cO abd apl (cr_up bdq_5 2 x1.toNatClampNeg (bdq_5 0 0))) := hD
  have hR_7 : cr_RBoard (cr_up bdq_5 2 x1.toNatClampNeg (bdq_5 0 0)) := ⟨cr_rg_up hR_4.1 (fun e => absurd e (by decide)), cr_rg_up hR_4.2 (fun e => absurd e (by decide))⟩
  obtain ⟨bdq_8, hbdq_8⟩ : ∃ z, (cr_up bdq_5 2 x1.toNatClampNeg (bdq_5 0 0)) = z := ⟨_, rfl⟩
  rw [hbdq_8] at hP hD hR_7
  try rw [hbdq_8] at hM
  exact W.vret hx hb hr (fun t ht hW => ⟨⟨bdq_8, rfl, ⟨by rw [hT, ← hM], hR_7⟩, by rw [ht]; exact hP, va_K.moved hW.alike hK, hD⟩, hS.F ht⟩) hS.2.2 nd_Board_makeReady_27

theorem nd_Board_holdsAny_0 : decode prog_2_method_5_code 0 = .ok (.aload_n 0, 1) := by decide +kernel
theorem nd_Board_holdsAny_1 : decode prog_2_method_5_code 1 = .ok (.getfield 18, 3) := by decide +kernel
theorem nd_Board_holdsAny_4 : decode prog_2_method_5_code 4 = .ok (.iload_n 1, 1) := by decide +kernel
theorem nd_Board_holdsAny_5 : decode prog_2_method_5_code 5 = .ok (.iaload, 1) := by decide +kernel
theorem nd_Board_holdsAny_6 : decode prog_2_method_5_code 6 = .ok (.ifCond .eq (7), 3) := by decide +kernel
theorem nd_Board_holdsAny_9 : decode prog_2_method_5_code 9 = .ok (.iconst 1, 1) := by decide +kernel
theorem nd_Board_holdsAny_10 : decode prog_2_method_5_code 10 = .ok (.goto (4), 3) := by decide +kernel
theorem nd_Board_holdsAny_13 : decode prog_2_method_5_code 13 = .ok (.iconst 0, 1) := by decide +kernel
theorem nd_Board_holdsAny_14 : decode prog_2_method_5_code 14 = .ok (.ireturn, 1) := by decide +kernel
def md_Board_holdsAny (pl : cr_S) (bd : cr_S) (x1 : Int32) : Int32 :=
  (if (bd 3 x1.toNatClampNeg) = 0 then (0 : Int32) else (1 : Int32))
abbrev pq_Board_holdsAny (dC : Nat → ClassId) (dI : Nat → Nat → Nat) (cI cZ cO : ClassId) (apl abd : Nat → Nat) (pl : cr_S) (bd : cr_S) (x1 : Int32) (A : Nat → Prop) : Array Value → State → Outcome → State → Prop :=
  va_Qi (fun (r : Int32) (_ : Unit) => r = md_Board_holdsAny pl bd x1) (fun (_ : Unit) t => va_P (dC, dI) vwCl (cw_Plan cI cZ cO apl pl ++ cw_Board cI cZ cO abd apl bd) t.heap ∧ va_K (dC, dI) vwCl [(cI, .int), (cZ, .boolean), (cO, .array .int)] t ∧ va_D A (cw_Plan cI cZ cO apl pl ++ cw_Board cI cZ cO abd apl bd)) A
set_option maxHeartbeats 4000000 in
set_option maxRecDepth 100000 in
theorem ct_Board_holdsAny (l : Launch) (dC : Nat → ClassId) (dI : Nat → Nat → Nat) (cI cZ cO : ClassId) (apl abd : Nat → Nat) (sz : Nat) (pl : cr_S) (bd : cr_S) (x1 : Int32) (hR_bd : cr_RBoard bd) (hR_pl : cr_RPlan pl) (hx1 : 0 ≤ x1.toInt ∧ x1.toInt ≤ 10) : Met l ny_Board_holdsAny nw_Board_holdsAny ({ frames := 0, cells := 0, slots := 0, locals := 0 } : Room) (va_Pc [.ref (abd 0), .int x1] (fun U => U.heap.size = sz ∧ va_P (dC, dI) vwCl (cw_Plan cI cZ cO apl pl ++ cw_Board cI cZ cO abd apl bd) U.heap ∧ va_K (dC, dI) vwCl [(cI, .int), (cZ, .boolean), (cO, .array .int)] U ∧ va_D (fun _ => True) (cw_Plan cI cZ cO apl pl ++ cw_Board cI cZ cO abd apl bd))) (pq_Board_holdsAny dC dI cI cZ cO apl abd pl bd x1 (va_A (cw_Plan cI cZ cO apl pl ++ cw_Board cI cZ cO abd apl bd) sz)) 0 0 (va_A (cw_Plan cI cZ cO apl pl ++ cw_Board cI cZ cO abd apl bd) sz) := by
  refine Met.ofW (cc := prog_2_method_5_code) (maxL := 2) (ret := (some .boolean)) (by decide) rfl ?_
  intro p e s m args below meth c s₁ B hml hv
  obtain ⟨rfl, hsz, hP, hK, hD0⟩ := hv
  have hx := B.exec
  have hb := B.bytes
  have hr := B.returns
  have hts0 := atoms_spec (ws := nw_Board_holdsAny) B.pre
  have hts : ∀ w ∈ ng_tbl, w.before ([.ref (abd 0), .int x1] : List Value).toArray s = true := fun w h => hts0 w (List.mem_cons_of_mem _ h)
  have hown : s.vm.findClass "CeilingRows$Board" = some m.cls := findClass_of_methodNamed B.named
  have hlocks := B.notSynchronized
  subst hsz
  have hD := hD0.self (sz := s.heap.size)
  generalize hAe : va_A (cw_Plan cI cZ cO apl pl ++ cw_Board cI cZ cO abd apl bd) s.heap.size = A at hD ⊢
  have hA : ∀ q : Nat, s.heap.size ≤ q → A q := fun q h => by rw [← hAe]; exact Or.inr h
  have hS : va_S A s.heap s.heap [] := va_S.rf
  have hP : va_P (dC, dI) vwCl (cw_Plan cI cZ cO apl pl ++ cw_Board cI cZ cO abd apl bd) s.heap := hP
  have hl := lv_entry ([.ref (abd 0), .int x1]) (n := 2) (Nat.le_of_ble_eq_true rfl)
  rw [lg_entry_eq]
  generalize (lg_sl ([.ref (abd 0), .int x1]) ++ List.replicate (2 - (lg_sl ([.ref (abd 0), .int x1])).length) Slot.unset).toArray = ls at hl ⊢
  have hl : lv_has ls 2 [(0, .ref (abd 0)), (1, .int x1)] := hl
  have k_0 : (0 : Int32).toInt = 0 := by decide
  have k_1 : (1 : Int32).toInt = 1 := by decide
  obtain ⟨tgt, hT⟩ : ∃ z, md_Board_holdsAny pl bd x1 = z := ⟨_, rfl⟩
  have hM := hT
  unfold md_Board_holdsAny at hM
  refine lv_aload_n hx hb nd_Board_holdsAny_0 rfl (lv_at hl 0 rfl) ?_
  refine va_get (D := (dC, dI)) (ci := 1) (v := .ref (abd 3)) (C := "CeilingRows$Board") (T := nf_Board) (N := 7) hx hb hts nin_Board hown hK hP 17 rfl rfl 4 (by decide) (hts _ tw_73) (fun _ h9 => h9) rfl nd_Board_holdsAny_1 ?_
  refine lv_iload_n hx hb nd_Board_holdsAny_4 rfl (lv_at hl 1 rfl) ?_
  have b_1 : vp_in x1 11 := vp_in_iff.mpr (by omega)
  refine va_iald hx hb hK hP 20 0 rfl rfl b_1 nd_Board_holdsAny_5 ?_
  have f_2 := cr_rgo hR_bd.1 (x1.toNatClampNeg)
  refine lv_if_eq (tgt := 13) hx hb nd_Board_holdsAny_6 (by decide) (fun c_3 => ?_) (fun c_3 => ?_)
  · have c_3t := cr_eq c_3
    rw [if_pos c_3] at hM
    refine lv_iconst (v := 0) hx hb nd_Board_holdsAny_13 (by decide) ?_
    exact W.zret (v := (0 : Int32)) (ty := .boolean) hx hb hr (by decide) (fun t ht hW => ⟨⟨(0 : Int32), (), rfl, by rw [hT, ← hM], by rw [ht]; exact hP, va_K.moved hW.alike hK, hD⟩, hS.F ht⟩) hS.2.2 nd_Board_holdsAny_14
  · have c_3t := cr_ne c_3
    rw [if_neg c_3] at hM
    refine lv_iconst (v := 1) hx hb nd_Board_holdsAny_9 (by decide) ?_
    refine lv_goto (tgt := 14) hx hb nd_Board_holdsAny_10 (by decide) ?_
    exact W.zret (v := (1 : Int32)) (ty := .boolean) hx hb hr (by decide) (fun t ht hW => ⟨⟨(1 : Int32), (), rfl, by rw [hT, ← hM], by rw [ht]; exact hP, va_K.moved hW.alike hK, hD⟩, hS.F ht⟩) hS.2.2 nd_Board_holdsAny_14

theorem nd_Board_rankNow_0 : decode prog_2_method_6_code 0 = .ok (.aload_n 0, 1) := by decide +kernel
theorem nd_Board_rankNow_1 : decode prog_2_method_6_code 1 = .ok (.getfield 27, 3) := by decide +kernel
theorem nd_Board_rankNow_4 : decode prog_2_method_6_code 4 = .ok (.getfield 49, 3) := by decide +kernel
theorem nd_Board_rankNow_7 : decode prog_2_method_6_code 7 = .ok (.iload_n 1, 1) := by decide +kernel
theorem nd_Board_rankNow_8 : decode prog_2_method_6_code 8 = .ok (.iaload, 1) := by decide +kernel
theorem nd_Board_rankNow_9 : decode prog_2_method_6_code 9 = .ok (.istore_n 2, 1) := by decide +kernel
theorem nd_Board_rankNow_10 : decode prog_2_method_6_code 10 = .ok (.iconst 1, 1) := by decide +kernel
theorem nd_Board_rankNow_11 : decode prog_2_method_6_code 11 = .ok (.istore_n 3, 1) := by decide +kernel
theorem nd_Board_rankNow_12 : decode prog_2_method_6_code 12 = .ok (.iload_n 3, 1) := by decide +kernel
theorem nd_Board_rankNow_13 : decode prog_2_method_6_code 13 = .ok (.aload_n 0, 1) := by decide +kernel
theorem nd_Board_rankNow_14 : decode prog_2_method_6_code 14 = .ok (.getfield 27, 3) := by decide +kernel
theorem nd_Board_rankNow_17 : decode prog_2_method_6_code 17 = .ok (.getfield 52, 3) := by decide +kernel
theorem nd_Board_rankNow_20 : decode prog_2_method_6_code 20 = .ok (.if_icmp .gt (33), 3) := by decide +kernel
theorem nd_Board_rankNow_23 : decode prog_2_method_6_code 23 = .ok (.aload_n 0, 1) := by decide +kernel
theorem nd_Board_rankNow_24 : decode prog_2_method_6_code 24 = .ok (.getfield 21, 3) := by decide +kernel
theorem nd_Board_rankNow_27 : decode prog_2_method_6_code 27 = .ok (.iload_n 3, 1) := by decide +kernel
theorem nd_Board_rankNow_28 : decode prog_2_method_6_code 28 = .ok (.iaload, 1) := by decide +kernel
theorem nd_Board_rankNow_29 : decode prog_2_method_6_code 29 = .ok (.iload_n 1, 1) := by decide +kernel
theorem nd_Board_rankNow_30 : decode prog_2_method_6_code 30 = .ok (.if_icmp .ne (17), 3) := by decide +kernel
theorem nd_Board_rankNow_33 : decode prog_2_method_6_code 33 = .ok (.iload_n 2, 1) := by decide +kernel
theorem nd_Board_rankNow_34 : decode prog_2_method_6_code 34 = .ok (.aload_n 0, 1) := by decide +kernel
theorem nd_Board_rankNow_35 : decode prog_2_method_6_code 35 = .ok (.getfield 27, 3) := by decide +kernel
theorem nd_Board_rankNow_38 : decode prog_2_method_6_code 38 = .ok (.getfield 55, 3) := by decide +kernel
theorem nd_Board_rankNow_41 : decode prog_2_method_6_code 41 = .ok (.iload_n 3, 1) := by decide +kernel
theorem nd_Board_rankNow_42 : decode prog_2_method_6_code 42 = .ok (.iaload, 1) := by decide +kernel
theorem nd_Board_rankNow_43 : decode prog_2_method_6_code 43 = .ok (.invokestatic 58, 3) := by decide +kernel
theorem nd_Board_rankNow_46 : decode prog_2_method_6_code 46 = .ok (.istore_n 2, 1) := by decide +kernel
theorem nd_Board_rankNow_47 : decode prog_2_method_6_code 47 = .ok (.iinc 3 1, 3) := by decide +kernel
theorem nd_Board_rankNow_50 : decode prog_2_method_6_code 50 = .ok (.goto (-38), 3) := by decide +kernel
theorem nd_Board_rankNow_53 : decode prog_2_method_6_code 53 = .ok (.iload_n 2, 1) := by decide +kernel
theorem nd_Board_rankNow_54 : decode prog_2_method_6_code 54 = .ok (.ireturn, 1) := by decide +kernel
def lo_Board_rankNow_12 (pl : cr_S) (bd : cr_S) (x1 : Int32) : Nat → Int32 → Int32 → Int32
  | 0, _, _ => 0
  | n_12 + 1, v2_12, v3_12 =>
    (if (pl 0 1) < v3_12 then v2_12 else (if (bd 4 v3_12.toNatClampNeg) = x1 then (lo_Board_rankNow_12 pl bd x1 n_12 (cr_max v2_12 (pl 3 v3_12.toNatClampNeg)) (v3_12 + (1 : Int32))) else (lo_Board_rankNow_12 pl bd x1 n_12 v2_12 (v3_12 + (1 : Int32)))))
def md_Board_rankNow (pl : cr_S) (bd : cr_S) (x1 : Int32) : Int32 :=
  (lo_Board_rankNow_12 pl bd x1 9 (pl 1 x1.toNatClampNeg) (1 : Int32))
abbrev pq_Board_rankNow (dC : Nat → ClassId) (dI : Nat → Nat → Nat) (cI cZ cO : ClassId) (apl abd : Nat → Nat) (pl : cr_S) (bd : cr_S) (x1 : Int32) (A : Nat → Prop) : Array Value → State → Outcome → State → Prop :=
  va_Qi (fun (r : Int32) (_ : Unit) => r = md_Board_rankNow pl bd x1) (fun (_ : Unit) t => va_P (dC, dI) vwCl (cw_Plan cI cZ cO apl pl ++ cw_Board cI cZ cO abd apl bd) t.heap ∧ va_K (dC, dI) vwCl [(cI, .int), (cZ, .boolean), (cO, .array .int)] t ∧ va_D A (cw_Plan cI cZ cO apl pl ++ cw_Board cI cZ cO abd apl bd)) A
set_option maxHeartbeats 4000000 in
set_option maxRecDepth 100000 in
theorem ct_Board_rankNow (l : Launch) (dC : Nat → ClassId) (dI : Nat → Nat → Nat) (cI cZ cO : ClassId) (apl abd : Nat → Nat) (sz : Nat) (pl : cr_S) (bd : cr_S) (x1 : Int32) (hR_bd : cr_RBoard bd) (hR_pl : cr_RPlan pl) (hx1 : 0 ≤ x1.toInt ∧ x1.toInt ≤ 10) : Met l ny_Board_rankNow nw_Board_rankNow ({ frames := 1, cells := 0, slots := 0, locals := 21 } : Room) (va_Pc [.ref (abd 0), .int x1] (fun U => U.heap.size = sz ∧ va_P (dC, dI) vwCl (cw_Plan cI cZ cO apl pl ++ cw_Board cI cZ cO abd apl bd) U.heap ∧ va_K (dC, dI) vwCl [(cI, .int), (cZ, .boolean), (cO, .array .int)] U ∧ va_D (fun _ => True) (cw_Plan cI cZ cO apl pl ++ cw_Board cI cZ cO abd apl bd))) (pq_Board_rankNow dC dI cI cZ cO apl abd pl bd x1 (va_A (cw_Plan cI cZ cO apl pl ++ cw_Board cI cZ cO abd apl bd) sz)) 0 0 (va_A (cw_Plan cI cZ cO apl pl ++ cw_Board cI cZ cO abd apl bd) sz) := by
  refine Met.ofW (cc := prog_2_method_6_code) (maxL := 4) (ret := (some .int)) (by decide) rfl ?_
  intro p e s m args below meth c s₁ B hml hv
  obtain ⟨rfl, hsz, hP, hK, hD0⟩ := hv
  have hx := B.exec
  have hb := B.bytes
  have hr := B.returns
  have hts0 := atoms_spec (ws := nw_Board_rankNow) B.pre
  have hts : ∀ w ∈ ng_tbl, w.before ([.ref (abd 0), .int x1] : List Value).toArray s = true := fun w h => hts0 w (List.mem_cons_of_mem _ h)
  have hown : s.vm.findClass "CeilingRows$Board" = some m.cls := findClass_of_methodNamed B.named
  have hlocks := B.notSynchronized
  subst hsz
  have hD := hD0.self (sz := s.heap.size)
  generalize hAe : va_A (cw_Plan cI cZ cO apl pl ++ cw_Board cI cZ cO abd apl bd) s.heap.size = A at hD ⊢
  have hA : ∀ q : Nat, s.heap.size ≤ q → A q := fun q h => by rw [← hAe]; exact Or.inr h
  have hS : va_S A s.heap s.heap [] := va_S.rf
  have hP : va_P (dC, dI) vwCl (cw_Plan cI cZ cO apl pl ++ cw_Board cI cZ cO abd apl bd) s.heap := hP
  have hl := lv_entry ([.ref (abd 0), .int x1]) (n := 4) (Nat.le_of_ble_eq_true rfl)
  rw [lg_entry_eq]
  generalize (lg_sl ([.ref (abd 0), .int x1]) ++ List.replicate (4 - (lg_sl ([.ref (abd 0), .int x1])).length) Slot.unset).toArray = ls at hl ⊢
  have hl : lv_has ls 4 [(0, .ref (abd 0)), (1, .int x1)] := hl
  have k_1 : (1 : Int32).toInt = 1 := by decide
  obtain ⟨tgt, hT⟩ : ∃ z, md_Board_rankNow pl bd x1 = z := ⟨_, rfl⟩
  have hM := hT
  unfold md_Board_rankNow at hM
  refine lv_aload_n hx hb nd_Board_rankNow_0 rfl (lv_at hl 0 rfl) ?_
  refine va_get (D := (dC, dI)) (ci := 1) (v := .ref (apl 0)) (C := "CeilingRows$Board") (T := nf_Board) (N := 7) hx hb hts nin_Board hown hK hP 17 rfl rfl 0 (by decide) (hts _ tw_67) (fun _ h9 => h9) rfl nd_Board_rankNow_1 ?_
  refine va_get (D := (dC, dI)) (ci := 0) (v := .ref (apl 1)) (C := "CeilingRows$Plan") (T := nf_Plan) (N := 7) hx hb hts nin_Plan hown hK hP 0 rfl rfl 2 (by decide) (hts _ tw_35) (fun _ h9 => h9) rfl nd_Board_rankNow_4 ?_
  refine lv_iload_n hx hb nd_Board_rankNow_7 rfl (lv_at hl 1 rfl) ?_
  have b_1 : vp_in x1 11 := vp_in_iff.mpr (by omega)
  refine va_iald hx hb hK hP 1 0 rfl rfl b_1 nd_Board_rankNow_8 ?_
  refine lv_istore_n (lv' := [(2, .int (pl 1 x1.toNatClampNeg)), (0, .ref (abd 0)), (1, .int x1)]) hx hb nd_Board_rankNow_9 rfl hl (by decide) rfl (fun ls hl => ?_)
  refine lv_iconst (v := 1) hx hb nd_Board_rankNow_10 (by decide) ?_
  refine lv_istore_n (lv' := [(3, .int (1 : Int32)), (2, .int (pl 1 x1.toNatClampNeg)), (0, .ref (abd 0)), (1, .int x1)]) hx hb nd_Board_rankNow_11 rfl hl (by decide) rfl (fun ls hl => ?_)
  have hl := lv_sub hl [2, 3, 1, 0] rfl
  have lp_12 : ∀ (n_12 : Nat) (v2_12 : Int32) (v3_12 : Int32), (1 ≤ v3_12.toInt ∧ v3_12.toInt ≤ 9) → (9 < v3_12.toInt + (n_12 : Int)) → lo_Board_rankNow_12 pl bd x1 n_12 v2_12 v3_12 = tgt → ∀ (H : Heap) (locs : List Loc), va_P (dC, dI) vwCl (cw_Plan cI cZ cO apl pl ++ cw_Board cI cZ cO abd apl bd) H → va_D A (cw_Plan cI cZ cO apl pl ++ cw_Board cI cZ cO abd apl bd) → va_S A s.heap H locs → ∀ ls : Array Slot, lv_has ls 4 [(0, .ref (abd 0)), (1, .int x1), (2, .int v2_12), (3, .int v3_12)] → W p l e (headSpec nw_Board_rankNow ({ frames := 1, cells := 0, slots := 0, locals := 21 } : Room)).room s m ([.ref (abd 0), .int x1] : List Value).toArray below meth c H locs 0 0 (MQ below (pq_Board_rankNow dC dI cI cZ cO apl abd pl bd x1 A) ([.ref (abd 0), .int x1] : List Value).toArray s 0 0 A) (F0 m 12 ls []) := by
    intro n_12
    induction n_12 with
    | zero =>
      intro v2_12 v3_12 hv3_12 hn_12
      exfalso; omega
    | succ n_12 ih_12 =>
      intro v2_12 v3_12 hv3_12 hn_12 hM H locs hP hD hS ls hl
      have hn_12 : 9 < v3_12.toInt + ((n_12 : Int) + 1) := by omega
      rw [lo_Board_rankNow_12] at hM
      refine lv_iload_n hx hb nd_Board_rankNow_12 rfl (lv_at hl 3 rfl) ?_
      refine lv_aload_n hx hb nd_Board_rankNow_13 rfl (lv_at hl 0 rfl) ?_
      refine va_get (D := (dC, dI)) (ci := 1) (v := .ref (apl 0)) (C := "CeilingRows$Board") (T := nf_Board) (N := 7) hx hb hts nin_Board hown hK hP 17 rfl rfl 0 (by decide) (hts _ tw_67) (fun _ h9 => h9) rfl nd_Board_rankNow_14 ?_
      refine va_get (D := (dC, dI)) (ci := 0) (v := .int (pl 0 1)) (C := "CeilingRows$Plan") (T := nf_Plan) (N := 7) hx hb hts nin_Plan hown hK hP 0 rfl rfl 1 (by decide) (hts _ tw_32) (fun _ h9 => h9) rfl nd_Board_rankNow_17 ?_
      have f_2 := cr_rfo hR_pl.2.1
      refine lv_icmp_gt (tgt := 53) hx hb nd_Board_rankNow_20 (by decide) (fun c_3 => ?_) (fun c_3 => ?_)
      · have c_3t := cr_lt c_3
        rw [if_pos c_3] at hM
        refine lv_iload_n hx hb nd_Board_rankNow_53 rfl (lv_at hl 2 rfl) ?_
        exact W.iret (v := v2_12) hx hb hr (fun t ht hW => ⟨⟨v2_12, (), rfl, by rw [hT, ← hM], by rw [ht]; exact hP, va_K.moved hW.alike hK, hD⟩, hS.F ht⟩) hS.2.2 nd_Board_rankNow_54
      · have c_3t := cr_nlt c_3
        rw [if_neg c_3] at hM
        refine lv_aload_n hx hb nd_Board_rankNow_23 rfl (lv_at hl 0 rfl) ?_
        refine va_get (D := (dC, dI)) (ci := 1) (v := .ref (abd 4)) (C := "CeilingRows$Board") (T := nf_Board) (N := 7) hx hb hts nin_Board hown hK hP 17 rfl rfl 5 (by decide) (hts _ tw_75) (fun _ h9 => h9) rfl nd_Board_rankNow_24 ?_
        refine lv_iload_n hx hb nd_Board_rankNow_27 rfl (lv_at hl 3 rfl) ?_
        have b_4 : vp_in v3_12 9 := vp_in_iff.mpr (by omega)
        refine va_iald hx hb hK hP 21 0 rfl rfl b_4 nd_Board_rankNow_28 ?_
        refine lv_iload_n hx hb nd_Board_rankNow_29 rfl (lv_at hl 1 rfl) ?_
        refine lv_icmp_ne (tgt := 47) hx hb nd_Board_rankNow_30 (by decide) (fun c_5 => ?_) (fun c_5 => ?_)
        · have c_5t := cr_ne c_5
          rw [if_neg c_5] at hM
          have e_6 : (v3_12 + (1 : Int32)).toInt = v3_12.toInt + (1 : Int32).toInt := cr_add (by omega)
          refine lv_iinc (v := (v3_12 + (1 : Int32))) (lv' := [(3, .int (v3_12 + (1 : Int32))), (0, .ref (abd 0)), (1, .int x1), (2, .int v2_12)]) hx hb nd_Board_rankNow_47 hl (k := 3) rfl (by rfl) (by decide) rfl (fun ls hl => ?_)
          refine lv_goto (tgt := 12) hx hb nd_Board_rankNow_50 (by decide) ?_
          exact ih_12 v2_12 (v3_12 + (1 : Int32)) (by omega) (by omega) hM _ _ hP hD hS _ (lv_sub hl [1, 2, 3, 0] rfl)
        · have c_5t := cr_eq c_5
          rw [if_pos c_5] at hM
          refine lv_iload_n hx hb nd_Board_rankNow_33 rfl (lv_at hl 2 rfl) ?_
          refine lv_aload_n hx hb nd_Board_rankNow_34 rfl (lv_at hl 0 rfl) ?_
          refine va_get (D := (dC, dI)) (ci := 1) (v := .ref (apl 0)) (C := "CeilingRows$Board") (T := nf_Board) (N := 7) hx hb hts nin_Board hown hK hP 17 rfl rfl 0 (by decide) (hts _ tw_67) (fun _ h9 => h9) rfl nd_Board_rankNow_35 ?_
          refine va_get (D := (dC, dI)) (ci := 0) (v := .ref (apl 3)) (C := "CeilingRows$Plan") (T := nf_Plan) (N := 7) hx hb hts nin_Plan hown hK hP 0 rfl rfl 4 (by decide) (hts _ tw_41) (fun _ h9 => h9) rfl nd_Board_rankNow_38 ?_
          refine lv_iload_n hx hb nd_Board_rankNow_41 rfl (lv_at hl 3 rfl) ?_
          have b_7 : vp_in v3_12 9 := vp_in_iff.mpr (by omega)
          refine va_iald hx hb hK hP 3 0 rfl rfl b_7 nd_Board_rankNow_42 ?_
          refine va_mmax hx hb (by rw [hml]; exact hl.1.symm) hown (hts _ tw_246) (hts _ tw_207) (hts _ tw_7) (hts _ tw_208) (Nat.le_of_ble_eq_true rfl) (Nat.le_of_ble_eq_true rfl) (Nat.zero_le _) (Nat.zero_le _) nd_Board_rankNow_43 ?_
          refine lv_istore_n (lv' := [(2, .int (cr_max v2_12 (pl 3 v3_12.toNatClampNeg))), (0, .ref (abd 0)), (1, .int x1), (3, .int v3_12)]) hx hb nd_Board_rankNow_46 rfl hl (by decide) rfl (fun ls hl => ?_)
          have e_8 : (v3_12 + (1 : Int32)).toInt = v3_12.toInt + (1 : Int32).toInt := cr_add (by omega)
          refine lv_iinc (v := (v3_12 + (1 : Int32))) (lv' := [(3, .int (v3_12 + (1 : Int32))), (2, .int (cr_max v2_12 (pl 3 v3_12.toNatClampNeg))), (0, .ref (abd 0)), (1, .int x1)]) hx hb nd_Board_rankNow_47 hl (k := 3) rfl (by rfl) (by decide) rfl (fun ls hl => ?_)
          refine lv_goto (tgt := 12) hx hb nd_Board_rankNow_50 (by decide) ?_
          exact ih_12 (cr_max v2_12 (pl 3 v3_12.toNatClampNeg)) (v3_12 + (1 : Int32)) (by omega) (by omega) hM _ _ hP hD hS _ (lv_sub hl [2, 3, 1, 0] rfl)
  exact lp_12 9 (pl 1 x1.toNatClampNeg) (1 : Int32) (by omega) (by omega) hM _ _ hP hD hS _ hl

theorem nd_Board_firstOn_0 : decode prog_2_method_7_code 0 = .ok (.iconst 0, 1) := by decide +kernel
theorem nd_Board_firstOn_1 : decode prog_2_method_7_code 1 = .ok (.istore_n 2, 1) := by decide +kernel
theorem nd_Board_firstOn_2 : decode prog_2_method_7_code 2 = .ok (.iconst 0, 1) := by decide +kernel
theorem nd_Board_firstOn_3 : decode prog_2_method_7_code 3 = .ok (.istore_n 3, 1) := by decide +kernel
theorem nd_Board_firstOn_4 : decode prog_2_method_7_code 4 = .ok (.iconst 1, 1) := by decide +kernel
theorem nd_Board_firstOn_5 : decode prog_2_method_7_code 5 = .ok (.istore 4, 2) := by decide +kernel
theorem nd_Board_firstOn_7 : decode prog_2_method_7_code 7 = .ok (.iload 4, 2) := by decide +kernel
theorem nd_Board_firstOn_9 : decode prog_2_method_7_code 9 = .ok (.aload_n 0, 1) := by decide +kernel
theorem nd_Board_firstOn_10 : decode prog_2_method_7_code 10 = .ok (.getfield 27, 3) := by decide +kernel
theorem nd_Board_firstOn_13 : decode prog_2_method_7_code 13 = .ok (.getfield 41, 3) := by decide +kernel
theorem nd_Board_firstOn_16 : decode prog_2_method_7_code 16 = .ok (.if_icmp .gt (91), 3) := by decide +kernel
theorem nd_Board_firstOn_19 : decode prog_2_method_7_code 19 = .ok (.aload_n 0, 1) := by decide +kernel
theorem nd_Board_firstOn_20 : decode prog_2_method_7_code 20 = .ok (.getfield 27, 3) := by decide +kernel
theorem nd_Board_firstOn_23 : decode prog_2_method_7_code 23 = .ok (.getfield 46, 3) := by decide +kernel
theorem nd_Board_firstOn_26 : decode prog_2_method_7_code 26 = .ok (.iload 4, 2) := by decide +kernel
theorem nd_Board_firstOn_28 : decode prog_2_method_7_code 28 = .ok (.iaload, 1) := by decide +kernel
theorem nd_Board_firstOn_29 : decode prog_2_method_7_code 29 = .ok (.iload_n 1, 1) := by decide +kernel
theorem nd_Board_firstOn_30 : decode prog_2_method_7_code 30 = .ok (.if_icmp .ne (71), 3) := by decide +kernel
theorem nd_Board_firstOn_33 : decode prog_2_method_7_code 33 = .ok (.aload_n 0, 1) := by decide +kernel
theorem nd_Board_firstOn_34 : decode prog_2_method_7_code 34 = .ok (.getfield 9, 3) := by decide +kernel
theorem nd_Board_firstOn_37 : decode prog_2_method_7_code 37 = .ok (.iload 4, 2) := by decide +kernel
theorem nd_Board_firstOn_39 : decode prog_2_method_7_code 39 = .ok (.iaload, 1) := by decide +kernel
theorem nd_Board_firstOn_40 : decode prog_2_method_7_code 40 = .ok (.iconst 1, 1) := by decide +kernel
theorem nd_Board_firstOn_41 : decode prog_2_method_7_code 41 = .ok (.if_icmp .eq (6), 3) := by decide +kernel
theorem nd_Board_firstOn_44 : decode prog_2_method_7_code 44 = .ok (.goto (57), 3) := by decide +kernel
theorem nd_Board_firstOn_47 : decode prog_2_method_7_code 47 = .ok (.aload_n 0, 1) := by decide +kernel
theorem nd_Board_firstOn_48 : decode prog_2_method_7_code 48 = .ok (.iload 4, 2) := by decide +kernel
theorem nd_Board_firstOn_50 : decode prog_2_method_7_code 50 = .ok (.invokevirtual 64, 3) := by decide +kernel
theorem nd_Board_firstOn_53 : decode prog_2_method_7_code 53 = .ok (.istore 5, 2) := by decide +kernel
theorem nd_Board_firstOn_55 : decode prog_2_method_7_code 55 = .ok (.aload_n 0, 1) := by decide +kernel
theorem nd_Board_firstOn_56 : decode prog_2_method_7_code 56 = .ok (.getfield 15, 3) := by decide +kernel
theorem nd_Board_firstOn_59 : decode prog_2_method_7_code 59 = .ok (.iload 4, 2) := by decide +kernel
theorem nd_Board_firstOn_61 : decode prog_2_method_7_code 61 = .ok (.iaload, 1) := by decide +kernel
theorem nd_Board_firstOn_62 : decode prog_2_method_7_code 62 = .ok (.aload_n 0, 1) := by decide +kernel
theorem nd_Board_firstOn_63 : decode prog_2_method_7_code 63 = .ok (.getfield 15, 3) := by decide +kernel
theorem nd_Board_firstOn_66 : decode prog_2_method_7_code 66 = .ok (.iload_n 2, 1) := by decide +kernel
theorem nd_Board_firstOn_67 : decode prog_2_method_7_code 67 = .ok (.iaload, 1) := by decide +kernel
theorem nd_Board_firstOn_68 : decode prog_2_method_7_code 68 = .ok (.if_icmp .ge (7), 3) := by decide +kernel
theorem nd_Board_firstOn_71 : decode prog_2_method_7_code 71 = .ok (.iconst 1, 1) := by decide +kernel
theorem nd_Board_firstOn_72 : decode prog_2_method_7_code 72 = .ok (.goto (4), 3) := by decide +kernel
theorem nd_Board_firstOn_75 : decode prog_2_method_7_code 75 = .ok (.iconst 0, 1) := by decide +kernel
theorem nd_Board_firstOn_76 : decode prog_2_method_7_code 76 = .ok (.istore 6, 2) := by decide +kernel
theorem nd_Board_firstOn_78 : decode prog_2_method_7_code 78 = .ok (.iload 5, 2) := by decide +kernel
theorem nd_Board_firstOn_80 : decode prog_2_method_7_code 80 = .ok (.iload_n 3, 1) := by decide +kernel
theorem nd_Board_firstOn_81 : decode prog_2_method_7_code 81 = .ok (.if_icmp .gt (14), 3) := by decide +kernel
theorem nd_Board_firstOn_84 : decode prog_2_method_7_code 84 = .ok (.iload 5, 2) := by decide +kernel
theorem nd_Board_firstOn_86 : decode prog_2_method_7_code 86 = .ok (.iload_n 3, 1) := by decide +kernel
theorem nd_Board_firstOn_87 : decode prog_2_method_7_code 87 = .ok (.if_icmp .ne (14), 3) := by decide +kernel
theorem nd_Board_firstOn_90 : decode prog_2_method_7_code 90 = .ok (.iload 6, 2) := by decide +kernel
theorem nd_Board_firstOn_92 : decode prog_2_method_7_code 92 = .ok (.ifCond .eq (9), 3) := by decide +kernel
theorem nd_Board_firstOn_95 : decode prog_2_method_7_code 95 = .ok (.iload 4, 2) := by decide +kernel
theorem nd_Board_firstOn_97 : decode prog_2_method_7_code 97 = .ok (.istore_n 2, 1) := by decide +kernel
theorem nd_Board_firstOn_98 : decode prog_2_method_7_code 98 = .ok (.iload 5, 2) := by decide +kernel
theorem nd_Board_firstOn_100 : decode prog_2_method_7_code 100 = .ok (.istore_n 3, 1) := by decide +kernel
theorem nd_Board_firstOn_101 : decode prog_2_method_7_code 101 = .ok (.iinc 4 1, 3) := by decide +kernel
theorem nd_Board_firstOn_104 : decode prog_2_method_7_code 104 = .ok (.goto (-97), 3) := by decide +kernel
theorem nd_Board_firstOn_107 : decode prog_2_method_7_code 107 = .ok (.iload_n 2, 1) := by decide +kernel
theorem nd_Board_firstOn_108 : decode prog_2_method_7_code 108 = .ok (.ireturn, 1) := by decide +kernel
def lo_Board_firstOn_7 (pl : cr_S) (bd : cr_S) (x1 : Int32) : Nat → Int32 → Int32 → Int32 → Int32
  | 0, _, _, _ => 0
  | n_7 + 1, v2_7, v3_7, v4_7 =>
    (if (pl 0 0) < v4_7 then v2_7 else (if (pl 2 v4_7.toNatClampNeg) = x1 then (if (bd 1 v4_7.toNatClampNeg) = (1 : Int32) then (if (bd 2 v2_7.toNatClampNeg) ≤ (bd 2 v4_7.toNatClampNeg) then (if v3_7 < (md_Board_rankNow pl bd v4_7) then (lo_Board_firstOn_7 pl bd x1 n_7 v4_7 (md_Board_rankNow pl bd v4_7) (v4_7 + (1 : Int32))) else (if (md_Board_rankNow pl bd v4_7) = v3_7 then (lo_Board_firstOn_7 pl bd x1 n_7 v2_7 v3_7 (v4_7 + (1 : Int32))) else (lo_Board_firstOn_7 pl bd x1 n_7 v2_7 v3_7 (v4_7 + (1 : Int32))))) else (if v3_7 < (md_Board_rankNow pl bd v4_7) then (lo_Board_firstOn_7 pl bd x1 n_7 v4_7 (md_Board_rankNow pl bd v4_7) (v4_7 + (1 : Int32))) else (if (md_Board_rankNow pl bd v4_7) = v3_7 then (lo_Board_firstOn_7 pl bd x1 n_7 v4_7 (md_Board_rankNow pl bd v4_7) (v4_7 + (1 : Int32))) else (lo_Board_firstOn_7 pl bd x1 n_7 v2_7 v3_7 (v4_7 + (1 : Int32)))))) else (lo_Board_firstOn_7 pl bd x1 n_7 v2_7 v3_7 (v4_7 + (1 : Int32)))) else (lo_Board_firstOn_7 pl bd x1 n_7 v2_7 v3_7 (v4_7 + (1 : Int32)))))
def md_Board_firstOn (pl : cr_S) (bd : cr_S) (x1 : Int32) : Int32 :=
  (lo_Board_firstOn_7 pl bd x1 11 (0 : Int32) (0 : Int32) (1 : Int32))
abbrev pq_Board_firstOn (dC : Nat → ClassId) (dI : Nat → Nat → Nat) (cI cZ cO : ClassId) (apl abd : Nat → Nat) (pl : cr_S) (bd : cr_S) (x1 : Int32) (A : Nat → Prop) : Array Value → State → Outcome → State → Prop :=
  va_Qi (fun (r : Int32) (_ : Unit) => r = md_Board_firstOn pl bd x1 ∧ (0 ≤ r.toInt ∧ r.toInt ≤ 10)) (fun (_ : Unit) t => va_P (dC, dI) vwCl (cw_Plan cI cZ cO apl pl ++ cw_Board cI cZ cO abd apl bd) t.heap ∧ va_K (dC, dI) vwCl [(cI, .int), (cZ, .boolean), (cO, .array .int)] t ∧ va_D A (cw_Plan cI cZ cO apl pl ++ cw_Board cI cZ cO abd apl bd)) A
set_option maxHeartbeats 4000000 in
set_option maxRecDepth 100000 in
theorem ct_Board_firstOn (l : Launch) (dC : Nat → ClassId) (dI : Nat → Nat → Nat) (cI cZ cO : ClassId) (apl abd : Nat → Nat) (sz : Nat) (pl : cr_S) (bd : cr_S) (x1 : Int32) (hR_bd : cr_RBoard bd) (hR_pl : cr_RPlan pl) : Met l ny_Board_firstOn nw_Board_firstOn ({ frames := 2, cells := 0, slots := 0, locals := 44 } : Room) (va_Pc [.ref (abd 0), .int x1] (fun U => U.heap.size = sz ∧ va_P (dC, dI) vwCl (cw_Plan cI cZ cO apl pl ++ cw_Board cI cZ cO abd apl bd) U.heap ∧ va_K (dC, dI) vwCl [(cI, .int), (cZ, .boolean), (cO, .array .int)] U ∧ va_D (fun _ => True) (cw_Plan cI cZ cO apl pl ++ cw_Board cI cZ cO abd apl bd))) (pq_Board_firstOn dC dI cI cZ cO apl abd pl bd x1 (va_A (cw_Plan cI cZ cO apl pl ++ cw_Board cI cZ cO abd apl bd) sz)) 0 0 (va_A (cw_Plan cI cZ cO apl pl ++ cw_Board cI cZ cO abd apl bd) sz) := by
  refine Met.ofW (cc := prog_2_method_7_code) (maxL := 7) (ret := (some .int)) (by decide) rfl ?_
  intro p e s m args below meth c s₁ B hml hv
  obtain ⟨rfl, hsz, hP, hK, hD0⟩ := hv
  have hx := B.exec
  have hb := B.bytes
  have hr := B.returns
  have hts0 := atoms_spec (ws := nw_Board_firstOn) B.pre
  have hts : ∀ w ∈ ng_tbl, w.before ([.ref (abd 0), .int x1] : List Value).toArray s = true := fun w h => hts0 w (List.mem_cons_of_mem _ h)
  have hown : s.vm.findClass "CeilingRows$Board" = some m.cls := findClass_of_methodNamed B.named
  have hlocks := B.notSynchronized
  subst hsz
  have hD := hD0.self (sz := s.heap.size)
  generalize hAe : va_A (cw_Plan cI cZ cO apl pl ++ cw_Board cI cZ cO abd apl bd) s.heap.size = A at hD ⊢
  have hA : ∀ q : Nat, s.heap.size ≤ q → A q := fun q h => by rw [← hAe]; exact Or.inr h
  have hS : va_S A s.heap s.heap [] := va_S.rf
  have hP : va_P (dC, dI) vwCl (cw_Plan cI cZ cO apl pl ++ cw_Board cI cZ cO abd apl bd) s.heap := hP
  have hl := lv_entry ([.ref (abd 0), .int x1]) (n := 7) (Nat.le_of_ble_eq_true rfl)
  rw [lg_entry_eq]
  generalize (lg_sl ([.ref (abd 0), .int x1]) ++ List.replicate (7 - (lg_sl ([.ref (abd 0), .int x1])).length) Slot.unset).toArray = ls at hl ⊢
  have hl : lv_has ls 7 [(0, .ref (abd 0)), (1, .int x1)] := hl
  have k_0 : (0 : Int32).toInt = 0 := by decide
  have k_1 : (1 : Int32).toInt = 1 := by decide
  obtain ⟨tgt, hT⟩ : ∃ z, md_Board_firstOn pl bd x1 = z := ⟨_, rfl⟩
  have hM := hT
  unfold md_Board_firstOn at hM
  refine lv_iconst (v := 0) hx hb nd_Board_firstOn_0 (by decide) ?_
  refine lv_istore_n (lv' := [(2, .int (0 : Int32)), (0, .ref (abd 0)), (1, .int x1)]) hx hb nd_Board_firstOn_1 rfl hl (by decide) rfl (fun ls hl => ?_)
  refine lv_iconst (v := 0) hx hb nd_Board_firstOn_2 (by decide) ?_
  refine lv_istore_n (lv' := [(3, .int (0 : Int32)), (2, .int (0 : Int32)), (0, .ref (abd 0)), (1, .int x1)]) hx hb nd_Board_firstOn_3 rfl hl (by decide) rfl (fun ls hl => ?_)
  refine lv_iconst (v := 1) hx hb nd_Board_firstOn_4 (by decide) ?_
  refine lv_istore (lv' := [(4, .int (1 : Int32)), (3, .int (0 : Int32)), (2, .int (0 : Int32)), (0, .ref (abd 0)), (1, .int x1)]) hx hb nd_Board_firstOn_5 hl (by decide) rfl (fun ls hl => ?_)
  have hl := lv_sub hl [3, 4, 2, 1, 0] rfl
  have lp_7 : ∀ (n_7 : Nat) (v2_7 : Int32) (v3_7 : Int32) (v4_7 : Int32), (1 ≤ v4_7.toInt ∧ v4_7.toInt ≤ 11) → (0 ≤ v2_7.toInt ∧ v2_7.toInt ≤ 10) → (11 < v4_7.toInt + (n_7 : Int)) → lo_Board_firstOn_7 pl bd x1 n_7 v2_7 v3_7 v4_7 = tgt → ∀ (H : Heap) (locs : List Loc), va_P (dC, dI) vwCl (cw_Plan cI cZ cO apl pl ++ cw_Board cI cZ cO abd apl bd) H → va_D A (cw_Plan cI cZ cO apl pl ++ cw_Board cI cZ cO abd apl bd) → va_S A s.heap H locs → ∀ ls : Array Slot, lv_has ls 7 [(0, .ref (abd 0)), (1, .int x1), (2, .int v2_7), (3, .int v3_7), (4, .int v4_7)] → W p l e (headSpec nw_Board_firstOn ({ frames := 2, cells := 0, slots := 0, locals := 44 } : Room)).room s m ([.ref (abd 0), .int x1] : List Value).toArray below meth c H locs 0 0 (MQ below (pq_Board_firstOn dC dI cI cZ cO apl abd pl bd x1 A) ([.ref (abd 0), .int x1] : List Value).toArray s 0 0 A) (F0 m 7 ls []) := by
    intro n_7
    induction n_7 with
    | zero =>
      intro v2_7 v3_7 v4_7 hv4_7 hv2_7 hn_7
      exfalso; omega
    | succ n_7 ih_7 =>
      intro v2_7 v3_7 v4_7 hv4_7 hv2_7 hn_7 hM H locs hP hD hS ls hl
      have hn_7 : 11 < v4_7.toInt + ((n_7 : Int) + 1) := by omega
      rw [lo_Board_firstOn_7] at hM
      refine lv_iload hx hb nd_Board_firstOn_7 (lv_at hl 4 rfl) ?_
      refine lv_aload_n hx hb nd_Board_firstOn_9 rfl (lv_at hl 0 rfl) ?_
      refine va_get (D := (dC, dI)) (ci := 1) (v := .ref (apl 0)) (C := "CeilingRows$Board") (T := nf_Board) (N := 7) hx hb hts nin_Board hown hK hP 17 rfl rfl 0 (by decide) (hts _ tw_67) (fun _ h9 => h9) rfl nd_Board_firstOn_10 ?_
      refine va_get (D := (dC, dI)) (ci := 0) (v := .int (pl 0 0)) (C := "CeilingRows$Plan") (T := nf_Plan) (N := 7) hx hb hts nin_Plan hown hK hP 0 rfl rfl 0 (by decide) (hts _ tw_29) (fun _ h9 => h9) rfl nd_Board_firstOn_13 ?_
      have f_1 := cr_rfo hR_pl.1
      refine lv_icmp_gt (tgt := 107) hx hb nd_Board_firstOn_16 (by decide) (fun c_2 => ?_) (fun c_2 => ?_)
      · have c_2t := cr_lt c_2
        rw [if_pos c_2] at hM
        refine lv_iload_n hx hb nd_Board_firstOn_107 rfl (lv_at hl 2 rfl) ?_
        exact W.iret (v := v2_7) hx hb hr (fun t ht hW => ⟨⟨v2_7, (), rfl, ⟨by rw [hT, ← hM], by omega⟩, by rw [ht]; exact hP, va_K.moved hW.alike hK, hD⟩, hS.F ht⟩) hS.2.2 nd_Board_firstOn_108
      · have c_2t := cr_nlt c_2
        rw [if_neg c_2] at hM
        refine lv_aload_n hx hb nd_Board_firstOn_19 rfl (lv_at hl 0 rfl) ?_
        refine va_get (D := (dC, dI)) (ci := 1) (v := .ref (apl 0)) (C := "CeilingRows$Board") (T := nf_Board) (N := 7) hx hb hts nin_Board hown hK hP 17 rfl rfl 0 (by decide) (hts _ tw_67) (fun _ h9 => h9) rfl nd_Board_firstOn_20 ?_
        refine va_get (D := (dC, dI)) (ci := 0) (v := .ref (apl 2)) (C := "CeilingRows$Plan") (T := nf_Plan) (N := 7) hx hb hts nin_Plan hown hK hP 0 rfl rfl 3 (by decide) (hts _ tw_37) (fun _ h9 => h9) rfl nd_Board_firstOn_23 ?_
        refine lv_iload hx hb nd_Board_firstOn_26 (lv_at hl 4 rfl) ?_
        have b_3 : vp_in v4_7 11 := vp_in_iff.mpr (by omega)
        refine va_iald hx hb hK hP 2 0 rfl rfl b_3 nd_Board_firstOn_28 ?_
        have f_4 := cr_rgo hR_pl.2.2 (v4_7.toNatClampNeg)
        refine lv_iload_n hx hb nd_Board_firstOn_29 rfl (lv_at hl 1 rfl) ?_
        refine lv_icmp_ne (tgt := 101) hx hb nd_Board_firstOn_30 (by decide) (fun c_5 => ?_) (fun c_5 => ?_)
        · have c_5t := cr_ne c_5
          rw [if_neg c_5] at hM
          have e_6 : (v4_7 + (1 : Int32)).toInt = v4_7.toInt + (1 : Int32).toInt := cr_add (by omega)
          refine lv_iinc (v := (v4_7 + (1 : Int32))) (lv' := [(4, .int (v4_7 + (1 : Int32))), (0, .ref (abd 0)), (1, .int x1), (2, .int v2_7), (3, .int v3_7)]) hx hb nd_Board_firstOn_101 hl (k := 4) rfl (by rfl) (by decide) rfl (fun ls hl => ?_)
          refine lv_goto (tgt := 7) hx hb nd_Board_firstOn_104 (by decide) ?_
          exact ih_7 v2_7 v3_7 (v4_7 + (1 : Int32)) (by omega) (by omega) (by omega) hM _ _ hP hD hS _ (lv_sub hl [1, 2, 3, 4, 0] rfl)
        · have c_5t := cr_eq c_5
          rw [if_pos c_5] at hM
          refine lv_aload_n hx hb nd_Board_firstOn_33 rfl (lv_at hl 0 rfl) ?_
          refine va_get (D := (dC, dI)) (ci := 1) (v := .ref (abd 1)) (C := "CeilingRows$Board") (T := nf_Board) (N := 7) hx hb hts nin_Board hown hK hP 17 rfl rfl 1 (by decide) (hts _ tw_68) (fun _ h9 => h9) rfl nd_Board_firstOn_34 ?_
          refine lv_iload hx hb nd_Board_firstOn_37 (lv_at hl 4 rfl) ?_
          have b_7 : vp_in v4_7 11 := vp_in_iff.mpr (by omega)
          refine va_iald hx hb hK hP 18 0 rfl rfl b_7 nd_Board_firstOn_39 ?_
          refine lv_iconst (v := 1) hx hb nd_Board_firstOn_40 (by decide) ?_
          refine lv_icmp_eq (tgt := 47) hx hb nd_Board_firstOn_41 (by decide) (fun c_8 => ?_) (fun c_8 => ?_)
          · have c_8t := cr_eq c_8
            rw [if_pos c_8] at hM
            refine lv_aload_n hx hb nd_Board_firstOn_47 rfl (lv_at hl 0 rfl) ?_
            refine lv_iload hx hb nd_Board_firstOn_48 (lv_at hl 4 rfl) ?_
            have hPc := hP
            have hDc := hD
            have hFc := va_free (wc := cw_Plan cI cZ cO apl pl ++ cw_Board cI cZ cO abd apl bd) hD hS hA [0, 1, 2, 3, 4, 5, 6, 7, 8, 9, 10, 11, 12, 13, 14, 15, 16, 17, 18, 19, 20, 21, 22] rfl
            refine va_calli (va_runV (As := [.int v4_7]) (rest := []) ⟨hx, hb, hml, hown, hts⟩ (ct_Board_rankNow l dC dI cI cZ cO apl abd H.size pl bd v4_7 hR_bd hR_pl (by omega)) (cwV 1 hts (ng_V tw_242 tw_243 tw_244 tw_3 tw_245) rfl rfl rfl (by decide +kernel) ⟨Nat.le_of_ble_eq_true rfl, Nat.le_of_ble_eq_true rfl⟩) ⟨fun a U g mk q => by obtain ⟨q0, q1, qP, qK, qD⟩ := q; exact ⟨q0, q1, qP, va_K.moved (u := U) (U := U.calling g mk a) (Vm.Alike.refl U.vm) qK, qD⟩, va_recv hK hPc (ci := 1) (q0 := 17) rfl rfl, fun U hU hW => ⟨rfl, by rw [hU], by rw [hU]; exact hPc, va_K.moved hW.alike hK, hDc.weaken (fun _ _ _ _ => trivial)⟩⟩ rfl rfl hl.1 rfl (lv_room (Nat.le_of_ble_eq_true rfl)) nd_Board_firstOn_50 ⟨Nat.zero_le _, Nat.zero_le _⟩) hS (fun q _ h => hFc q h) hFc (fun r_9 u t H1 locs ht hvm hw hB hz1 hk1 hS => ?_)
            obtain ⟨hP1, hK1, hD1⟩ := hB
            rw [ht] at hP1
            have w_10 := hw
            try rw [← w_10] at hM
            have hP := hP1
            have hD := cr_Dw hD1 hFc
            generalize H1 = H at hP hS ⊢
            refine lv_istore (lv' := [(5, .int r_9), (0, .ref (abd 0)), (1, .int x1), (2, .int v2_7), (3, .int v3_7), (4, .int v4_7)]) hx hb nd_Board_firstOn_53 hl (by decide) rfl (fun ls hl => ?_)
            refine lv_aload_n hx hb nd_Board_firstOn_55 rfl (lv_at hl 1 rfl) ?_
            refine va_get (D := (dC, dI)) (ci := 1) (v := .ref (abd 2)) (C := "CeilingRows$Board") (T := nf_Board) (N := 7) hx hb hts nin_Board hown hK hP 17 rfl rfl 2 (by decide) (hts _ tw_71) (fun _ h9 => h9) rfl nd_Board_firstOn_56 ?_
            refine lv_iload hx hb nd_Board_firstOn_59 (lv_at hl 5 rfl) ?_
            have b_11 : vp_in v4_7 11 := vp_in_iff.mpr (by omega)
            refine va_iald hx hb hK hP 19 0 rfl rfl b_11 nd_Board_firstOn_61 ?_
            refine lv_aload_n hx hb nd_Board_firstOn_62 rfl (lv_at hl 1 rfl) ?_
            refine va_get (D := (dC, dI)) (ci := 1) (v := .ref (abd 2)) (C := "CeilingRows$Board") (T := nf_Board) (N := 7) hx hb hts nin_Board hown hK hP 17 rfl rfl 2 (by decide) (hts _ tw_71) (fun _ h9 => h9) rfl nd_Board_firstOn_63 ?_
            refine lv_iload_n hx hb nd_Board_firstOn_66 rfl (lv_at hl 3 rfl) ?_
            have b_12 : vp_in v2_7 11 := vp_in_iff.mpr (by omega)
            refine va_iald hx hb hK hP 19 0 rfl rfl b_12 nd_Board_firstOn_67 ?_
            refine lv_icmp_ge (tgt := 75) hx hb nd_Board_firstOn_68 (by decide) (fun c_13 => ?_) (fun c_13 => ?_)
            · have c_13t := cr_le c_13
              rw [if_pos c_13] at hM
              refine lv_iconst (v := 0) hx hb nd_Board_firstOn_75 (by decide) ?_
              refine lv_istore (lv' := [(6, .int (0 : Int32)), (5, .int r_9), (0, .ref (abd 0)), (1, .int x1), (2, .int v2_7), (3, .int v3_7), (4, .int v4_7)]) hx hb nd_Board_firstOn_76 hl (by decide) rfl (fun ls hl => ?_)
              refine lv_iload hx hb nd_Board_firstOn_78 (lv_at hl 1 rfl) ?_
              refine lv_iload_n hx hb nd_Board_firstOn_80 rfl (lv_at hl 5 rfl) ?_
              refine lv_icmp_gt (tgt := 95) hx hb nd_Board_firstOn_81 (by decide) (fun c_14 => ?_) (fun c_14 => ?_)
              · have c_14t := cr_lt c_14
                rw [if_pos c_14] at hM
                refine lv_iload hx hb nd_Board_firstOn_95 (lv_at hl 6 rfl) ?_
                refine lv_istore_n (lv' := [(2, .int v4_7), (6, .int (0 : Int32)), (5, .int r_9), (0, .ref (abd 0)), (1, .int x1), (3, .int v3_7), (4, .int v4_7)]) hx hb nd_Board_firstOn_97 rfl hl (by decide) rfl (fun ls hl => ?_)
                refine lv_iload hx hb nd_Board_firstOn_98 (lv_at hl 2 rfl) ?_
                refine lv_istore_n (lv' := [(3, .int r_9), (2, .int v4_7), (6, .int (0 : Int32)), (5, .int r_9), (0, .ref (abd 0)), (1, .int x1), (4, .int v4_7)]) hx hb nd_Board_firstOn_100 rfl hl (by decide) rfl (fun ls hl => ?_)
                have e_15 : (v4_7 + (1 : Int32)).toInt = v4_7.toInt + (1 : Int32).toInt := cr_add (by omega)
                refine lv_iinc (v := (v4_7 + (1 : Int32))) (lv' := [(4, .int (v4_7 + (1 : Int32))), (3, .int r_9), (2, .int v4_7), (6, .int (0 : Int32)), (5, .int r_9), (0, .ref (abd 0)), (1, .int x1)]) hx hb nd_Board_firstOn_101 hl (k := 6) rfl (by rfl) (by decide) rfl (fun ls hl => ?_)
                refine lv_goto (tgt := 7) hx hb nd_Board_firstOn_104 (by decide) ?_
                exact ih_7 v4_7 r_9 (v4_7 + (1 : Int32)) (by omega) (by omega) (by omega) hM _ _ hP hD hS _ (lv_sub hl [5, 6, 2, 1, 0] rfl)
              · have c_14t := cr_nlt c_14
                rw [if_neg c_14] at hM
                refine lv_iload hx hb nd_Board_firstOn_84 (lv_at hl 1 rfl) ?_
                refine lv_iload_n hx hb nd_Board_firstOn_86 rfl (lv_at hl 5 rfl) ?_
                refine lv_icmp_ne (tgt := 101) hx hb nd_Board_firstOn_87 (by decide) (fun c_16 => ?_) (fun c_16 => ?_)
                · have c_16t := cr_ne c_16
                  rw [if_neg c_16] at hM
                  have e_17 : (v4_7 + (1 : Int32)).toInt = v4_7.toInt + (1 : Int32).toInt := cr_add (by omega)
                  refine lv_iinc (v := (v4_7 + (1 : Int32))) (lv' := [(4, .int (v4_7 + (1 : Int32))), (6, .int (0 : Int32)), (5, .int r_9), (0, .ref (abd 0)), (1, .int x1), (2, .int v2_7), (3, .int v3_7)]) hx hb nd_Board_firstOn_101 hl (k := 6) rfl (by rfl) (by decide) rfl (fun ls hl => ?_)
                  refine lv_goto (tgt := 7) hx hb nd_Board_firstOn_104 (by decide) ?_
                  exact ih_7 v2_7 v3_7 (v4_7 + (1 : Int32)) (by omega) (by omega) (by omega) hM _ _ hP hD hS _ (lv_sub hl [3, 4, 5, 6, 0] rfl)
                · have c_16t := cr_eq c_16
                  rw [if_pos c_16] at hM
                  refine lv_iload hx hb nd_Board_firstOn_90 (lv_at hl 0 rfl) ?_
                  refine lv_if_eq (tgt := 101) hx hb nd_Board_firstOn_92 (by decide) (fun c_18 => ?_) (fun c_18 => ?_)
                  · have e_19 : (v4_7 + (1 : Int32)).toInt = v4_7.toInt + (1 : Int32).toInt := cr_add (by omega)
                    refine lv_iinc (v := (v4_7 + (1 : Int32))) (lv' := [(4, .int (v4_7 + (1 : Int32))), (6, .int (0 : Int32)), (5, .int r_9), (0, .ref (abd 0)), (1, .int x1), (2, .int v2_7), (3, .int v3_7)]) hx hb nd_Board_firstOn_101 hl (k := 6) rfl (by rfl) (by decide) rfl (fun ls hl => ?_)
                    refine lv_goto (tgt := 7) hx hb nd_Board_firstOn_104 (by decide) ?_
                    exact ih_7 v2_7 v3_7 (v4_7 + (1 : Int32)) (by omega) (by omega) (by omega) hM _ _ hP hD hS _ (lv_sub hl [3, 4, 5, 6, 0] rfl)
                  · exact absurd c_18 (by decide)
            · have c_13t := cr_nle c_13
              rw [if_neg c_13] at hM
              refine lv_iconst (v := 1) hx hb nd_Board_firstOn_71 (by decide) ?_
              refine lv_goto (tgt := 76) hx hb nd_Board_firstOn_72 (by decide) ?_
              refine lv_istore (lv' := [(6, .int (1 : Int32)), (5, .int r_9), (0, .ref (abd 0)), (1, .int x1), (2, .int v2_7), (3, .int v3_7), (4, .int v4_7)]) hx hb nd_Board_firstOn_76 hl (by decide) rfl (fun ls hl => ?_)
              refine lv_iload hx hb nd_Board_firstOn_78 (lv_at hl 1 rfl) ?_
              refine lv_iload_n hx hb nd_Board_firstOn_80 rfl (lv_at hl 5 rfl) ?_
              refine lv_icmp_gt (tgt := 95) hx hb nd_Board_firstOn_81 (by decide) (fun c_20 => ?_) (fun c_20 => ?_)
              · have c_20t := cr_lt c_20
                rw [if_pos c_20] at hM
                refine lv_iload hx hb nd_Board_firstOn_95 (lv_at hl 6 rfl) ?_
                refine lv_istore_n (lv' := [(2, .int v4_7), (6, .int (1 : Int32)), (5, .int r_9), (0, .ref (abd 0)), (1, .int x1), (3, .int v3_7), (4, .int v4_7)]) hx hb nd_Board_firstOn_97 rfl hl (by decide) rfl (fun ls hl => ?_)
                refine lv_iload hx hb nd_Board_firstOn_98 (lv_at hl 2 rfl) ?_
                refine lv_istore_n (lv' := [(3, .int r_9), (2, .int v4_7), (6, .int (1 : Int32)), (5, .int r_9), (0, .ref (abd 0)), (1, .int x1), (4, .int v4_7)]) hx hb nd_Board_firstOn_100 rfl hl (by decide) rfl (fun ls hl => ?_)
                have e_21 : (v4_7 + (1 : Int32)).toInt = v4_7.toInt + (1 : Int32).toInt := cr_add (by omega)
                refine lv_iinc (v := (v4_7 + (1 : Int32))) (lv' := [(4, .int (v4_7 + (1 : Int32))), (3, .int r_9), (2, .int v4_7), (6, .int (1 : Int32)), (5, .int r_9), (0, .ref (abd 0)), (1, .int x1)]) hx hb nd_Board_firstOn_101 hl (k := 6) rfl (by rfl) (by decide) rfl (fun ls hl => ?_)
                refine lv_goto (tgt := 7) hx hb nd_Board_firstOn_104 (by decide) ?_
                exact ih_7 v4_7 r_9 (v4_7 + (1 : Int32)) (by omega) (by omega) (by omega) hM _ _ hP hD hS _ (lv_sub hl [5, 6, 2, 1, 0] rfl)
              · have c_20t := cr_nlt c_20
                rw [if_neg c_20] at hM
                refine lv_iload hx hb nd_Board_firstOn_84 (lv_at hl 1 rfl) ?_
                refine lv_iload_n hx hb nd_Board_firstOn_86 rfl (lv_at hl 5 rfl) ?_
                refine lv_icmp_ne (tgt := 101) hx hb nd_Board_firstOn_87 (by decide) (fun c_22 => ?_) (fun c_22 => ?_)
                · have c_22t := cr_ne c_22
                  rw [if_neg c_22] at hM
                  have e_23 : (v4_7 + (1 : Int32)).toInt = v4_7.toInt + (1 : Int32).toInt := cr_add (by omega)
                  refine lv_iinc (v := (v4_7 + (1 : Int32))) (lv' := [(4, .int (v4_7 + (1 : Int32))), (6, .int (1 : Int32)), (5, .int r_9), (0, .ref (abd 0)), (1, .int x1), (2, .int v2_7), (3, .int v3_7)]) hx hb nd_Board_firstOn_101 hl (k := 6) rfl (by rfl) (by decide) rfl (fun ls hl => ?_)
                  refine lv_goto (tgt := 7) hx hb nd_Board_firstOn_104 (by decide) ?_
                  exact ih_7 v2_7 v3_7 (v4_7 + (1 : Int32)) (by omega) (by omega) (by omega) hM _ _ hP hD hS _ (lv_sub hl [3, 4, 5, 6, 0] rfl)
                · have c_22t := cr_eq c_22
                  rw [if_pos c_22] at hM
                  refine lv_iload hx hb nd_Board_firstOn_90 (lv_at hl 0 rfl) ?_
                  refine lv_if_eq (tgt := 101) hx hb nd_Board_firstOn_92 (by decide) (fun c_24 => ?_) (fun c_24 => ?_)
                  · exact absurd c_24 (by decide)
                  · refine lv_iload hx hb nd_Board_firstOn_95 (lv_at hl 6 rfl) ?_
                    refine lv_istore_n (lv' := [(2, .int v4_7), (6, .int (1 : Int32)), (5, .int r_9), (0, .ref (abd 0)), (1, .int x1), (3, .int v3_7), (4, .int v4_7)]) hx hb nd_Board_firstOn_97 rfl hl (by decide) rfl (fun ls hl => ?_)
                    refine lv_iload hx hb nd_Board_firstOn_98 (lv_at hl 2 rfl) ?_
                    refine lv_istore_n (lv' := [(3, .int r_9), (2, .int v4_7), (6, .int (1 : Int32)), (5, .int r_9), (0, .ref (abd 0)), (1, .int x1), (4, .int v4_7)]) hx hb nd_Board_firstOn_100 rfl hl (by decide) rfl (fun ls hl => ?_)
                    have e_25 : (v4_7 + (1 : Int32)).toInt = v4_7.toInt + (1 : Int32).toInt := cr_add (by omega)
                    refine lv_iinc (v := (v4_7 + (1 : Int32))) (lv' := [(4, .int (v4_7 + (1 : Int32))), (3, .int r_9), (2, .int v4_7), (6, .int (1 : Int32)), (5, .int r_9), (0, .ref (abd 0)), (1, .int x1)]) hx hb nd_Board_firstOn_101 hl (k := 6) rfl (by rfl) (by decide) rfl (fun ls hl => ?_)
                    refine lv_goto (tgt := 7) hx hb nd_Board_firstOn_104 (by decide) ?_
                    exact ih_7 v4_7 r_9 (v4_7 + (1 : Int32)) (by omega) (by omega) (by omega) hM _ _ hP hD hS _ (lv_sub hl [5, 6, 2, 1, 0] rfl)
          · have c_8t := cr_ne c_8
            rw [if_neg c_8] at hM
            refine lv_goto (tgt := 101) hx hb nd_Board_firstOn_44 (by decide) ?_
            have e_26 : (v4_7 + (1 : Int32)).toInt = v4_7.toInt + (1 : Int32).toInt := cr_add (by omega)
            refine lv_iinc (v := (v4_7 + (1 : Int32))) (lv' := [(4, .int (v4_7 + (1 : Int32))), (0, .ref (abd 0)), (1, .int x1), (2, .int v2_7), (3, .int v3_7)]) hx hb nd_Board_firstOn_101 hl (k := 4) rfl (by rfl) (by decide) rfl (fun ls hl => ?_)
            refine lv_goto (tgt := 7) hx hb nd_Board_firstOn_104 (by decide) ?_
            exact ih_7 v2_7 v3_7 (v4_7 + (1 : Int32)) (by omega) (by omega) (by omega) hM _ _ hP hD hS _ (lv_sub hl [1, 2, 3, 4, 0] rfl)
  exact lp_7 11 (0 : Int32) (0 : Int32) (1 : Int32) (by omega) (by omega) (by omega) hM _ _ hP hD hS _ hl

theorem nd_Board_take_0 : decode prog_2_method_8_code 0 = .ok (.aload_n 0, 1) := by decide +kernel
theorem nd_Board_take_1 : decode prog_2_method_8_code 1 = .ok (.getfield 21, 3) := by decide +kernel
theorem nd_Board_take_4 : decode prog_2_method_8_code 4 = .ok (.iload_n 2, 1) := by decide +kernel
theorem nd_Board_take_5 : decode prog_2_method_8_code 5 = .ok (.iload_n 1, 1) := by decide +kernel
theorem nd_Board_take_6 : decode prog_2_method_8_code 6 = .ok (.iastore, 1) := by decide +kernel
theorem nd_Board_take_7 : decode prog_2_method_8_code 7 = .ok (.aload_n 0, 1) := by decide +kernel
theorem nd_Board_take_8 : decode prog_2_method_8_code 8 = .ok (.getfield 24, 3) := by decide +kernel
theorem nd_Board_take_11 : decode prog_2_method_8_code 11 = .ok (.iload_n 2, 1) := by decide +kernel
theorem nd_Board_take_12 : decode prog_2_method_8_code 12 = .ok (.aload_n 0, 1) := by decide +kernel
theorem nd_Board_take_13 : decode prog_2_method_8_code 13 = .ok (.getfield 18, 3) := by decide +kernel
theorem nd_Board_take_16 : decode prog_2_method_8_code 16 = .ok (.iload_n 1, 1) := by decide +kernel
theorem nd_Board_take_17 : decode prog_2_method_8_code 17 = .ok (.iaload, 1) := by decide +kernel
theorem nd_Board_take_18 : decode prog_2_method_8_code 18 = .ok (.iastore, 1) := by decide +kernel
theorem nd_Board_take_19 : decode prog_2_method_8_code 19 = .ok (.aload_n 0, 1) := by decide +kernel
theorem nd_Board_take_20 : decode prog_2_method_8_code 20 = .ok (.getfield 18, 3) := by decide +kernel
theorem nd_Board_take_23 : decode prog_2_method_8_code 23 = .ok (.iload_n 1, 1) := by decide +kernel
theorem nd_Board_take_24 : decode prog_2_method_8_code 24 = .ok (.iload_n 2, 1) := by decide +kernel
theorem nd_Board_take_25 : decode prog_2_method_8_code 25 = .ok (.iastore, 1) := by decide +kernel
theorem nd_Board_take_26 : decode prog_2_method_8_code 26 = .ok (.return_, 1) := by decide +kernel
def md_Board_take (pl : cr_S) (bd : cr_S) (x1 : Int32) (x2 : Int32) : cr_S :=
  (cr_up (cr_up (cr_up bd 4 x2.toNatClampNeg x1) 5 x2.toNatClampNeg ((cr_up bd 4 x2.toNatClampNeg x1) 3 x1.toNatClampNeg)) 3 x1.toNatClampNeg x2)
abbrev pq_Board_take (dC : Nat → ClassId) (dI : Nat → Nat → Nat) (cI cZ cO : ClassId) (apl abd : Nat → Nat) (pl : cr_S) (bd : cr_S) (x1 : Int32) (x2 : Int32) (A : Nat → Prop) : Array Value → State → Outcome → State → Prop :=
  va_Qv (fun (bd' : cr_S) => bd' = md_Board_take pl bd x1 x2 ∧ cr_RBoard bd') (fun (bd' : cr_S) t => va_P (dC, dI) vwCl (cw_Plan cI cZ cO apl pl ++ cw_Board cI cZ cO abd apl bd') t.heap ∧ va_K (dC, dI) vwCl [(cI, .int), (cZ, .boolean), (cO, .array .int)] t ∧ va_D A (cw_Plan cI cZ cO apl pl ++ cw_Board cI cZ cO abd apl bd')) A
set_option maxHeartbeats 4000000 in
set_option maxRecDepth 100000 in
theorem ct_Board_take (l : Launch) (dC : Nat → ClassId) (dI : Nat → Nat → Nat) (cI cZ cO : ClassId) (apl abd : Nat → Nat) (sz : Nat) (pl : cr_S) (bd : cr_S) (x1 : Int32) (x2 : Int32) (hR_bd : cr_RBoard bd) (hR_pl : cr_RPlan pl) (hx1 : 0 ≤ x1.toInt ∧ x1.toInt ≤ 10) (hx2 : 0 ≤ x2.toInt ∧ x2.toInt ≤ 8) : Met l ny_Board_take nw_Board_take ({ frames := 0, cells := 0, slots := 0, locals := 0 } : Room) (va_Pc [.ref (abd 0), .int x1, .int x2] (fun U => U.heap.size = sz ∧ va_P (dC, dI) vwCl (cw_Plan cI cZ cO apl pl ++ cw_Board cI cZ cO abd apl bd) U.heap ∧ va_K (dC, dI) vwCl [(cI, .int), (cZ, .boolean), (cO, .array .int)] U ∧ va_D (fun _ => True) (cw_Plan cI cZ cO apl pl ++ cw_Board cI cZ cO abd apl bd))) (pq_Board_take dC dI cI cZ cO apl abd pl bd x1 x2 (va_A (cw_Plan cI cZ cO apl pl ++ cw_Board cI cZ cO abd apl bd) sz)) 0 0 (va_A (cw_Plan cI cZ cO apl pl ++ cw_Board cI cZ cO abd apl bd) sz) := by
  refine Met.ofW (cc := prog_2_method_8_code) (maxL := 3) (ret := none) (by decide) rfl ?_
  intro p e s m args below meth c s₁ B hml hv
  obtain ⟨rfl, hsz, hP, hK, hD0⟩ := hv
  have hx := B.exec
  have hb := B.bytes
  have hr := B.returns
  have hts0 := atoms_spec (ws := nw_Board_take) B.pre
  have hts : ∀ w ∈ ng_tbl, w.before ([.ref (abd 0), .int x1, .int x2] : List Value).toArray s = true := fun w h => hts0 w (List.mem_cons_of_mem _ h)
  have hown : s.vm.findClass "CeilingRows$Board" = some m.cls := findClass_of_methodNamed B.named
  have hlocks := B.notSynchronized
  subst hsz
  have hD := hD0.self (sz := s.heap.size)
  generalize hAe : va_A (cw_Plan cI cZ cO apl pl ++ cw_Board cI cZ cO abd apl bd) s.heap.size = A at hD ⊢
  have hA : ∀ q : Nat, s.heap.size ≤ q → A q := fun q h => by rw [← hAe]; exact Or.inr h
  have hS : va_S A s.heap s.heap [] := va_S.rf
  have hP : va_P (dC, dI) vwCl (cw_Plan cI cZ cO apl pl ++ cw_Board cI cZ cO abd apl bd) s.heap := hP
  have hl := lv_entry ([.ref (abd 0), .int x1, .int x2]) (n := 3) (Nat.le_of_ble_eq_true rfl)
  rw [lg_entry_eq]
  generalize (lg_sl ([.ref (abd 0), .int x1, .int x2]) ++ List.replicate (3 - (lg_sl ([.ref (abd 0), .int x1, .int x2])).length) Slot.unset).toArray = ls at hl ⊢
  have hl : lv_has ls 3 [(0, .ref (abd 0)), (1, .int x1), (2, .int x2)] := hl
  obtain ⟨tgt, hT⟩ : ∃ z, md_Board_take pl bd x1 x2 = z := ⟨_, rfl⟩
  have hM := hT
  unfold md_Board_take at hM
  refine lv_aload_n hx hb nd_Board_take_0 rfl (lv_at hl 0 rfl) ?_
  refine va_get (D := (dC, dI)) (ci := 1) (v := .ref (abd 4)) (C := "CeilingRows$Board") (T := nf_Board) (N := 7) hx hb hts nin_Board hown hK hP 17 rfl rfl 5 (by decide) (hts _ tw_75) (fun _ h9 => h9) rfl nd_Board_take_1 ?_
  refine lv_iload_n hx hb nd_Board_take_4 rfl (lv_at hl 2 rfl) ?_
  refine lv_iload_n hx hb nd_Board_take_5 rfl (lv_at hl 1 rfl) ?_
  have b_1 : vp_in x2 9 := vp_in_iff.mpr (by omega)
  refine va_iast hx hb hK hP hD hS 21 0 rfl rfl b_1 nd_Board_take_6 (fun H locs hP hD hS => ?_)
  have hP : va_P (dC, dI) vwCl (cw_Plan cI cZ cO apl pl ++ cw_Board cI cZ cO abd apl (cr_up bd 4 x2.toNatClampNeg x1)) H := hP
  have hD : va_D A (cw_Plan cI cZ cO apl pl ++ cw_Board cI cZ cO abd apl (cr_up bd 4 x2.toNatClampNeg x1)) := hD
  have hR_2 : cr_RBoard (cr_up bd 4 x2.toNatClampNeg x1) := ⟨cr_rg_up hR_bd.1 (fun e => absurd e (by decide)), cr_rg_up hR_bd.2 (fun e => absurd e (by decide))⟩
  obtain ⟨bdq_3, hbdq_3⟩ : ∃ z, (cr_up bd 4 x2.toNatClampNeg x1) = z := ⟨_, rfl⟩
  rw [hbdq_3] at hP hD hR_2
  try rw [hbdq_3] at hM
  refine lv_aload_n hx hb nd_Board_take_7 rfl (lv_at hl 0 rfl) ?_
  refine va_get (D := (dC, dI)) (ci := 1) (v := .ref (abd 5)) (C := "CeilingRows$Board") (T := nf_Board) (N := 7) hx hb hts nin_Board hown hK hP 17 rfl rfl 6 (by decide) (hts _ tw_78) (fun _ h9 => h9) rfl nd_Board_take_8 ?_
  refine lv_iload_n hx hb nd_Board_take_11 rfl (lv_at hl 2 rfl) ?_
  refine lv_aload_n hx hb nd_Board_take_12 rfl (lv_at hl 0 rfl) ?_
  refine va_get (D := (dC, dI)) (ci := 1) (v := .ref (abd 3)) (C := "CeilingRows$Board") (T := nf_Board) (N := 7) hx hb hts nin_Board hown hK hP 17 rfl rfl 4 (by decide) (hts _ tw_73) (fun _ h9 => h9) rfl nd_Board_take_13 ?_
  refine lv_iload_n hx hb nd_Board_take_16 rfl (lv_at hl 1 rfl) ?_
  have b_4 : vp_in x1 11 := vp_in_iff.mpr (by omega)
  refine va_iald hx hb hK hP 20 0 rfl rfl b_4 nd_Board_take_17 ?_
  have f_5 := cr_rgo hR_2.1 (x1.toNatClampNeg)
  have b_6 : vp_in x2 9 := vp_in_iff.mpr (by omega)
  refine va_iast hx hb hK hP hD hS 22 0 rfl rfl b_6 nd_Board_take_18 (fun H locs hP hD hS => ?_)
  have hP : va_P (dC, dI) vwCl (cw_Plan cI cZ cO apl pl ++ cw_Board cI cZ cO abd apl (cr_up bdq_3 5 x2.toNatClampNeg (bdq_3 3 x1.toNatClampNeg))) H := hP
  have hD : va_D A (cw_Plan cI cZ cO apl pl ++ cw_Board cI cZ cO abd apl (cr_up bdq_3 5 x2.toNatClampNeg (bdq_3 3 x1.toNatClampNeg))) := hD
  have hR_7 : cr_RBoard (cr_up bdq_3 5 x2.toNatClampNeg (bdq_3 3 x1.toNatClampNeg)) := ⟨cr_rg_up hR_2.1 (fun e => absurd e (by decide)), cr_rg_up hR_2.2 (fun _ => by omega)⟩
  obtain ⟨bdq_8, hbdq_8⟩ : ∃ z, (cr_up bdq_3 5 x2.toNatClampNeg (bdq_3 3 x1.toNatClampNeg)) = z := ⟨_, rfl⟩
  rw [hbdq_8] at hP hD hR_7
  try rw [hbdq_8] at hM
  refine lv_aload_n hx hb nd_Board_take_19 rfl (lv_at hl 0 rfl) ?_
  refine va_get (D := (dC, dI)) (ci := 1) (v := .ref (abd 3)) (C := "CeilingRows$Board") (T := nf_Board) (N := 7) hx hb hts nin_Board hown hK hP 17 rfl rfl 4 (by decide) (hts _ tw_73) (fun _ h9 => h9) rfl nd_Board_take_20 ?_
  refine lv_iload_n hx hb nd_Board_take_23 rfl (lv_at hl 1 rfl) ?_
  refine lv_iload_n hx hb nd_Board_take_24 rfl (lv_at hl 2 rfl) ?_
  have b_9 : vp_in x1 11 := vp_in_iff.mpr (by omega)
  refine va_iast hx hb hK hP hD hS 20 0 rfl rfl b_9 nd_Board_take_25 (fun H locs hP hD hS => ?_)
  have hP : va_P (dC, dI) vwCl (cw_Plan cI cZ cO apl pl ++ cw_Board cI cZ cO abd apl (cr_up bdq_8 3 x1.toNatClampNeg x2)) H := hP
  have hD : va_D A (cw_Plan cI cZ cO apl pl ++ cw_Board cI cZ cO abd apl (cr_up bdq_8 3 x1.toNatClampNeg x2)) := hD
  have hR_10 : cr_RBoard (cr_up bdq_8 3 x1.toNatClampNeg x2) := ⟨cr_rg_up hR_7.1 (fun _ => by omega), cr_rg_up hR_7.2 (fun e => absurd e (by decide))⟩
  obtain ⟨bdq_11, hbdq_11⟩ : ∃ z, (cr_up bdq_8 3 x1.toNatClampNeg x2) = z := ⟨_, rfl⟩
  rw [hbdq_11] at hP hD hR_10
  try rw [hbdq_11] at hM
  exact W.vret hx hb hr (fun t ht hW => ⟨⟨bdq_11, rfl, ⟨by rw [hT, ← hM], hR_10⟩, by rw [ht]; exact hP, va_K.moved hW.alike hK, hD⟩, hS.F ht⟩) hS.2.2 nd_Board_take_26

theorem nd_Board_giveBackLast_0 : decode prog_2_method_9_code 0 = .ok (.aload_n 0, 1) := by decide +kernel
theorem nd_Board_giveBackLast_1 : decode prog_2_method_9_code 1 = .ok (.getfield 18, 3) := by decide +kernel
theorem nd_Board_giveBackLast_4 : decode prog_2_method_9_code 4 = .ok (.iload_n 1, 1) := by decide +kernel
theorem nd_Board_giveBackLast_5 : decode prog_2_method_9_code 5 = .ok (.iaload, 1) := by decide +kernel
theorem nd_Board_giveBackLast_6 : decode prog_2_method_9_code 6 = .ok (.istore_n 2, 1) := by decide +kernel
theorem nd_Board_giveBackLast_7 : decode prog_2_method_9_code 7 = .ok (.iload_n 2, 1) := by decide +kernel
theorem nd_Board_giveBackLast_8 : decode prog_2_method_9_code 8 = .ok (.ifCond .eq (29), 3) := by decide +kernel
theorem nd_Board_giveBackLast_11 : decode prog_2_method_9_code 11 = .ok (.aload_n 0, 1) := by decide +kernel
theorem nd_Board_giveBackLast_12 : decode prog_2_method_9_code 12 = .ok (.getfield 18, 3) := by decide +kernel
theorem nd_Board_giveBackLast_15 : decode prog_2_method_9_code 15 = .ok (.iload_n 1, 1) := by decide +kernel
theorem nd_Board_giveBackLast_16 : decode prog_2_method_9_code 16 = .ok (.aload_n 0, 1) := by decide +kernel
theorem nd_Board_giveBackLast_17 : decode prog_2_method_9_code 17 = .ok (.getfield 24, 3) := by decide +kernel
theorem nd_Board_giveBackLast_20 : decode prog_2_method_9_code 20 = .ok (.iload_n 2, 1) := by decide +kernel
theorem nd_Board_giveBackLast_21 : decode prog_2_method_9_code 21 = .ok (.iaload, 1) := by decide +kernel
theorem nd_Board_giveBackLast_22 : decode prog_2_method_9_code 22 = .ok (.iastore, 1) := by decide +kernel
theorem nd_Board_giveBackLast_23 : decode prog_2_method_9_code 23 = .ok (.aload_n 0, 1) := by decide +kernel
theorem nd_Board_giveBackLast_24 : decode prog_2_method_9_code 24 = .ok (.getfield 24, 3) := by decide +kernel
theorem nd_Board_giveBackLast_27 : decode prog_2_method_9_code 27 = .ok (.iload_n 2, 1) := by decide +kernel
theorem nd_Board_giveBackLast_28 : decode prog_2_method_9_code 28 = .ok (.iconst 0, 1) := by decide +kernel
theorem nd_Board_giveBackLast_29 : decode prog_2_method_9_code 29 = .ok (.iastore, 1) := by decide +kernel
theorem nd_Board_giveBackLast_30 : decode prog_2_method_9_code 30 = .ok (.aload_n 0, 1) := by decide +kernel
theorem nd_Board_giveBackLast_31 : decode prog_2_method_9_code 31 = .ok (.getfield 21, 3) := by decide +kernel
theorem nd_Board_giveBackLast_34 : decode prog_2_method_9_code 34 = .ok (.iload_n 2, 1) := by decide +kernel
theorem nd_Board_giveBackLast_35 : decode prog_2_method_9_code 35 = .ok (.iconst 0, 1) := by decide +kernel
theorem nd_Board_giveBackLast_36 : decode prog_2_method_9_code 36 = .ok (.iastore, 1) := by decide +kernel
theorem nd_Board_giveBackLast_37 : decode prog_2_method_9_code 37 = .ok (.return_, 1) := by decide +kernel
def md_Board_giveBackLast (pl : cr_S) (bd : cr_S) (x1 : Int32) : cr_S :=
  (if (bd 3 x1.toNatClampNeg) = 0 then bd else (cr_up (cr_up (cr_up bd 3 x1.toNatClampNeg (bd 5 (bd 3 x1.toNatClampNeg).toNatClampNeg)) 5 (bd 3 x1.toNatClampNeg).toNatClampNeg (0 : Int32)) 4 (bd 3 x1.toNatClampNeg).toNatClampNeg (0 : Int32)))
abbrev pq_Board_giveBackLast (dC : Nat → ClassId) (dI : Nat → Nat → Nat) (cI cZ cO : ClassId) (apl abd : Nat → Nat) (pl : cr_S) (bd : cr_S) (x1 : Int32) (A : Nat → Prop) : Array Value → State → Outcome → State → Prop :=
  va_Qv (fun (bd' : cr_S) => bd' = md_Board_giveBackLast pl bd x1 ∧ cr_RBoard bd') (fun (bd' : cr_S) t => va_P (dC, dI) vwCl (cw_Plan cI cZ cO apl pl ++ cw_Board cI cZ cO abd apl bd') t.heap ∧ va_K (dC, dI) vwCl [(cI, .int), (cZ, .boolean), (cO, .array .int)] t ∧ va_D A (cw_Plan cI cZ cO apl pl ++ cw_Board cI cZ cO abd apl bd')) A
set_option maxHeartbeats 4000000 in
set_option maxRecDepth 100000 in
theorem ct_Board_giveBackLast (l : Launch) (dC : Nat → ClassId) (dI : Nat → Nat → Nat) (cI cZ cO : ClassId) (apl abd : Nat → Nat) (sz : Nat) (pl : cr_S) (bd : cr_S) (x1 : Int32) (hR_bd : cr_RBoard bd) (hR_pl : cr_RPlan pl) (hx1 : 0 ≤ x1.toInt ∧ x1.toInt ≤ 10) : Met l ny_Board_giveBackLast nw_Board_giveBackLast ({ frames := 0, cells := 0, slots := 0, locals := 0 } : Room) (va_Pc [.ref (abd 0), .int x1] (fun U => U.heap.size = sz ∧ va_P (dC, dI) vwCl (cw_Plan cI cZ cO apl pl ++ cw_Board cI cZ cO abd apl bd) U.heap ∧ va_K (dC, dI) vwCl [(cI, .int), (cZ, .boolean), (cO, .array .int)] U ∧ va_D (fun _ => True) (cw_Plan cI cZ cO apl pl ++ cw_Board cI cZ cO abd apl bd))) (pq_Board_giveBackLast dC dI cI cZ cO apl abd pl bd x1 (va_A (cw_Plan cI cZ cO apl pl ++ cw_Board cI cZ cO abd apl bd) sz)) 0 0 (va_A (cw_Plan cI cZ cO apl pl ++ cw_Board cI cZ cO abd apl bd) sz) := by
  refine Met.ofW (cc := prog_2_method_9_code) (maxL := 3) (ret := none) (by decide) rfl ?_
  intro p e s m args below meth c s₁ B hml hv
  obtain ⟨rfl, hsz, hP, hK, hD0⟩ := hv
  have hx := B.exec
  have hb := B.bytes
  have hr := B.returns
  have hts0 := atoms_spec (ws := nw_Board_giveBackLast) B.pre
  have hts : ∀ w ∈ ng_tbl, w.before ([.ref (abd 0), .int x1] : List Value).toArray s = true := fun w h => hts0 w (List.mem_cons_of_mem _ h)
  have hown : s.vm.findClass "CeilingRows$Board" = some m.cls := findClass_of_methodNamed B.named
  have hlocks := B.notSynchronized
  subst hsz
  have hD := hD0.self (sz := s.heap.size)
  generalize hAe : va_A (cw_Plan cI cZ cO apl pl ++ cw_Board cI cZ cO abd apl bd) s.heap.size = A at hD ⊢
  have hA : ∀ q : Nat, s.heap.size ≤ q → A q := fun q h => by rw [← hAe]; exact Or.inr h
  have hS : va_S A s.heap s.heap [] := va_S.rf
  have hP : va_P (dC, dI) vwCl (cw_Plan cI cZ cO apl pl ++ cw_Board cI cZ cO abd apl bd) s.heap := hP
  have hl := lv_entry ([.ref (abd 0), .int x1]) (n := 3) (Nat.le_of_ble_eq_true rfl)
  rw [lg_entry_eq]
  generalize (lg_sl ([.ref (abd 0), .int x1]) ++ List.replicate (3 - (lg_sl ([.ref (abd 0), .int x1])).length) Slot.unset).toArray = ls at hl ⊢
  have hl : lv_has ls 3 [(0, .ref (abd 0)), (1, .int x1)] := hl
  have k_0 : (0 : Int32).toInt = 0 := by decide
  obtain ⟨tgt, hT⟩ : ∃ z, md_Board_giveBackLast pl bd x1 = z := ⟨_, rfl⟩
  have hM := hT
  unfold md_Board_giveBackLast at hM
  refine lv_aload_n hx hb nd_Board_giveBackLast_0 rfl (lv_at hl 0 rfl) ?_
  refine va_get (D := (dC, dI)) (ci := 1) (v := .ref (abd 3)) (C := "CeilingRows$Board") (T := nf_Board) (N := 7) hx hb hts nin_Board hown hK hP 17 rfl rfl 4 (by decide) (hts _ tw_73) (fun _ h9 => h9) rfl nd_Board_giveBackLast_1 ?_
  refine lv_iload_n hx hb nd_Board_giveBackLast_4 rfl (lv_at hl 1 rfl) ?_
  have b_1 : vp_in x1 11 := vp_in_iff.mpr (by omega)
  refine va_iald hx hb hK hP 20 0 rfl rfl b_1 nd_Board_giveBackLast_5 ?_
  have f_2 := cr_rgo hR_bd.1 (x1.toNatClampNeg)
  refine lv_istore_n (lv' := [(2, .int (bd 3 x1.toNatClampNeg)), (0, .ref (abd 0)), (1, .int x1)]) hx hb nd_Board_giveBackLast_6 rfl hl (by decide) rfl (fun ls hl => ?_)
  refine lv_iload_n hx hb nd_Board_giveBackLast_7 rfl (lv_at hl 0 rfl) ?_
  refine lv_if_eq (tgt := 37) hx hb nd_Board_giveBackLast_8 (by decide) (fun c_3 => ?_) (fun c_3 => ?_)
  · have c_3t := cr_eq c_3
    rw [if_pos c_3] at hM
    exact W.vret hx hb hr (fun t ht hW => ⟨⟨bd, rfl, ⟨by rw [hT, ← hM], hR_bd⟩, by rw [ht]; exact hP, va_K.moved hW.alike hK, hD⟩, hS.F ht⟩) hS.2.2 nd_Board_giveBackLast_37
  · have c_3t := cr_ne c_3
    rw [if_neg c_3] at hM
    refine lv_aload_n hx hb nd_Board_giveBackLast_11 rfl (lv_at hl 1 rfl) ?_
    refine va_get (D := (dC, dI)) (ci := 1) (v := .ref (abd 3)) (C := "CeilingRows$Board") (T := nf_Board) (N := 7) hx hb hts nin_Board hown hK hP 17 rfl rfl 4 (by decide) (hts _ tw_73) (fun _ h9 => h9) rfl nd_Board_giveBackLast_12 ?_
    refine lv_iload_n hx hb nd_Board_giveBackLast_15 rfl (lv_at hl 2 rfl) ?_
    refine lv_aload_n hx hb nd_Board_giveBackLast_16 rfl (lv_at hl 1 rfl) ?_
    refine va_get (D := (dC, dI)) (ci := 1) (v := .ref (abd 5)) (C := "CeilingRows$Board") (T := nf_Board) (N := 7) hx hb hts nin_Board hown hK hP 17 rfl rfl 6 (by decide) (hts _ tw_78) (fun _ h9 => h9) rfl nd_Board_giveBackLast_17 ?_
    refine lv_iload_n hx hb nd_Board_giveBackLast_20 rfl (lv_at hl 0 rfl) ?_
    have b_4 : vp_in (bd 3 x1.toNatClampNeg) 9 := vp_in_iff.mpr (by omega)
    refine va_iald hx hb hK hP 22 0 rfl rfl b_4 nd_Board_giveBackLast_21 ?_
    have f_5 := cr_rgo hR_bd.2 ((bd 3 x1.toNatClampNeg).toNatClampNeg)
    have b_6 : vp_in x1 11 := vp_in_iff.mpr (by omega)
    refine va_iast hx hb hK hP hD hS 20 0 rfl rfl b_6 nd_Board_giveBackLast_22 (fun H locs hP hD hS => ?_)
    have hP : va_P (dC, dI) vwCl (cw_Plan cI cZ cO apl pl ++ cw_Board cI cZ cO abd apl (cr_up bd 3 x1.toNatClampNeg (bd 5 (bd 3 x1.toNatClampNeg).toNatClampNeg))) H := hP
    have hD : va_D A (cw_Plan cI cZ cO apl pl ++ cw_Board cI cZ cO abd apl (cr_up bd 3 x1.toNatClampNeg (bd 5 (bd 3 x1.toNatClampNeg).toNatClampNeg))) := hD
    have hR_7 : cr_RBoard (cr_up bd 3 x1.toNatClampNeg (bd 5 (bd 3 x1.toNatClampNeg).toNatClampNeg)) := ⟨cr_rg_up hR_bd.1 (fun _ => by omega), cr_rg_up hR_bd.2 (fun e => absurd e (by decide))⟩
    obtain ⟨bdq_8, hbdq_8⟩ : ∃ z, (cr_up bd 3 x1.toNatClampNeg (bd 5 (bd 3 x1.toNatClampNeg).toNatClampNeg)) = z := ⟨_, rfl⟩
    rw [hbdq_8] at hP hD hR_7
    try rw [hbdq_8] at hM
    refine lv_aload_n hx hb nd_Board_giveBackLast_23 rfl (lv_at hl 1 rfl) ?_
    refine va_get (D := (dC, dI)) (ci := 1) (v := .ref (abd 5)) (C := "CeilingRows$Board") (T := nf_Board) (N := 7) hx hb hts nin_Board hown hK hP 17 rfl rfl 6 (by decide) (hts _ tw_78) (fun _ h9 => h9) rfl nd_Board_giveBackLast_24 ?_
    refine lv_iload_n hx hb nd_Board_giveBackLast_27 rfl (lv_at hl 0 rfl) ?_
    refine lv_iconst (v := 0) hx hb nd_Board_giveBackLast_28 (by decide) ?_
    have b_9 : vp_in (bd 3 x1.toNatClampNeg) 9 := vp_in_iff.mpr (by omega)
    refine va_iast hx hb hK hP hD hS 22 0 rfl rfl b_9 nd_Board_giveBackLast_29 (fun H locs hP hD hS => ?_)
    have hP : va_P (dC, dI) vwCl (cw_Plan cI cZ cO apl pl ++ cw_Board cI cZ cO abd apl (cr_up bdq_8 5 (bd 3 x1.toNatClampNeg).toNatClampNeg (0 : Int32))) H := hP
    have hD : va_D A (cw_Plan cI cZ cO apl pl ++ cw_Board cI cZ cO abd apl (cr_up bdq_8 5 (bd 3 x1.toNatClampNeg).toNatClampNeg (0 : Int32))) := hD
    have hR_10 : cr_RBoard (cr_up bdq_8 5 (bd 3 x1.toNatClampNeg).toNatClampNeg (0 : Int32)) := ⟨cr_rg_up hR_7.1 (fun e => absurd e (by decide)), cr_rg_up hR_7.2 (fun _ => by omega)⟩
    obtain ⟨bdq_11, hbdq_11⟩ : ∃ z, (cr_up bdq_8 5 (bd 3 x1.toNatClampNeg).toNatClampNeg (0 : Int32)) = z := ⟨_, rfl⟩
    rw [hbdq_11] at hP hD hR_10
    try rw [hbdq_11] at hM
    refine lv_aload_n hx hb nd_Board_giveBackLast_30 rfl (lv_at hl 1 rfl) ?_
    refine va_get (D := (dC, dI)) (ci := 1) (v := .ref (abd 4)) (C := "CeilingRows$Board") (T := nf_Board) (N := 7) hx hb hts nin_Board hown hK hP 17 rfl rfl 5 (by decide) (hts _ tw_75) (fun _ h9 => h9) rfl nd_Board_giveBackLast_31 ?_
    refine lv_iload_n hx hb nd_Board_giveBackLast_34 rfl (lv_at hl 0 rfl) ?_
    refine lv_iconst (v := 0) hx hb nd_Board_giveBackLast_35 (by decide) ?_
    have b_12 : vp_in (bd 3 x1.toNatClampNeg) 9 := vp_in_iff.mpr (by omega)
    refine va_iast hx hb hK hP hD hS 21 0 rfl rfl b_12 nd_Board_giveBackLast_36 (fun H locs hP hD hS => ?_)
    have hP : va_P (dC, dI) vwCl (cw_Plan cI cZ cO apl pl ++ cw_Board cI cZ cO abd apl (cr_up bdq_11 4 (bd 3 x1.toNatClampNeg).toNatClampNeg (0 : Int32))) H := hP
    have hD : va_D A (cw_Plan cI cZ cO apl pl ++ cw_Board cI cZ cO abd apl (cr_up bdq_11 4 (bd 3 x1.toNatClampNeg).toNatClampNeg (0 : Int32))) := hD
    have hR_13 : cr_RBoard (cr_up bdq_11 4 (bd 3 x1.toNatClampNeg).toNatClampNeg (0 : Int32)) := ⟨cr_rg_up hR_10.1 (fun e => absurd e (by decide)), cr_rg_up hR_10.2 (fun e => absurd e (by decide))⟩
    obtain ⟨bdq_14, hbdq_14⟩ : ∃ z, (cr_up bdq_11 4 (bd 3 x1.toNatClampNeg).toNatClampNeg (0 : Int32)) = z := ⟨_, rfl⟩
    rw [hbdq_14] at hP hD hR_13
    try rw [hbdq_14] at hM
    exact W.vret hx hb hr (fun t ht hW => ⟨⟨bdq_14, rfl, ⟨by rw [hT, ← hM], hR_13⟩, by rw [ht]; exact hP, va_K.moved hW.alike hK, hD⟩, hS.F ht⟩) hS.2.2 nd_Board_giveBackLast_37

theorem nd_Board_putToSleep_0 : decode prog_2_method_10_code 0 = .ok (.iconst 0, 1) := by decide +kernel
theorem nd_Board_putToSleep_1 : decode prog_2_method_10_code 1 = .ok (.istore_n 2, 1) := by decide +kernel
theorem nd_Board_putToSleep_2 : decode prog_2_method_10_code 2 = .ok (.iload_n 2, 1) := by decide +kernel
theorem nd_Board_putToSleep_3 : decode prog_2_method_10_code 3 = .ok (.bipush 8, 2) := by decide +kernel
theorem nd_Board_putToSleep_5 : decode prog_2_method_10_code 5 = .ok (.if_icmp .ge (22), 3) := by decide +kernel
theorem nd_Board_putToSleep_8 : decode prog_2_method_10_code 8 = .ok (.aload_n 0, 1) := by decide +kernel
theorem nd_Board_putToSleep_9 : decode prog_2_method_10_code 9 = .ok (.iload_n 1, 1) := by decide +kernel
theorem nd_Board_putToSleep_10 : decode prog_2_method_10_code 10 = .ok (.invokevirtual 68, 3) := by decide +kernel
theorem nd_Board_putToSleep_13 : decode prog_2_method_10_code 13 = .ok (.ifCond .eq (14), 3) := by decide +kernel
theorem nd_Board_putToSleep_16 : decode prog_2_method_10_code 16 = .ok (.aload_n 0, 1) := by decide +kernel
theorem nd_Board_putToSleep_17 : decode prog_2_method_10_code 17 = .ok (.iload_n 1, 1) := by decide +kernel
theorem nd_Board_putToSleep_18 : decode prog_2_method_10_code 18 = .ok (.invokevirtual 72, 3) := by decide +kernel
theorem nd_Board_putToSleep_21 : decode prog_2_method_10_code 21 = .ok (.iinc 2 1, 3) := by decide +kernel
theorem nd_Board_putToSleep_24 : decode prog_2_method_10_code 24 = .ok (.goto (-22), 3) := by decide +kernel
theorem nd_Board_putToSleep_27 : decode prog_2_method_10_code 27 = .ok (.aload_n 0, 1) := by decide +kernel
theorem nd_Board_putToSleep_28 : decode prog_2_method_10_code 28 = .ok (.getfield 9, 3) := by decide +kernel
theorem nd_Board_putToSleep_31 : decode prog_2_method_10_code 31 = .ok (.iload_n 1, 1) := by decide +kernel
theorem nd_Board_putToSleep_32 : decode prog_2_method_10_code 32 = .ok (.iconst 0, 1) := by decide +kernel
theorem nd_Board_putToSleep_33 : decode prog_2_method_10_code 33 = .ok (.iastore, 1) := by decide +kernel
theorem nd_Board_putToSleep_34 : decode prog_2_method_10_code 34 = .ok (.return_, 1) := by decide +kernel
def lo_Board_putToSleep_2 (pl : cr_S) (x1 : Int32) : Nat → cr_S → Int32 → cr_S
  | 0, bd_2, _ => bd_2
  | n_2 + 1, bd_2, v2_2 =>
    (if (8 : Int32) ≤ v2_2 then (cr_up bd_2 1 x1.toNatClampNeg (0 : Int32)) else (if (md_Board_holdsAny pl bd_2 x1) = 0 then (cr_up bd_2 1 x1.toNatClampNeg (0 : Int32)) else (lo_Board_putToSleep_2 pl x1 n_2 (md_Board_giveBackLast pl bd_2 x1) (v2_2 + (1 : Int32)))))
def md_Board_putToSleep (pl : cr_S) (bd : cr_S) (x1 : Int32) : cr_S :=
  (lo_Board_putToSleep_2 pl x1 9 bd (0 : Int32))
abbrev pq_Board_putToSleep (dC : Nat → ClassId) (dI : Nat → Nat → Nat) (cI cZ cO : ClassId) (apl abd : Nat → Nat) (pl : cr_S) (bd : cr_S) (x1 : Int32) (A : Nat → Prop) : Array Value → State → Outcome → State → Prop :=
  va_Qv (fun (bd' : cr_S) => bd' = md_Board_putToSleep pl bd x1 ∧ cr_RBoard bd') (fun (bd' : cr_S) t => va_P (dC, dI) vwCl (cw_Plan cI cZ cO apl pl ++ cw_Board cI cZ cO abd apl bd') t.heap ∧ va_K (dC, dI) vwCl [(cI, .int), (cZ, .boolean), (cO, .array .int)] t ∧ va_D A (cw_Plan cI cZ cO apl pl ++ cw_Board cI cZ cO abd apl bd')) A
set_option maxHeartbeats 4000000 in
set_option maxRecDepth 100000 in
theorem ct_Board_putToSleep (l : Launch) (dC : Nat → ClassId) (dI : Nat → Nat → Nat) (cI cZ cO : ClassId) (apl abd : Nat → Nat) (sz : Nat) (pl : cr_S) (bd : cr_S) (x1 : Int32) (hR_bd : cr_RBoard bd) (hR_pl : cr_RPlan pl) (hx1 : 0 ≤ x1.toInt ∧ x1.toInt ≤ 10) : Met l ny_Board_putToSleep nw_Board_putToSleep ({ frames := 1, cells := 0, slots := 0, locals := 22 } : Room) (va_Pc [.ref (abd 0), .int x1] (fun U => U.heap.size = sz ∧ va_P (dC, dI) vwCl (cw_Plan cI cZ cO apl pl ++ cw_Board cI cZ cO abd apl bd) U.heap ∧ va_K (dC, dI) vwCl [(cI, .int), (cZ, .boolean), (cO, .array .int)] U ∧ va_D (fun _ => True) (cw_Plan cI cZ cO apl pl ++ cw_Board cI cZ cO abd apl bd))) (pq_Board_putToSleep dC dI cI cZ cO apl abd pl bd x1 (va_A (cw_Plan cI cZ cO apl pl ++ cw_Board cI cZ cO abd apl bd) sz)) 0 0 (va_A (cw_Plan cI cZ cO apl pl ++ cw_Board cI cZ cO abd apl bd) sz) := by
  refine Met.ofW (cc := prog_2_method_10_code) (maxL := 3) (ret := none) (by decide) rfl ?_
  intro p e s m args below meth c s₁ B hml hv
  obtain ⟨rfl, hsz, hP, hK, hD0⟩ := hv
  have hx := B.exec
  have hb := B.bytes
  have hr := B.returns
  have hts0 := atoms_spec (ws := nw_Board_putToSleep) B.pre
  have hts : ∀ w ∈ ng_tbl, w.before ([.ref (abd 0), .int x1] : List Value).toArray s = true := fun w h => hts0 w (List.mem_cons_of_mem _ h)
  have hown : s.vm.findClass "CeilingRows$Board" = some m.cls := findClass_of_methodNamed B.named
  have hlocks := B.notSynchronized
  subst hsz
  have hD := hD0.self (sz := s.heap.size)
  generalize hAe : va_A (cw_Plan cI cZ cO apl pl ++ cw_Board cI cZ cO abd apl bd) s.heap.size = A at hD ⊢
  have hA : ∀ q : Nat, s.heap.size ≤ q → A q := fun q h => by rw [← hAe]; exact Or.inr h
  have hS : va_S A s.heap s.heap [] := va_S.rf
  have hP : va_P (dC, dI) vwCl (cw_Plan cI cZ cO apl pl ++ cw_Board cI cZ cO abd apl bd) s.heap := hP
  have hl := lv_entry ([.ref (abd 0), .int x1]) (n := 3) (Nat.le_of_ble_eq_true rfl)
  rw [lg_entry_eq]
  generalize (lg_sl ([.ref (abd 0), .int x1]) ++ List.replicate (3 - (lg_sl ([.ref (abd 0), .int x1])).length) Slot.unset).toArray = ls at hl ⊢
  have hl : lv_has ls 3 [(0, .ref (abd 0)), (1, .int x1)] := hl
  have k_0 : (0 : Int32).toInt = 0 := by decide
  have k_1 : (1 : Int32).toInt = 1 := by decide
  have k_8 : (8 : Int32).toInt = 8 := by decide
  obtain ⟨tgt, hT⟩ : ∃ z, md_Board_putToSleep pl bd x1 = z := ⟨_, rfl⟩
  have hM := hT
  unfold md_Board_putToSleep at hM
  refine lv_iconst (v := 0) hx hb nd_Board_putToSleep_0 (by decide) ?_
  refine lv_istore_n (lv' := [(2, .int (0 : Int32)), (0, .ref (abd 0)), (1, .int x1)]) hx hb nd_Board_putToSleep_1 rfl hl (by decide) rfl (fun ls hl => ?_)
  have hl := lv_sub hl [1, 2, 0] rfl
  have lp_2 : ∀ (n_2 : Nat) (bd_2 : cr_S) (v2_2 : Int32), (cr_RBoard bd_2) → (0 ≤ v2_2.toInt ∧ v2_2.toInt ≤ 8) → (8 < v2_2.toInt + (n_2 : Int)) → lo_Board_putToSleep_2 pl x1 n_2 bd_2 v2_2 = tgt → ∀ (H : Heap) (locs : List Loc), va_P (dC, dI) vwCl (cw_Plan cI cZ cO apl pl ++ cw_Board cI cZ cO abd apl bd_2) H → va_D A (cw_Plan cI cZ cO apl pl ++ cw_Board cI cZ cO abd apl bd_2) → va_S A s.heap H locs → ∀ ls : Array Slot, lv_has ls 3 [(0, .ref (abd 0)), (1, .int x1), (2, .int v2_2)] → W p l e (headSpec nw_Board_putToSleep ({ frames := 1, cells := 0, slots := 0, locals := 22 } : Room)).room s m ([.ref (abd 0), .int x1] : List Value).toArray below meth c H locs 0 0 (MQ below (pq_Board_putToSleep dC dI cI cZ cO apl abd pl bd x1 A) ([.ref (abd 0), .int x1] : List Value).toArray s 0 0 A) (F0 m 2 ls []) := by
    intro n_2
    induction n_2 with
    | zero =>
      intro bd_2 v2_2 hR_bd_2 hv2_2 hn_2
      exfalso; omega
    | succ n_2 ih_2 =>
      intro bd_2 v2_2 hR_bd_2 hv2_2 hn_2 hM H locs hP hD hS ls hl
      have hn_2 : 8 < v2_2.toInt + ((n_2 : Int) + 1) := by omega
      rw [lo_Board_putToSleep_2] at hM
      refine lv_iload_n hx hb nd_Board_putToSleep_2 rfl (lv_at hl 2 rfl) ?_
      refine lv_bipush (v := 8) hx hb nd_Board_putToSleep_3 (by decide) ?_
      refine lv_icmp_ge (tgt := 27) hx hb nd_Board_putToSleep_5 (by decide) (fun c_1 => ?_) (fun c_1 => ?_)
      · have c_1t := cr_le c_1
        rw [if_pos c_1] at hM
        refine lv_aload_n hx hb nd_Board_putToSleep_27 rfl (lv_at hl 0 rfl) ?_
        refine va_get (D := (dC, dI)) (ci := 1) (v := .ref (abd 1)) (C := "CeilingRows$Board") (T := nf_Board) (N := 7) hx hb hts nin_Board hown hK hP 17 rfl rfl 1 (by decide) (hts _ tw_68) (fun _ h9 => h9) rfl nd_Board_putToSleep_28 ?_
        refine lv_iload_n hx hb nd_Board_putToSleep_31 rfl (lv_at hl 1 rfl) ?_
        refine lv_iconst (v := 0) hx hb nd_Board_putToSleep_32 (by decide) ?_
        have b_2 : vp_in x1 11 := vp_in_iff.mpr (by omega)
        refine va_iast hx hb hK hP hD hS 18 0 rfl rfl b_2 nd_Board_putToSleep_33 (fun H locs hP hD hS => ?_)
        have hP : va_P (dC, dI) vwCl (cw_Plan cI cZ cO apl pl ++ cw_Board cI cZ cO abd apl (cr_up bd_2 1 x1.toNatClampNeg (0 : Int32))) H := hP
        have hD : va_D A (cw_Plan cI cZ cO apl pl ++ cw_Board cI cZ cO abd apl (cr_up bd_2 1 x1.toNatClampNeg (0 : Int32))) := hD
        have hR_3 : cr_RBoard (cr_up bd_2 1 x1.toNatClampNeg (0 : Int32)) := ⟨cr_rg_up hR_bd_2.1 (fun e => absurd e (by decide)), cr_rg_up hR_bd_2.2 (fun e => absurd e (by decide))⟩
        obtain ⟨bdq_4, hbdq_4⟩ : ∃ z, (cr_up bd_2 1 x1.toNatClampNeg (0 : Int32)) = z := ⟨_, rfl⟩
        rw [hbdq_4] at hP hD hR_3
        try rw [hbdq_4] at hM
        exact W.vret hx hb hr (fun t ht hW => ⟨⟨bdq_4, rfl, ⟨by rw [hT, ← hM], hR_3⟩, by rw [ht]; exact hP, va_K.moved hW.alike hK, hD⟩, hS.F ht⟩) hS.2.2 nd_Board_putToSleep_34
      · have c_1t := cr_nle c_1
        rw [if_neg c_1] at hM
        refine lv_aload_n hx hb nd_Board_putToSleep_8 rfl (lv_at hl 0 rfl) ?_
        refine lv_iload_n hx hb nd_Board_putToSleep_9 rfl (lv_at hl 1 rfl) ?_
        have hPc := hP
        have hDc := hD
        have hFc := va_free (wc := cw_Plan cI cZ cO apl pl ++ cw_Board cI cZ cO abd apl bd_2) hD hS hA [0, 1, 2, 3, 4, 5, 6, 7, 8, 9, 10, 11, 12, 13, 14, 15, 16, 17, 18, 19, 20, 21, 22] rfl
        refine va_calli (va_runV (As := [.int x1]) (rest := []) ⟨hx, hb, hml, hown, hts⟩ (ct_Board_holdsAny l dC dI cI cZ cO apl abd H.size pl bd_2 x1 hR_bd_2 hR_pl (by omega)) (cwV 1 hts (ng_V tw_279 tw_272 tw_273 tw_3 tw_274) rfl rfl rfl (by decide +kernel) ⟨Nat.le_of_ble_eq_true rfl, Nat.le_of_ble_eq_true rfl⟩) ⟨fun a U g mk q => by obtain ⟨q0, q1, qP, qK, qD⟩ := q; exact ⟨q0, q1, qP, va_K.moved (u := U) (U := U.calling g mk a) (Vm.Alike.refl U.vm) qK, qD⟩, va_recv hK hPc (ci := 1) (q0 := 17) rfl rfl, fun U hU hW => ⟨rfl, by rw [hU], by rw [hU]; exact hPc, va_K.moved hW.alike hK, hDc.weaken (fun _ _ _ _ => trivial)⟩⟩ rfl rfl hl.1 rfl (lv_room (Nat.le_of_ble_eq_true rfl)) nd_Board_putToSleep_10 ⟨Nat.zero_le _, Nat.zero_le _⟩) hS (fun q _ h => hFc q h) hFc (fun r_5 u t H1 locs ht hvm hw hB hz1 hk1 hS => ?_)
        obtain ⟨hP1, hK1, hD1⟩ := hB
        rw [ht] at hP1
        have w_6 := hw
        try rw [← w_6] at hM
        have hP := hP1
        have hD := cr_Dw hD1 hFc
        generalize H1 = H at hP hS ⊢
        refine lv_if_eq (tgt := 27) hx hb nd_Board_putToSleep_13 (by decide) (fun c_7 => ?_) (fun c_7 => ?_)
        · have c_7t := cr_eq c_7
          rw [if_pos c_7] at hM
          refine lv_aload_n hx hb nd_Board_putToSleep_27 rfl (lv_at hl 0 rfl) ?_
          refine va_get (D := (dC, dI)) (ci := 1) (v := .ref (abd 1)) (C := "CeilingRows$Board") (T := nf_Board) (N := 7) hx hb hts nin_Board hown hK hP 17 rfl rfl 1 (by decide) (hts _ tw_68) (fun _ h9 => h9) rfl nd_Board_putToSleep_28 ?_
          refine lv_iload_n hx hb nd_Board_putToSleep_31 rfl (lv_at hl 1 rfl) ?_
          refine lv_iconst (v := 0) hx hb nd_Board_putToSleep_32 (by decide) ?_
          have b_8 : vp_in x1 11 := vp_in_iff.mpr (by omega)
          refine va_iast hx hb hK hP hD hS 18 0 rfl rfl b_8 nd_Board_putToSleep_33 (fun H locs hP hD hS => ?_)
          have hP : va_P (dC, dI) vwCl (cw_Plan cI cZ cO apl pl ++ cw_Board cI cZ cO abd apl (cr_up bd_2 1 x1.toNatClampNeg (0 : Int32))) H := hP
          have hD : va_D A (cw_Plan cI cZ cO apl pl ++ cw_Board cI cZ cO abd apl (cr_up bd_2 1 x1.toNatClampNeg (0 : Int32))) := hD
          have hR_9 : cr_RBoard (cr_up bd_2 1 x1.toNatClampNeg (0 : Int32)) := ⟨cr_rg_up hR_bd_2.1 (fun e => absurd e (by decide)), cr_rg_up hR_bd_2.2 (fun e => absurd e (by decide))⟩
          obtain ⟨bdq_10, hbdq_10⟩ : ∃ z, (cr_up bd_2 1 x1.toNatClampNeg (0 : Int32)) = z := ⟨_, rfl⟩
          rw [hbdq_10] at hP hD hR_9
          try rw [hbdq_10] at hM
          exact W.vret hx hb hr (fun t ht hW => ⟨⟨bdq_10, rfl, ⟨by rw [hT, ← hM], hR_9⟩, by rw [ht]; exact hP, va_K.moved hW.alike hK, hD⟩, hS.F ht⟩) hS.2.2 nd_Board_putToSleep_34
        · have c_7t := cr_ne c_7
          rw [if_neg c_7] at hM
          refine lv_aload_n hx hb nd_Board_putToSleep_16 rfl (lv_at hl 0 rfl) ?_
          refine lv_iload_n hx hb nd_Board_putToSleep_17 rfl (lv_at hl 1 rfl) ?_
          have hPc := hP
          have hDc := hD
          have hFc := va_free (wc := cw_Plan cI cZ cO apl pl ++ cw_Board cI cZ cO abd apl bd_2) hD hS hA [0, 1, 2, 3, 4, 5, 6, 7, 8, 9, 10, 11, 12, 13, 14, 15, 16, 17, 18, 19, 20, 21, 22] rfl
          refine va_callv (va_runV (As := [.int x1]) (rest := []) ⟨hx, hb, hml, hown, hts⟩ (ct_Board_giveBackLast l dC dI cI cZ cO apl abd H.size pl bd_2 x1 hR_bd_2 hR_pl (by omega)) (cwV 1 hts (ng_V tw_280 tw_264 tw_265 tw_3 tw_266) rfl rfl rfl (by decide +kernel) ⟨Nat.le_of_ble_eq_true rfl, Nat.le_of_ble_eq_true rfl⟩) ⟨fun a U g mk q => by obtain ⟨q0, q1, qP, qK, qD⟩ := q; exact ⟨q0, q1, qP, va_K.moved (u := U) (U := U.calling g mk a) (Vm.Alike.refl U.vm) qK, qD⟩, va_recv hK hPc (ci := 1) (q0 := 17) rfl rfl, fun U hU hW => ⟨rfl, by rw [hU], by rw [hU]; exact hPc, va_K.moved hW.alike hK, hDc.weaken (fun _ _ _ _ => trivial)⟩⟩ rfl rfl hl.1 rfl (lv_room (Nat.le_of_ble_eq_true rfl)) nd_Board_putToSleep_18 ⟨Nat.zero_le _, Nat.zero_le _⟩) hS (fun q _ h => hFc q h) hFc (fun u t H1 locs ht hvm hw hB hz1 hk1 hS => ?_)
          obtain ⟨hP1, hK1, hD1⟩ := hB
          rw [ht] at hP1
          obtain ⟨bdq_12, rfl⟩ : ∃ z, z = u := ⟨_, rfl⟩
          obtain ⟨w_13, hR_14⟩ := hw
          try rw [← w_13] at hM
          have hP := hP1
          have hD := cr_Dw hD1 hFc
          generalize H1 = H at hP hS ⊢
          have e_15 : (v2_2 + (1 : Int32)).toInt = v2_2.toInt + (1 : Int32).toInt := cr_add (by omega)
          refine lv_iinc (v := (v2_2 + (1 : Int32))) (lv' := [(2, .int (v2_2 + (1 : Int32))), (0, .ref (abd 0)), (1, .int x1)]) hx hb nd_Board_putToSleep_21 hl (k := 2) rfl (by rfl) (by decide) rfl (fun ls hl => ?_)
          refine lv_goto (tgt := 2) hx hb nd_Board_putToSleep_24 (by decide) ?_
          exact ih_2 bdq_12 (v2_2 + (1 : Int32)) hR_14 (by omega) (by omega) hM _ _ hP hD hS _ (lv_sub hl [1, 2, 0] rfl)
  exact lp_2 9 bd (0 : Int32) hR_bd (by omega) (by omega) hM _ _ hP hD hS _ hl
end
section
theorem nd_Locks_spins_0 : decode prog_3_method_2_code 0 = .ok (.aload_n 0, 1) := by decide +kernel
theorem nd_Locks_spins_1 : decode prog_3_method_2_code 1 = .ok (.getfield 15, 3) := by decide +kernel
theorem nd_Locks_spins_4 : decode prog_3_method_2_code 4 = .ok (.iload_n 1, 1) := by decide +kernel
theorem nd_Locks_spins_5 : decode prog_3_method_2_code 5 = .ok (.iaload, 1) := by decide +kernel
theorem nd_Locks_spins_6 : decode prog_3_method_2_code 6 = .ok (.ifCond .eq (7), 3) := by decide +kernel
theorem nd_Locks_spins_9 : decode prog_3_method_2_code 9 = .ok (.iconst 1, 1) := by decide +kernel
theorem nd_Locks_spins_10 : decode prog_3_method_2_code 10 = .ok (.goto (4), 3) := by decide +kernel
theorem nd_Locks_spins_13 : decode prog_3_method_2_code 13 = .ok (.iconst 0, 1) := by decide +kernel
theorem nd_Locks_spins_14 : decode prog_3_method_2_code 14 = .ok (.ireturn, 1) := by decide +kernel
def md_Locks_spins (lk : cr_S) (x1 : Int32) : Int32 :=
  (if (lk 2 x1.toNatClampNeg) = 0 then (0 : Int32) else (1 : Int32))
abbrev pq_Locks_spins (dC : Nat → ClassId) (dI : Nat → Nat → Nat) (cI cZ cO : ClassId) (alk : Nat → Nat) (lk : cr_S) (x1 : Int32) (A : Nat → Prop) : Array Value → State → Outcome → State → Prop :=
  va_Qi (fun (r : Int32) (_ : Unit) => r = md_Locks_spins lk x1) (fun (_ : Unit) t => va_P (dC, dI) vwCl (cw_Locks cI cZ cO alk lk) t.heap ∧ va_K (dC, dI) vwCl [(cI, .int), (cZ, .boolean), (cO, .array .int)] t ∧ va_D A (cw_Locks cI cZ cO alk lk)) A
set_option maxHeartbeats 4000000 in
set_option maxRecDepth 100000 in
theorem ct_Locks_spins (l : Launch) (dC : Nat → ClassId) (dI : Nat → Nat → Nat) (cI cZ cO : ClassId) (alk : Nat → Nat) (sz : Nat) (lk : cr_S) (x1 : Int32) (hR_lk : cr_RLocks lk) (hx1 : 0 ≤ x1.toInt ∧ x1.toInt ≤ 3) : Met l ny_Locks_spins nw_Locks_spins ({ frames := 0, cells := 0, slots := 0, locals := 0 } : Room) (va_Pc [.ref (alk 0), .int x1] (fun U => U.heap.size = sz ∧ va_P (dC, dI) vwCl (cw_Locks cI cZ cO alk lk) U.heap ∧ va_K (dC, dI) vwCl [(cI, .int), (cZ, .boolean), (cO, .array .int)] U ∧ va_D (fun _ => True) (cw_Locks cI cZ cO alk lk))) (pq_Locks_spins dC dI cI cZ cO alk lk x1 (va_A (cw_Locks cI cZ cO alk lk) sz)) 0 0 (va_A (cw_Locks cI cZ cO alk lk) sz) := by
  refine Met.ofW (cc := prog_3_method_2_code) (maxL := 2) (ret := (some .boolean)) (by decide) rfl ?_
  intro p e s m args below meth c s₁ B hml hv
  obtain ⟨rfl, hsz, hP, hK, hD0⟩ := hv
  have hx := B.exec
  have hb := B.bytes
  have hr := B.returns
  have hts0 := atoms_spec (ws := nw_Locks_spins) B.pre
  have hts : ∀ w ∈ ng_tbl, w.before ([.ref (alk 0), .int x1] : List Value).toArray s = true := fun w h => hts0 w (List.mem_cons_of_mem _ h)
  have hown : s.vm.findClass "CeilingRows$Locks" = some m.cls := findClass_of_methodNamed B.named
  have hlocks := B.notSynchronized
  subst hsz
  have hD := hD0.self (sz := s.heap.size)
  generalize hAe : va_A (cw_Locks cI cZ cO alk lk) s.heap.size = A at hD ⊢
  have hA : ∀ q : Nat, s.heap.size ≤ q → A q := fun q h => by rw [← hAe]; exact Or.inr h
  have hS : va_S A s.heap s.heap [] := va_S.rf
  have hP : va_P (dC, dI) vwCl (cw_Locks cI cZ cO alk lk) s.heap := hP
  have hl := lv_entry ([.ref (alk 0), .int x1]) (n := 2) (Nat.le_of_ble_eq_true rfl)
  rw [lg_entry_eq]
  generalize (lg_sl ([.ref (alk 0), .int x1]) ++ List.replicate (2 - (lg_sl ([.ref (alk 0), .int x1])).length) Slot.unset).toArray = ls at hl ⊢
  have hl : lv_has ls 2 [(0, .ref (alk 0)), (1, .int x1)] := hl
  have k_0 : (0 : Int32).toInt = 0 := by decide
  have k_1 : (1 : Int32).toInt = 1 := by decide
  obtain ⟨tgt, hT⟩ : ∃ z, md_Locks_spins lk x1 = z := ⟨_, rfl⟩
  have hM := hT
  unfold md_Locks_spins at hM
  refine lv_aload_n hx hb nd_Locks_spins_0 rfl (lv_at hl 0 rfl) ?_
  refine va_get (D := (dC, dI)) (ci := 2) (v := .ref (alk 2)) (C := "CeilingRows$Locks") (T := nf_Locks) (N := 4) hx hb hts nin_Locks hown hK hP 0 rfl rfl 1 (by decide) (hts _ tw_101) (fun _ h9 => h9) rfl nd_Locks_spins_1 ?_
  refine lv_iload_n hx hb nd_Locks_spins_4 rfl (lv_at hl 1 rfl) ?_
  have b_1 : vp_in x1 4 := vp_in_iff.mpr (by omega)
  refine va_iald hx hb hK hP 2 0 rfl rfl b_1 nd_Locks_spins_5 ?_
  have f_2 := cr_rgo hR_lk.2 (x1.toNatClampNeg)
  refine lv_if_eq (tgt := 13) hx hb nd_Locks_spins_6 (by decide) (fun c_3 => ?_) (fun c_3 => ?_)
  · have c_3t := cr_eq c_3
    rw [if_pos c_3] at hM
    refine lv_iconst (v := 0) hx hb nd_Locks_spins_13 (by decide) ?_
    exact W.zret (v := (0 : Int32)) (ty := .boolean) hx hb hr (by decide) (fun t ht hW => ⟨⟨(0 : Int32), (), rfl, by rw [hT, ← hM], by rw [ht]; exact hP, va_K.moved hW.alike hK, hD⟩, hS.F ht⟩) hS.2.2 nd_Locks_spins_14
  · have c_3t := cr_ne c_3
    rw [if_neg c_3] at hM
    refine lv_iconst (v := 1) hx hb nd_Locks_spins_9 (by decide) ?_
    refine lv_goto (tgt := 14) hx hb nd_Locks_spins_10 (by decide) ?_
    exact W.zret (v := (1 : Int32)) (ty := .boolean) hx hb hr (by decide) (fun t ht hW => ⟨⟨(1 : Int32), (), rfl, by rw [hT, ← hM], by rw [ht]; exact hP, va_K.moved hW.alike hK, hD⟩, hS.F ht⟩) hS.2.2 nd_Locks_spins_14

theorem nd_Locks_lastTakenBy_0 : decode prog_3_method_3_code 0 = .ok (.bipush 8, 2) := by decide +kernel
theorem nd_Locks_lastTakenBy_2 : decode prog_3_method_3_code 2 = .ok (.istore_n 2, 1) := by decide +kernel
theorem nd_Locks_lastTakenBy_3 : decode prog_3_method_3_code 3 = .ok (.iload_n 2, 1) := by decide +kernel
theorem nd_Locks_lastTakenBy_4 : decode prog_3_method_3_code 4 = .ok (.iconst 1, 1) := by decide +kernel
theorem nd_Locks_lastTakenBy_5 : decode prog_3_method_3_code 5 = .ok (.if_icmp .lt (21), 3) := by decide +kernel
theorem nd_Locks_lastTakenBy_8 : decode prog_3_method_3_code 8 = .ok (.aload_n 0, 1) := by decide +kernel
theorem nd_Locks_lastTakenBy_9 : decode prog_3_method_3_code 9 = .ok (.getfield 9, 3) := by decide +kernel
theorem nd_Locks_lastTakenBy_12 : decode prog_3_method_3_code 12 = .ok (.iload_n 2, 1) := by decide +kernel
theorem nd_Locks_lastTakenBy_13 : decode prog_3_method_3_code 13 = .ok (.iaload, 1) := by decide +kernel
theorem nd_Locks_lastTakenBy_14 : decode prog_3_method_3_code 14 = .ok (.iload_n 1, 1) := by decide +kernel
theorem nd_Locks_lastTakenBy_15 : decode prog_3_method_3_code 15 = .ok (.if_icmp .ne (5), 3) := by decide +kernel
theorem nd_Locks_lastTakenBy_18 : decode prog_3_method_3_code 18 = .ok (.iload_n 2, 1) := by decide +kernel
theorem nd_Locks_lastTakenBy_19 : decode prog_3_method_3_code 19 = .ok (.ireturn, 1) := by decide +kernel
theorem nd_Locks_lastTakenBy_20 : decode prog_3_method_3_code 20 = .ok (.iinc 2 (-1), 3) := by decide +kernel
theorem nd_Locks_lastTakenBy_23 : decode prog_3_method_3_code 23 = .ok (.goto (-20), 3) := by decide +kernel
theorem nd_Locks_lastTakenBy_26 : decode prog_3_method_3_code 26 = .ok (.iconst 0, 1) := by decide +kernel
theorem nd_Locks_lastTakenBy_27 : decode prog_3_method_3_code 27 = .ok (.ireturn, 1) := by decide +kernel
def lo_Locks_lastTakenBy_3 (lk : cr_S) (x1 : Int32) : Nat → Int32 → Int32
  | 0, _ => 0
  | n_3 + 1, v2_3 =>
    (if v2_3 < (1 : Int32) then (0 : Int32) else (if (lk 1 v2_3.toNatClampNeg) = x1 then v2_3 else (lo_Locks_lastTakenBy_3 lk x1 n_3 (v2_3 + (-1 : Int32)))))
def md_Locks_lastTakenBy (lk : cr_S) (x1 : Int32) : Int32 :=
  (lo_Locks_lastTakenBy_3 lk x1 9 (8 : Int32))
abbrev pq_Locks_lastTakenBy (dC : Nat → ClassId) (dI : Nat → Nat → Nat) (cI cZ cO : ClassId) (alk : Nat → Nat) (lk : cr_S) (x1 : Int32) (A : Nat → Prop) : Array Value → State → Outcome → State → Prop :=
  va_Qi (fun (r : Int32) (_ : Unit) => r = md_Locks_lastTakenBy lk x1 ∧ (0 ≤ r.toInt ∧ r.toInt ≤ 8)) (fun (_ : Unit) t => va_P (dC, dI) vwCl (cw_Locks cI cZ cO alk lk) t.heap ∧ va_K (dC, dI) vwCl [(cI, .int), (cZ, .boolean), (cO, .array .int)] t ∧ va_D A (cw_Locks cI cZ cO alk lk)) A
set_option maxHeartbeats 4000000 in
set_option maxRecDepth 100000 in
theorem ct_Locks_lastTakenBy (l : Launch) (dC : Nat → ClassId) (dI : Nat → Nat → Nat) (cI cZ cO : ClassId) (alk : Nat → Nat) (sz : Nat) (lk : cr_S) (x1 : Int32) (hR_lk : cr_RLocks lk) : Met l ny_Locks_lastTakenBy nw_Locks_lastTakenBy ({ frames := 0, cells := 0, slots := 0, locals := 0 } : Room) (va_Pc [.ref (alk 0), .int x1] (fun U => U.heap.size = sz ∧ va_P (dC, dI) vwCl (cw_Locks cI cZ cO alk lk) U.heap ∧ va_K (dC, dI) vwCl [(cI, .int), (cZ, .boolean), (cO, .array .int)] U ∧ va_D (fun _ => True) (cw_Locks cI cZ cO alk lk))) (pq_Locks_lastTakenBy dC dI cI cZ cO alk lk x1 (va_A (cw_Locks cI cZ cO alk lk) sz)) 0 0 (va_A (cw_Locks cI cZ cO alk lk) sz) := by
  refine Met.ofW (cc := prog_3_method_3_code) (maxL := 3) (ret := (some .int)) (by decide) rfl ?_
  intro p e s m args below meth c s₁ B hml hv
  obtain ⟨rfl, hsz, hP, hK, hD0⟩ := hv
  have hx := B.exec
  have hb := B.bytes
  have hr := B.returns
  have hts0 := atoms_spec (ws := nw_Locks_lastTakenBy) B.pre
  have hts : ∀ w ∈ ng_tbl, w.before ([.ref (alk 0), .int x1] : List Value).toArray s = true := fun w h => hts0 w (List.mem_cons_of_mem _ h)
  have hown : s.vm.findClass "CeilingRows$Locks" = some m.cls := findClass_of_methodNamed B.named
  have hlocks := B.notSynchronized
  subst hsz
  have hD := hD0.self (sz := s.heap.size)
  generalize hAe : va_A (cw_Locks cI cZ cO alk lk) s.heap.size = A at hD ⊢
  have hA : ∀ q : Nat, s.heap.size ≤ q → A q := fun q h => by rw [← hAe]; exact Or.inr h
  have hS : va_S A s.heap s.heap [] := va_S.rf
  have hP : va_P (dC, dI) vwCl (cw_Locks cI cZ cO alk lk) s.heap := hP
  have hl := lv_entry ([.ref (alk 0), .int x1]) (n := 3) (Nat.le_of_ble_eq_true rfl)
  rw [lg_entry_eq]
  generalize (lg_sl ([.ref (alk 0), .int x1]) ++ List.replicate (3 - (lg_sl ([.ref (alk 0), .int x1])).length) Slot.unset).toArray = ls at hl ⊢
  have hl : lv_has ls 3 [(0, .ref (alk 0)), (1, .int x1)] := hl
  have k_m1 : (-1 : Int32).toInt = -1 := by decide
  have k_0 : (0 : Int32).toInt = 0 := by decide
  have k_1 : (1 : Int32).toInt = 1 := by decide
  have k_8 : (8 : Int32).toInt = 8 := by decide
  obtain ⟨tgt, hT⟩ : ∃ z, md_Locks_lastTakenBy lk x1 = z := ⟨_, rfl⟩
  have hM := hT
  unfold md_Locks_lastTakenBy at hM
  refine lv_bipush (v := 8) hx hb nd_Locks_lastTakenBy_0 (by decide) ?_
  refine lv_istore_n (lv' := [(2, .int (8 : Int32)), (0, .ref (alk 0)), (1, .int x1)]) hx hb nd_Locks_lastTakenBy_2 rfl hl (by decide) rfl (fun ls hl => ?_)
  have hl := lv_sub hl [1, 2, 0] rfl
  have lp_3 : ∀ (n_3 : Nat) (v2_3 : Int32), (0 ≤ v2_3.toInt ∧ v2_3.toInt ≤ 8) → (v2_3.toInt < (n_3 : Int)) → lo_Locks_lastTakenBy_3 lk x1 n_3 v2_3 = tgt → ∀ (H : Heap) (locs : List Loc), va_P (dC, dI) vwCl (cw_Locks cI cZ cO alk lk) H → va_D A (cw_Locks cI cZ cO alk lk) → va_S A s.heap H locs → ∀ ls : Array Slot, lv_has ls 3 [(0, .ref (alk 0)), (1, .int x1), (2, .int v2_3)] → W p l e (headSpec nw_Locks_lastTakenBy ({ frames := 0, cells := 0, slots := 0, locals := 0 } : Room)).room s m ([.ref (alk 0), .int x1] : List Value).toArray below meth c H locs 0 0 (MQ below (pq_Locks_lastTakenBy dC dI cI cZ cO alk lk x1 A) ([.ref (alk 0), .int x1] : List Value).toArray s 0 0 A) (F0 m 3 ls []) := by
    intro n_3
    induction n_3 with
    | zero =>
      intro v2_3 hv2_3 hn_3
      exfalso; omega
    | succ n_3 ih_3 =>
      intro v2_3 hv2_3 hn_3 hM H locs hP hD hS ls hl
      have hn_3 : v2_3.toInt < ((n_3 : Int) + 1) := by omega
      rw [lo_Locks_lastTakenBy_3] at hM
      refine lv_iload_n hx hb nd_Locks_lastTakenBy_3 rfl (lv_at hl 2 rfl) ?_
      refine lv_iconst (v := 1) hx hb nd_Locks_lastTakenBy_4 (by decide) ?_
      refine lv_icmp_lt (tgt := 26) hx hb nd_Locks_lastTakenBy_5 (by decide) (fun c_1 => ?_) (fun c_1 => ?_)
      · have c_1t := cr_lt c_1
        rw [if_pos c_1] at hM
        refine lv_iconst (v := 0) hx hb nd_Locks_lastTakenBy_26 (by decide) ?_
        exact W.iret (v := (0 : Int32)) hx hb hr (fun t ht hW => ⟨⟨(0 : Int32), (), rfl, ⟨by rw [hT, ← hM], by omega⟩, by rw [ht]; exact hP, va_K.moved hW.alike hK, hD⟩, hS.F ht⟩) hS.2.2 nd_Locks_lastTakenBy_27
      · have c_1t := cr_nlt c_1
        rw [if_neg c_1] at hM
        refine lv_aload_n hx hb nd_Locks_lastTakenBy_8 rfl (lv_at hl 0 rfl) ?_
        refine va_get (D := (dC, dI)) (ci := 2) (v := .ref (alk 1)) (C := "CeilingRows$Locks") (T := nf_Locks) (N := 4) hx hb hts nin_Locks hown hK hP 0 rfl rfl 0 (by decide) (hts _ tw_100) (fun _ h9 => h9) rfl nd_Locks_lastTakenBy_9 ?_
        refine lv_iload_n hx hb nd_Locks_lastTakenBy_12 rfl (lv_at hl 2 rfl) ?_
        have b_2 : vp_in v2_3 9 := vp_in_iff.mpr (by omega)
        refine va_iald hx hb hK hP 1 0 rfl rfl b_2 nd_Locks_lastTakenBy_13 ?_
        have f_3 := cr_rgo hR_lk.1 (v2_3.toNatClampNeg)
        refine lv_iload_n hx hb nd_Locks_lastTakenBy_14 rfl (lv_at hl 1 rfl) ?_
        refine lv_icmp_ne (tgt := 20) hx hb nd_Locks_lastTakenBy_15 (by decide) (fun c_4 => ?_) (fun c_4 => ?_)
        · have c_4t := cr_ne c_4
          rw [if_neg c_4] at hM
          have e_5 : (v2_3 + (-1 : Int32)).toInt = v2_3.toInt + (-1 : Int32).toInt := cr_add (by omega)
          refine lv_iinc (v := (v2_3 + (-1 : Int32))) (lv' := [(2, .int (v2_3 + (-1 : Int32))), (0, .ref (alk 0)), (1, .int x1)]) hx hb nd_Locks_lastTakenBy_20 hl (k := 2) rfl (by rfl) (by decide) rfl (fun ls hl => ?_)
          refine lv_goto (tgt := 3) hx hb nd_Locks_lastTakenBy_23 (by decide) ?_
          exact ih_3 (v2_3 + (-1 : Int32)) (by omega) (by omega) hM _ _ hP hD hS _ (lv_sub hl [1, 2, 0] rfl)
        · have c_4t := cr_eq c_4
          rw [if_pos c_4] at hM
          refine lv_iload_n hx hb nd_Locks_lastTakenBy_18 rfl (lv_at hl 2 rfl) ?_
          exact W.iret (v := v2_3) hx hb hr (fun t ht hW => ⟨⟨v2_3, (), rfl, ⟨by rw [hT, ← hM], by omega⟩, by rw [ht]; exact hP, va_K.moved hW.alike hK, hD⟩, hS.F ht⟩) hS.2.2 nd_Locks_lastTakenBy_19
  exact lp_3 9 (8 : Int32) (by omega) (by omega) hM _ _ hP hD hS _ hl

theorem nd_Locks_acquire_0 : decode prog_3_method_4_code 0 = .ok (.iload_n 2, 1) := by decide +kernel
theorem nd_Locks_acquire_1 : decode prog_3_method_4_code 1 = .ok (.aload_n 0, 1) := by decide +kernel
theorem nd_Locks_acquire_2 : decode prog_3_method_4_code 2 = .ok (.iload_n 1, 1) := by decide +kernel
theorem nd_Locks_acquire_3 : decode prog_3_method_4_code 3 = .ok (.invokevirtual 21, 3) := by decide +kernel
theorem nd_Locks_acquire_6 : decode prog_3_method_4_code 6 = .ok (.if_icmp .gt (6), 3) := by decide +kernel
theorem nd_Locks_acquire_9 : decode prog_3_method_4_code 9 = .ok (.bipush (-16), 2) := by decide +kernel
theorem nd_Locks_acquire_11 : decode prog_3_method_4_code 11 = .ok (.ireturn, 1) := by decide +kernel
theorem nd_Locks_acquire_12 : decode prog_3_method_4_code 12 = .ok (.aload_n 0, 1) := by decide +kernel
theorem nd_Locks_acquire_13 : decode prog_3_method_4_code 13 = .ok (.getfield 9, 3) := by decide +kernel
theorem nd_Locks_acquire_16 : decode prog_3_method_4_code 16 = .ok (.iload_n 2, 1) := by decide +kernel
theorem nd_Locks_acquire_17 : decode prog_3_method_4_code 17 = .ok (.iaload, 1) := by decide +kernel
theorem nd_Locks_acquire_18 : decode prog_3_method_4_code 18 = .ok (.ifCond .ne (12), 3) := by decide +kernel
theorem nd_Locks_acquire_21 : decode prog_3_method_4_code 21 = .ok (.aload_n 0, 1) := by decide +kernel
theorem nd_Locks_acquire_22 : decode prog_3_method_4_code 22 = .ok (.getfield 9, 3) := by decide +kernel
theorem nd_Locks_acquire_25 : decode prog_3_method_4_code 25 = .ok (.iload_n 2, 1) := by decide +kernel
theorem nd_Locks_acquire_26 : decode prog_3_method_4_code 26 = .ok (.iload_n 1, 1) := by decide +kernel
theorem nd_Locks_acquire_27 : decode prog_3_method_4_code 27 = .ok (.iastore, 1) := by decide +kernel
theorem nd_Locks_acquire_28 : decode prog_3_method_4_code 28 = .ok (.iconst 1, 1) := by decide +kernel
theorem nd_Locks_acquire_29 : decode prog_3_method_4_code 29 = .ok (.ireturn, 1) := by decide +kernel
theorem nd_Locks_acquire_30 : decode prog_3_method_4_code 30 = .ok (.aload_n 0, 1) := by decide +kernel
theorem nd_Locks_acquire_31 : decode prog_3_method_4_code 31 = .ok (.getfield 15, 3) := by decide +kernel
theorem nd_Locks_acquire_34 : decode prog_3_method_4_code 34 = .ok (.iload_n 1, 1) := by decide +kernel
theorem nd_Locks_acquire_35 : decode prog_3_method_4_code 35 = .ok (.iload_n 2, 1) := by decide +kernel
theorem nd_Locks_acquire_36 : decode prog_3_method_4_code 36 = .ok (.iastore, 1) := by decide +kernel
theorem nd_Locks_acquire_37 : decode prog_3_method_4_code 37 = .ok (.aload_n 0, 1) := by decide +kernel
theorem nd_Locks_acquire_38 : decode prog_3_method_4_code 38 = .ok (.dup, 1) := by decide +kernel
theorem nd_Locks_acquire_39 : decode prog_3_method_4_code 39 = .ok (.getfield 25, 3) := by decide +kernel
theorem nd_Locks_acquire_42 : decode prog_3_method_4_code 42 = .ok (.iconst 1, 1) := by decide +kernel
theorem nd_Locks_acquire_43 : decode prog_3_method_4_code 43 = .ok (.iadd, 1) := by decide +kernel
theorem nd_Locks_acquire_44 : decode prog_3_method_4_code 44 = .ok (.putfield 25, 3) := by decide +kernel
theorem nd_Locks_acquire_47 : decode prog_3_method_4_code 47 = .ok (.aload_n 0, 1) := by decide +kernel
theorem nd_Locks_acquire_48 : decode prog_3_method_4_code 48 = .ok (.getfield 18, 3) := by decide +kernel
theorem nd_Locks_acquire_51 : decode prog_3_method_4_code 51 = .ok (.iload_n 1, 1) := by decide +kernel
theorem nd_Locks_acquire_52 : decode prog_3_method_4_code 52 = .ok (.aload_n 0, 1) := by decide +kernel
theorem nd_Locks_acquire_53 : decode prog_3_method_4_code 53 = .ok (.getfield 25, 3) := by decide +kernel
theorem nd_Locks_acquire_56 : decode prog_3_method_4_code 56 = .ok (.iastore, 1) := by decide +kernel
theorem nd_Locks_acquire_57 : decode prog_3_method_4_code 57 = .ok (.iconst 0, 1) := by decide +kernel
theorem nd_Locks_acquire_58 : decode prog_3_method_4_code 58 = .ok (.ireturn, 1) := by decide +kernel
def md_Locks_acquire (lk : cr_S) (x1 : Int32) (x2 : Int32) : Int32 × cr_S :=
  (if (md_Locks_lastTakenBy lk x1) < x2 then (if (lk 1 x2.toNatClampNeg) = 0 then ((1 : Int32), (cr_up lk 1 x2.toNatClampNeg x1)) else ((0 : Int32), (cr_up (cr_up (cr_up lk 2 x1.toNatClampNeg x2) 0 0 (((cr_up lk 2 x1.toNatClampNeg x2) 0 0) + (1 : Int32))) 3 x1.toNatClampNeg ((cr_up (cr_up lk 2 x1.toNatClampNeg x2) 0 0 (((cr_up lk 2 x1.toNatClampNeg x2) 0 0) + (1 : Int32))) 0 0)))) else ((-16 : Int32), lk))
abbrev pq_Locks_acquire (dC : Nat → ClassId) (dI : Nat → Nat → Nat) (cI cZ cO : ClassId) (alk : Nat → Nat) (lk : cr_S) (x1 : Int32) (x2 : Int32) (A : Nat → Prop) : Array Value → State → Outcome → State → Prop :=
  va_Qi (fun (r : Int32) (lk' : cr_S) => r = (md_Locks_acquire lk x1 x2).1 ∧ lk' = (md_Locks_acquire lk x1 x2).2 ∧ cr_RLocks lk') (fun (lk' : cr_S) t => va_P (dC, dI) vwCl (cw_Locks cI cZ cO alk lk') t.heap ∧ va_K (dC, dI) vwCl [(cI, .int), (cZ, .boolean), (cO, .array .int)] t ∧ va_D A (cw_Locks cI cZ cO alk lk')) A
set_option maxHeartbeats 4000000 in
set_option maxRecDepth 100000 in
theorem ct_Locks_acquire (l : Launch) (dC : Nat → ClassId) (dI : Nat → Nat → Nat) (cI cZ cO : ClassId) (alk : Nat → Nat) (sz : Nat) (lk : cr_S) (x1 : Int32) (x2 : Int32) (hR_lk : cr_RLocks lk) (hx1 : 1 ≤ x1.toInt ∧ x1.toInt ≤ 3) (hx2 : 1 ≤ x2.toInt ∧ x2.toInt ≤ 8) : Met l ny_Locks_acquire nw_Locks_acquire ({ frames := 1, cells := 0, slots := 0, locals := 22 } : Room) (va_Pc [.ref (alk 0), .int x1, .int x2] (fun U => U.heap.size = sz ∧ va_P (dC, dI) vwCl (cw_Locks cI cZ cO alk lk) U.heap ∧ va_K (dC, dI) vwCl [(cI, .int), (cZ, .boolean), (cO, .array .int)] U ∧ va_D (fun _ => True) (cw_Locks cI cZ cO alk lk))) (pq_Locks_acquire dC dI cI cZ cO alk lk x1 x2 (va_A (cw_Locks cI cZ cO alk lk) sz)) 0 0 (va_A (cw_Locks cI cZ cO alk lk) sz) := by
  refine Met.ofW (cc := prog_3_method_4_code) (maxL := 3) (ret := (some .int)) (by decide) rfl ?_
  intro p e s m args below meth c s₁ B hml hv
  obtain ⟨rfl, hsz, hP, hK, hD0⟩ := hv
  have hx := B.exec
  have hb := B.bytes
  have hr := B.returns
  have hts0 := atoms_spec (ws := nw_Locks_acquire) B.pre
  have hts : ∀ w ∈ ng_tbl, w.before ([.ref (alk 0), .int x1, .int x2] : List Value).toArray s = true := fun w h => hts0 w (List.mem_cons_of_mem _ h)
  have hown : s.vm.findClass "CeilingRows$Locks" = some m.cls := findClass_of_methodNamed B.named
  have hlocks := B.notSynchronized
  subst hsz
  have hD := hD0.self (sz := s.heap.size)
  generalize hAe : va_A (cw_Locks cI cZ cO alk lk) s.heap.size = A at hD ⊢
  have hA : ∀ q : Nat, s.heap.size ≤ q → A q := fun q h => by rw [← hAe]; exact Or.inr h
  have hS : va_S A s.heap s.heap [] := va_S.rf
  have hP : va_P (dC, dI) vwCl (cw_Locks cI cZ cO alk lk) s.heap := hP
  have hl := lv_entry ([.ref (alk 0), .int x1, .int x2]) (n := 3) (Nat.le_of_ble_eq_true rfl)
  rw [lg_entry_eq]
  generalize (lg_sl ([.ref (alk 0), .int x1, .int x2]) ++ List.replicate (3 - (lg_sl ([.ref (alk 0), .int x1, .int x2])).length) Slot.unset).toArray = ls at hl ⊢
  have hl : lv_has ls 3 [(0, .ref (alk 0)), (1, .int x1), (2, .int x2)] := hl
  have k_m16 : (-16 : Int32).toInt = -16 := by decide
  have k_0 : (0 : Int32).toInt = 0 := by decide
  have k_1 : (1 : Int32).toInt = 1 := by decide
  obtain ⟨tgt, hT⟩ : ∃ z, md_Locks_acquire lk x1 x2 = z := ⟨_, rfl⟩
  have hM := hT
  unfold md_Locks_acquire at hM
  refine lv_iload_n hx hb nd_Locks_acquire_0 rfl (lv_at hl 2 rfl) ?_
  refine lv_aload_n hx hb nd_Locks_acquire_1 rfl (lv_at hl 0 rfl) ?_
  refine lv_iload_n hx hb nd_Locks_acquire_2 rfl (lv_at hl 1 rfl) ?_
  have hPc := hP
  have hDc := hD
  have hFc := va_free (wc := cw_Locks cI cZ cO alk lk) hD hS hA [0, 1, 2, 3] rfl
  refine va_calli (va_runV (As := [.int x1]) (rest := [.int x2]) ⟨hx, hb, hml, hown, hts⟩ (ct_Locks_lastTakenBy l dC dI cI cZ cO alk s.heap.size lk x1 hR_lk) (cwV 1 hts (ng_V tw_316 tw_318 tp_8 tw_4 tw_319) rfl rfl rfl (by decide +kernel) ⟨Nat.le_of_ble_eq_true rfl, Nat.le_of_ble_eq_true rfl⟩) ⟨fun a U g mk q => by obtain ⟨q0, q1, qP, qK, qD⟩ := q; exact ⟨q0, q1, qP, va_K.moved (u := U) (U := U.calling g mk a) (Vm.Alike.refl U.vm) qK, qD⟩, va_recv hK hPc (ci := 2) (q0 := 0) rfl rfl, fun U hU hW => ⟨rfl, by rw [hU], by rw [hU]; exact hPc, va_K.moved hW.alike hK, hDc.weaken (fun _ _ _ _ => trivial)⟩⟩ rfl rfl hl.1 rfl (lv_room (Nat.le_of_ble_eq_true rfl)) nd_Locks_acquire_3 ⟨Nat.zero_le _, Nat.zero_le _⟩) hS (fun q _ h => hFc q h) hFc (fun r_1 u t H1 locs ht hvm hw hB hz1 hk1 hS => ?_)
  obtain ⟨hP1, hK1, hD1⟩ := hB
  rw [ht] at hP1
  obtain ⟨w_2, f_3⟩ := hw
  try rw [← w_2] at hM
  have hP := hP1
  have hD := cr_Dw hD1 hFc
  generalize H1 = H at hP hS ⊢
  refine lv_icmp_gt (tgt := 12) hx hb nd_Locks_acquire_6 (by decide) (fun c_4 => ?_) (fun c_4 => ?_)
  · have c_4t := cr_lt c_4
    rw [if_pos c_4] at hM
    refine lv_aload_n hx hb nd_Locks_acquire_12 rfl (lv_at hl 0 rfl) ?_
    refine va_get (D := (dC, dI)) (ci := 2) (v := .ref (alk 1)) (C := "CeilingRows$Locks") (T := nf_Locks) (N := 4) hx hb hts nin_Locks hown hK hP 0 rfl rfl 0 (by decide) (hts _ tw_100) (fun _ h9 => h9) rfl nd_Locks_acquire_13 ?_
    refine lv_iload_n hx hb nd_Locks_acquire_16 rfl (lv_at hl 2 rfl) ?_
    have b_5 : vp_in x2 9 := vp_in_iff.mpr (by omega)
    refine va_iald hx hb hK hP 1 0 rfl rfl b_5 nd_Locks_acquire_17 ?_
    have f_6 := cr_rgo hR_lk.1 (x2.toNatClampNeg)
    refine lv_if_ne (tgt := 30) hx hb nd_Locks_acquire_18 (by decide) (fun c_7 => ?_) (fun c_7 => ?_)
    · have c_7t := cr_ne c_7
      rw [if_neg c_7] at hM
      refine lv_aload_n hx hb nd_Locks_acquire_30 rfl (lv_at hl 0 rfl) ?_
      refine va_get (D := (dC, dI)) (ci := 2) (v := .ref (alk 2)) (C := "CeilingRows$Locks") (T := nf_Locks) (N := 4) hx hb hts nin_Locks hown hK hP 0 rfl rfl 1 (by decide) (hts _ tw_101) (fun _ h9 => h9) rfl nd_Locks_acquire_31 ?_
      refine lv_iload_n hx hb nd_Locks_acquire_34 rfl (lv_at hl 1 rfl) ?_
      refine lv_iload_n hx hb nd_Locks_acquire_35 rfl (lv_at hl 2 rfl) ?_
      have b_8 : vp_in x1 4 := vp_in_iff.mpr (by omega)
      refine va_iast hx hb hK hP hD hS 2 0 rfl rfl b_8 nd_Locks_acquire_36 (fun H locs hP hD hS => ?_)
      have hP : va_P (dC, dI) vwCl (cw_Locks cI cZ cO alk (cr_up lk 2 x1.toNatClampNeg x2)) H := hP
      have hD : va_D A (cw_Locks cI cZ cO alk (cr_up lk 2 x1.toNatClampNeg x2)) := hD
      have hR_9 : cr_RLocks (cr_up lk 2 x1.toNatClampNeg x2) := ⟨cr_rg_up hR_lk.1 (fun e => absurd e (by decide)), cr_rg_up hR_lk.2 (fun _ => by omega)⟩
      obtain ⟨lkq_10, hlkq_10⟩ : ∃ z, (cr_up lk 2 x1.toNatClampNeg x2) = z := ⟨_, rfl⟩
      rw [hlkq_10] at hP hD hR_9
      try rw [hlkq_10] at hM
      refine lv_aload_n hx hb nd_Locks_acquire_37 rfl (lv_at hl 0 rfl) ?_
      refine lv_dup hx hb nd_Locks_acquire_38 rfl ?_
      refine va_get (D := (dC, dI)) (ci := 2) (v := .int (lkq_10 0 0)) (C := "CeilingRows$Locks") (T := nf_Locks) (N := 4) hx hb hts nin_Locks hown hK hP 0 rfl rfl 3 (by decide) (hts _ tw_103) (fun _ h9 => h9) rfl nd_Locks_acquire_39 ?_
      refine lv_iconst (v := 1) hx hb nd_Locks_acquire_42 (by decide) ?_
      refine lv_iadd hx hb nd_Locks_acquire_43 ?_
      refine va_put (D := (dC, dI)) (ci := 2) (v := .int ((lkq_10 0 0) + (1 : Int32))) (ty := .int) (C := "CeilingRows$Locks") (T := nf_Locks) (N := 4) hx hb hts nin_Locks nt_Locks nto_Locks nno_Locks hown hK hP hD hS 0 rfl rfl 3 (by decide) (hts _ tw_103) (fun _ h9 => h9) rfl (by decide +kernel) rfl rfl (Nat.le_of_ble_eq_true rfl) nd_Locks_acquire_44 (fun H locs hP hD hS => ?_)
      have hP : va_P (dC, dI) vwCl (cw_Locks cI cZ cO alk (cr_up lkq_10 0 0 ((lkq_10 0 0) + (1 : Int32)))) H := hP
      have hD : va_D A (cw_Locks cI cZ cO alk (cr_up lkq_10 0 0 ((lkq_10 0 0) + (1 : Int32)))) := hD
      have hR_11 : cr_RLocks (cr_up lkq_10 0 0 ((lkq_10 0 0) + (1 : Int32))) := ⟨cr_rg_up hR_9.1 (fun e => absurd e (by decide)), cr_rg_up hR_9.2 (fun e => absurd e (by decide))⟩
      obtain ⟨lkq_12, hlkq_12⟩ : ∃ z, (cr_up lkq_10 0 0 ((lkq_10 0 0) + (1 : Int32))) = z := ⟨_, rfl⟩
      rw [hlkq_12] at hP hD hR_11
      try rw [hlkq_12] at hM
      refine lv_aload_n hx hb nd_Locks_acquire_47 rfl (lv_at hl 0 rfl) ?_
      refine va_get (D := (dC, dI)) (ci := 2) (v := .ref (alk 3)) (C := "CeilingRows$Locks") (T := nf_Locks) (N := 4) hx hb hts nin_Locks hown hK hP 0 rfl rfl 2 (by decide) (hts _ tw_102) (fun _ h9 => h9) rfl nd_Locks_acquire_48 ?_
      refine lv_iload_n hx hb nd_Locks_acquire_51 rfl (lv_at hl 1 rfl) ?_
      refine lv_aload_n hx hb nd_Locks_acquire_52 rfl (lv_at hl 0 rfl) ?_
      refine va_get (D := (dC, dI)) (ci := 2) (v := .int (lkq_12 0 0)) (C := "CeilingRows$Locks") (T := nf_Locks) (N := 4) hx hb hts nin_Locks hown hK hP 0 rfl rfl 3 (by decide) (hts _ tw_103) (fun _ h9 => h9) rfl nd_Locks_acquire_53 ?_
      have b_13 : vp_in x1 4 := vp_in_iff.mpr (by omega)
      refine va_iast hx hb hK hP hD hS 3 0 rfl rfl b_13 nd_Locks_acquire_56 (fun H locs hP hD hS => ?_)
      have hP : va_P (dC, dI) vwCl (cw_Locks cI cZ cO alk (cr_up lkq_12 3 x1.toNatClampNeg (lkq_12 0 0))) H := hP
      have hD : va_D A (cw_Locks cI cZ cO alk (cr_up lkq_12 3 x1.toNatClampNeg (lkq_12 0 0))) := hD
      have hR_14 : cr_RLocks (cr_up lkq_12 3 x1.toNatClampNeg (lkq_12 0 0)) := ⟨cr_rg_up hR_11.1 (fun e => absurd e (by decide)), cr_rg_up hR_11.2 (fun e => absurd e (by decide))⟩
      obtain ⟨lkq_15, hlkq_15⟩ : ∃ z, (cr_up lkq_12 3 x1.toNatClampNeg (lkq_12 0 0)) = z := ⟨_, rfl⟩
      rw [hlkq_15] at hP hD hR_14
      try rw [hlkq_15] at hM
      refine lv_iconst (v := 0) hx hb nd_Locks_acquire_57 (by decide) ?_
      exact W.iret (v := (0 : Int32)) hx hb hr (fun t ht hW => ⟨⟨(0 : Int32), lkq_15, rfl, ⟨by rw [hT, ← hM], by rw [hT, ← hM], hR_14⟩, by rw [ht]; exact hP, va_K.moved hW.alike hK, hD⟩, hS.F ht⟩) hS.2.2 nd_Locks_acquire_58
    · have c_7t := cr_eq c_7
      rw [if_pos c_7] at hM
      refine lv_aload_n hx hb nd_Locks_acquire_21 rfl (lv_at hl 0 rfl) ?_
      refine va_get (D := (dC, dI)) (ci := 2) (v := .ref (alk 1)) (C := "CeilingRows$Locks") (T := nf_Locks) (N := 4) hx hb hts nin_Locks hown hK hP 0 rfl rfl 0 (by decide) (hts _ tw_100) (fun _ h9 => h9) rfl nd_Locks_acquire_22 ?_
      refine lv_iload_n hx hb nd_Locks_acquire_25 rfl (lv_at hl 2 rfl) ?_
      refine lv_iload_n hx hb nd_Locks_acquire_26 rfl (lv_at hl 1 rfl) ?_
      have b_16 : vp_in x2 9 := vp_in_iff.mpr (by omega)
      refine va_iast hx hb hK hP hD hS 1 0 rfl rfl b_16 nd_Locks_acquire_27 (fun H locs hP hD hS => ?_)
      have hP : va_P (dC, dI) vwCl (cw_Locks cI cZ cO alk (cr_up lk 1 x2.toNatClampNeg x1)) H := hP
      have hD : va_D A (cw_Locks cI cZ cO alk (cr_up lk 1 x2.toNatClampNeg x1)) := hD
      have hR_17 : cr_RLocks (cr_up lk 1 x2.toNatClampNeg x1) := ⟨cr_rg_up hR_lk.1 (fun _ => by omega), cr_rg_up hR_lk.2 (fun e => absurd e (by decide))⟩
      obtain ⟨lkq_18, hlkq_18⟩ : ∃ z, (cr_up lk 1 x2.toNatClampNeg x1) = z := ⟨_, rfl⟩
      rw [hlkq_18] at hP hD hR_17
      try rw [hlkq_18] at hM
      refine lv_iconst (v := 1) hx hb nd_Locks_acquire_28 (by decide) ?_
      exact W.iret (v := (1 : Int32)) hx hb hr (fun t ht hW => ⟨⟨(1 : Int32), lkq_18, rfl, ⟨by rw [hT, ← hM], by rw [hT, ← hM], hR_17⟩, by rw [ht]; exact hP, va_K.moved hW.alike hK, hD⟩, hS.F ht⟩) hS.2.2 nd_Locks_acquire_29
  · have c_4t := cr_nlt c_4
    rw [if_neg c_4] at hM
    refine lv_bipush (v := -16) hx hb nd_Locks_acquire_9 (by decide) ?_
    exact W.iret (v := (-16 : Int32)) hx hb hr (fun t ht hW => ⟨⟨(-16 : Int32), lk, rfl, ⟨by rw [hT, ← hM], by rw [hT, ← hM], hR_lk⟩, by rw [ht]; exact hP, va_K.moved hW.alike hK, hD⟩, hS.F ht⟩) hS.2.2 nd_Locks_acquire_11

theorem nd_Locks_release_0 : decode prog_3_method_5_code 0 = .ok (.iload_n 2, 1) := by decide +kernel
theorem nd_Locks_release_1 : decode prog_3_method_5_code 1 = .ok (.aload_n 0, 1) := by decide +kernel
theorem nd_Locks_release_2 : decode prog_3_method_5_code 2 = .ok (.iload_n 1, 1) := by decide +kernel
theorem nd_Locks_release_3 : decode prog_3_method_5_code 3 = .ok (.invokevirtual 21, 3) := by decide +kernel
theorem nd_Locks_release_6 : decode prog_3_method_5_code 6 = .ok (.if_icmp .eq (6), 3) := by decide +kernel
theorem nd_Locks_release_9 : decode prog_3_method_5_code 9 = .ok (.bipush (-17), 2) := by decide +kernel
theorem nd_Locks_release_11 : decode prog_3_method_5_code 11 = .ok (.ireturn, 1) := by decide +kernel
theorem nd_Locks_release_12 : decode prog_3_method_5_code 12 = .ok (.aload_n 0, 1) := by decide +kernel
theorem nd_Locks_release_13 : decode prog_3_method_5_code 13 = .ok (.iload_n 2, 1) := by decide +kernel
theorem nd_Locks_release_14 : decode prog_3_method_5_code 14 = .ok (.invokevirtual 29, 3) := by decide +kernel
theorem nd_Locks_release_17 : decode prog_3_method_5_code 17 = .ok (.istore_n 3, 1) := by decide +kernel
theorem nd_Locks_release_18 : decode prog_3_method_5_code 18 = .ok (.aload_n 0, 1) := by decide +kernel
theorem nd_Locks_release_19 : decode prog_3_method_5_code 19 = .ok (.getfield 9, 3) := by decide +kernel
theorem nd_Locks_release_22 : decode prog_3_method_5_code 22 = .ok (.iload_n 2, 1) := by decide +kernel
theorem nd_Locks_release_23 : decode prog_3_method_5_code 23 = .ok (.iload_n 3, 1) := by decide +kernel
theorem nd_Locks_release_24 : decode prog_3_method_5_code 24 = .ok (.iastore, 1) := by decide +kernel
theorem nd_Locks_release_25 : decode prog_3_method_5_code 25 = .ok (.aload_n 0, 1) := by decide +kernel
theorem nd_Locks_release_26 : decode prog_3_method_5_code 26 = .ok (.getfield 15, 3) := by decide +kernel
theorem nd_Locks_release_29 : decode prog_3_method_5_code 29 = .ok (.iload_n 3, 1) := by decide +kernel
theorem nd_Locks_release_30 : decode prog_3_method_5_code 30 = .ok (.iconst 0, 1) := by decide +kernel
theorem nd_Locks_release_31 : decode prog_3_method_5_code 31 = .ok (.iastore, 1) := by decide +kernel
theorem nd_Locks_release_32 : decode prog_3_method_5_code 32 = .ok (.iconst 1, 1) := by decide +kernel
theorem nd_Locks_release_33 : decode prog_3_method_5_code 33 = .ok (.ireturn, 1) := by decide +kernel
def md_Locks_release (lk : cr_S) (x1 : Int32) (x2 : Int32) : Int32 × cr_S :=
  (if x2 = (md_Locks_lastTakenBy lk x1) then ((1 : Int32), (cr_up (cr_up lk 1 x2.toNatClampNeg (md_Locks_longestSpinnerFor lk x2)) 2 (md_Locks_longestSpinnerFor lk x2).toNatClampNeg (0 : Int32))) else ((-17 : Int32), lk))
abbrev pq_Locks_release (dC : Nat → ClassId) (dI : Nat → Nat → Nat) (cI cZ cO : ClassId) (alk : Nat → Nat) (lk : cr_S) (x1 : Int32) (x2 : Int32) (A : Nat → Prop) : Array Value → State → Outcome → State → Prop :=
  va_Qi (fun (r : Int32) (lk' : cr_S) => r = (md_Locks_release lk x1 x2).1 ∧ lk' = (md_Locks_release lk x1 x2).2 ∧ cr_RLocks lk') (fun (lk' : cr_S) t => va_P (dC, dI) vwCl (cw_Locks cI cZ cO alk lk') t.heap ∧ va_K (dC, dI) vwCl [(cI, .int), (cZ, .boolean), (cO, .array .int)] t ∧ va_D A (cw_Locks cI cZ cO alk lk')) A
set_option maxHeartbeats 4000000 in
set_option maxRecDepth 100000 in
theorem ct_Locks_release (l : Launch) (dC : Nat → ClassId) (dI : Nat → Nat → Nat) (cI cZ cO : ClassId) (alk : Nat → Nat) (sz : Nat) (lk : cr_S) (x1 : Int32) (x2 : Int32) (hR_lk : cr_RLocks lk) (hx1 : 1 ≤ x1.toInt ∧ x1.toInt ≤ 3) (hx2 : 1 ≤ x2.toInt ∧ x2.toInt ≤ 8) : Met l ny_Locks_release nw_Locks_release ({ frames := 1, cells := 0, slots := 0, locals := 24 } : Room) (va_Pc [.ref (alk 0), .int x1, .int x2] (fun U => U.heap.size = sz ∧ va_P (dC, dI) vwCl (cw_Locks cI cZ cO alk lk) U.heap ∧ va_K (dC, dI) vwCl [(cI, .int), (cZ, .boolean), (cO, .array .int)] U ∧ va_D (fun _ => True) (cw_Locks cI cZ cO alk lk))) (pq_Locks_release dC dI cI cZ cO alk lk x1 x2 (va_A (cw_Locks cI cZ cO alk lk) sz)) 0 0 (va_A (cw_Locks cI cZ cO alk lk) sz) := by
  refine Met.ofW (cc := prog_3_method_5_code) (maxL := 4) (ret := (some .int)) (by decide) rfl ?_
  intro p e s m args below meth c s₁ B hml hv
  obtain ⟨rfl, hsz, hP, hK, hD0⟩ := hv
  have hx := B.exec
  have hb := B.bytes
  have hr := B.returns
  have hts0 := atoms_spec (ws := nw_Locks_release) B.pre
  have hts : ∀ w ∈ ng_tbl, w.before ([.ref (alk 0), .int x1, .int x2] : List Value).toArray s = true := fun w h => hts0 w (List.mem_cons_of_mem _ h)
  have hown : s.vm.findClass "CeilingRows$Locks" = some m.cls := findClass_of_methodNamed B.named
  have hlocks := B.notSynchronized
  subst hsz
  have hD := hD0.self (sz := s.heap.size)
  generalize hAe : va_A (cw_Locks cI cZ cO alk lk) s.heap.size = A at hD ⊢
  have hA : ∀ q : Nat, s.heap.size ≤ q → A q := fun q h => by rw [← hAe]; exact Or.inr h
  have hS : va_S A s.heap s.heap [] := va_S.rf
  have hP : va_P (dC, dI) vwCl (cw_Locks cI cZ cO alk lk) s.heap := hP
  have hl := lv_entry ([.ref (alk 0), .int x1, .int x2]) (n := 4) (Nat.le_of_ble_eq_true rfl)
  rw [lg_entry_eq]
  generalize (lg_sl ([.ref (alk 0), .int x1, .int x2]) ++ List.replicate (4 - (lg_sl ([.ref (alk 0), .int x1, .int x2])).length) Slot.unset).toArray = ls at hl ⊢
  have hl : lv_has ls 4 [(0, .ref (alk 0)), (1, .int x1), (2, .int x2)] := hl
  have k_m17 : (-17 : Int32).toInt = -17 := by decide
  have k_0 : (0 : Int32).toInt = 0 := by decide
  have k_1 : (1 : Int32).toInt = 1 := by decide
  obtain ⟨tgt, hT⟩ : ∃ z, md_Locks_release lk x1 x2 = z := ⟨_, rfl⟩
  have hM := hT
  unfold md_Locks_release at hM
  refine lv_iload_n hx hb nd_Locks_release_0 rfl (lv_at hl 2 rfl) ?_
  refine lv_aload_n hx hb nd_Locks_release_1 rfl (lv_at hl 0 rfl) ?_
  refine lv_iload_n hx hb nd_Locks_release_2 rfl (lv_at hl 1 rfl) ?_
  have hPc := hP
  have hDc := hD
  have hFc := va_free (wc := cw_Locks cI cZ cO alk lk) hD hS hA [0, 1, 2, 3] rfl
  refine va_calli (va_runV (As := [.int x1]) (rest := [.int x2]) ⟨hx, hb, hml, hown, hts⟩ (ct_Locks_lastTakenBy l dC dI cI cZ cO alk s.heap.size lk x1 hR_lk) (cwV 1 hts (ng_V tw_316 tw_318 tp_8 tw_4 tw_319) rfl rfl rfl (by decide +kernel) ⟨Nat.le_of_ble_eq_true rfl, Nat.le_of_ble_eq_true rfl⟩) ⟨fun a U g mk q => by obtain ⟨q0, q1, qP, qK, qD⟩ := q; exact ⟨q0, q1, qP, va_K.moved (u := U) (U := U.calling g mk a) (Vm.Alike.refl U.vm) qK, qD⟩, va_recv hK hPc (ci := 2) (q0 := 0) rfl rfl, fun U hU hW => ⟨rfl, by rw [hU], by rw [hU]; exact hPc, va_K.moved hW.alike hK, hDc.weaken (fun _ _ _ _ => trivial)⟩⟩ rfl rfl hl.1 rfl (lv_room (Nat.le_of_ble_eq_true rfl)) nd_Locks_release_3 ⟨Nat.zero_le _, Nat.zero_le _⟩) hS (fun q _ h => hFc q h) hFc (fun r_1 u t H1 locs ht hvm hw hB hz1 hk1 hS => ?_)
  obtain ⟨hP1, hK1, hD1⟩ := hB
  rw [ht] at hP1
  obtain ⟨w_2, f_3⟩ := hw
  try rw [← w_2] at hM
  have hP := hP1
  have hD := cr_Dw hD1 hFc
  generalize H1 = H at hP hS ⊢
  refine lv_icmp_eq (tgt := 12) hx hb nd_Locks_release_6 (by decide) (fun c_4 => ?_) (fun c_4 => ?_)
  · have c_4t := cr_eq c_4
    rw [if_pos c_4] at hM
    refine lv_aload_n hx hb nd_Locks_release_12 rfl (lv_at hl 0 rfl) ?_
    refine lv_iload_n hx hb nd_Locks_release_13 rfl (lv_at hl 2 rfl) ?_
    have hPc := hP
    have hDc := hD
    have hFc := va_free (wc := cw_Locks cI cZ cO alk lk) hD hS hA [0, 1, 2, 3] rfl
    refine va_calli (va_runV (As := [.int x2]) (rest := []) ⟨hx, hb, hml, hown, hts⟩ (ct_Locks_longestSpinnerFor l dC dI cI cZ cO alk H.size lk x2 hR_lk) (cwV 1 hts (ng_V tw_324 tw_326 tp_9 tw_4 tw_327) rfl rfl rfl (by decide +kernel) ⟨Nat.le_of_ble_eq_true rfl, Nat.le_of_ble_eq_true rfl⟩) ⟨fun a U g mk q => by obtain ⟨q0, q1, qP, qK, qD⟩ := q; exact ⟨q0, q1, qP, va_K.moved (u := U) (U := U.calling g mk a) (Vm.Alike.refl U.vm) qK, qD⟩, va_recv hK hPc (ci := 2) (q0 := 0) rfl rfl, fun U hU hW => ⟨rfl, by rw [hU], by rw [hU]; exact hPc, va_K.moved hW.alike hK, hDc.weaken (fun _ _ _ _ => trivial)⟩⟩ rfl rfl hl.1 rfl (lv_room (Nat.le_of_ble_eq_true rfl)) nd_Locks_release_14 ⟨Nat.zero_le _, Nat.zero_le _⟩) hS (fun q _ h => hFc q h) hFc (fun r_5 u t H1 locs ht hvm hw hB hz1 hk1 hS => ?_)
    obtain ⟨hP1, hK1, hD1⟩ := hB
    rw [ht] at hP1
    obtain ⟨w_6, f_7⟩ := hw
    try rw [← w_6] at hM
    have hP := hP1
    have hD := cr_Dw hD1 hFc
    generalize H1 = H at hP hS ⊢
    refine lv_istore_n (lv' := [(3, .int r_5), (0, .ref (alk 0)), (1, .int x1), (2, .int x2)]) hx hb nd_Locks_release_17 rfl hl (by decide) rfl (fun ls hl => ?_)
    refine lv_aload_n hx hb nd_Locks_release_18 rfl (lv_at hl 1 rfl) ?_
    refine va_get (D := (dC, dI)) (ci := 2) (v := .ref (alk 1)) (C := "CeilingRows$Locks") (T := nf_Locks) (N := 4) hx hb hts nin_Locks hown hK hP 0 rfl rfl 0 (by decide) (hts _ tw_100) (fun _ h9 => h9) rfl nd_Locks_release_19 ?_
    refine lv_iload_n hx hb nd_Locks_release_22 rfl (lv_at hl 3 rfl) ?_
    refine lv_iload_n hx hb nd_Locks_release_23 rfl (lv_at hl 0 rfl) ?_
    have b_8 : vp_in x2 9 := vp_in_iff.mpr (by omega)
    refine va_iast hx hb hK hP hD hS 1 0 rfl rfl b_8 nd_Locks_release_24 (fun H locs hP hD hS => ?_)
    have hP : va_P (dC, dI) vwCl (cw_Locks cI cZ cO alk (cr_up lk 1 x2.toNatClampNeg r_5)) H := hP
    have hD : va_D A (cw_Locks cI cZ cO alk (cr_up lk 1 x2.toNatClampNeg r_5)) := hD
    have hR_9 : cr_RLocks (cr_up lk 1 x2.toNatClampNeg r_5) := ⟨cr_rg_up hR_lk.1 (fun _ => by omega), cr_rg_up hR_lk.2 (fun e => absurd e (by decide))⟩
    obtain ⟨lkq_10, hlkq_10⟩ : ∃ z, (cr_up lk 1 x2.toNatClampNeg r_5) = z := ⟨_, rfl⟩
    rw [hlkq_10] at hP hD hR_9
    try rw [hlkq_10] at hM
    refine lv_aload_n hx hb nd_Locks_release_25 rfl (lv_at hl 1 rfl) ?_
    refine va_get (D := (dC, dI)) (ci := 2) (v := .ref (alk 2)) (C := "CeilingRows$Locks") (T := nf_Locks) (N := 4) hx hb hts nin_Locks hown hK hP 0 rfl rfl 1 (by decide) (hts _ tw_101) (fun _ h9 => h9) rfl nd_Locks_release_26 ?_
    refine lv_iload_n hx hb nd_Locks_release_29 rfl (lv_at hl 0 rfl) ?_
    refine lv_iconst (v := 0) hx hb nd_Locks_release_30 (by decide) ?_
    have b_11 : vp_in r_5 4 := vp_in_iff.mpr (by omega)
    refine va_iast hx hb hK hP hD hS 2 0 rfl rfl b_11 nd_Locks_release_31 (fun H locs hP hD hS => ?_)
    have hP : va_P (dC, dI) vwCl (cw_Locks cI cZ cO alk (cr_up lkq_10 2 r_5.toNatClampNeg (0 : Int32))) H := hP
    have hD : va_D A (cw_Locks cI cZ cO alk (cr_up lkq_10 2 r_5.toNatClampNeg (0 : Int32))) := hD
    have hR_12 : cr_RLocks (cr_up lkq_10 2 r_5.toNatClampNeg (0 : Int32)) := ⟨cr_rg_up hR_9.1 (fun e => absurd e (by decide)), cr_rg_up hR_9.2 (fun _ => by omega)⟩
    obtain ⟨lkq_13, hlkq_13⟩ : ∃ z, (cr_up lkq_10 2 r_5.toNatClampNeg (0 : Int32)) = z := ⟨_, rfl⟩
    rw [hlkq_13] at hP hD hR_12
    try rw [hlkq_13] at hM
    refine lv_iconst (v := 1) hx hb nd_Locks_release_32 (by decide) ?_
    exact W.iret (v := (1 : Int32)) hx hb hr (fun t ht hW => ⟨⟨(1 : Int32), lkq_13, rfl, ⟨by rw [hT, ← hM], by rw [hT, ← hM], hR_12⟩, by rw [ht]; exact hP, va_K.moved hW.alike hK, hD⟩, hS.F ht⟩) hS.2.2 nd_Locks_release_33
  · have c_4t := cr_ne c_4
    rw [if_neg c_4] at hM
    refine lv_bipush (v := -17) hx hb nd_Locks_release_9 (by decide) ?_
    exact W.iret (v := (-17 : Int32)) hx hb hr (fun t ht hW => ⟨⟨(-17 : Int32), lk, rfl, ⟨by rw [hT, ← hM], by rw [hT, ← hM], hR_lk⟩, by rw [ht]; exact hP, va_K.moved hW.alike hK, hD⟩, hS.F ht⟩) hS.2.2 nd_Locks_release_11

theorem nd_Locks_longestSpinnerFor_0 : decode prog_3_method_6_code 0 = .ok (.iconst 0, 1) := by decide +kernel
theorem nd_Locks_longestSpinnerFor_1 : decode prog_3_method_6_code 1 = .ok (.istore_n 2, 1) := by decide +kernel
theorem nd_Locks_longestSpinnerFor_2 : decode prog_3_method_6_code 2 = .ok (.iconst 1, 1) := by decide +kernel
theorem nd_Locks_longestSpinnerFor_3 : decode prog_3_method_6_code 3 = .ok (.istore_n 3, 1) := by decide +kernel
theorem nd_Locks_longestSpinnerFor_4 : decode prog_3_method_6_code 4 = .ok (.iload_n 3, 1) := by decide +kernel
theorem nd_Locks_longestSpinnerFor_5 : decode prog_3_method_6_code 5 = .ok (.iconst 3, 1) := by decide +kernel
theorem nd_Locks_longestSpinnerFor_6 : decode prog_3_method_6_code 6 = .ok (.if_icmp .gt (52), 3) := by decide +kernel
theorem nd_Locks_longestSpinnerFor_9 : decode prog_3_method_6_code 9 = .ok (.iload_n 2, 1) := by decide +kernel
theorem nd_Locks_longestSpinnerFor_10 : decode prog_3_method_6_code 10 = .ok (.ifCond .eq (18), 3) := by decide +kernel
theorem nd_Locks_longestSpinnerFor_13 : decode prog_3_method_6_code 13 = .ok (.aload_n 0, 1) := by decide +kernel
theorem nd_Locks_longestSpinnerFor_14 : decode prog_3_method_6_code 14 = .ok (.getfield 18, 3) := by decide +kernel
theorem nd_Locks_longestSpinnerFor_17 : decode prog_3_method_6_code 17 = .ok (.iload_n 3, 1) := by decide +kernel
theorem nd_Locks_longestSpinnerFor_18 : decode prog_3_method_6_code 18 = .ok (.iaload, 1) := by decide +kernel
theorem nd_Locks_longestSpinnerFor_19 : decode prog_3_method_6_code 19 = .ok (.aload_n 0, 1) := by decide +kernel
theorem nd_Locks_longestSpinnerFor_20 : decode prog_3_method_6_code 20 = .ok (.getfield 18, 3) := by decide +kernel
theorem nd_Locks_longestSpinnerFor_23 : decode prog_3_method_6_code 23 = .ok (.iload_n 2, 1) := by decide +kernel
theorem nd_Locks_longestSpinnerFor_24 : decode prog_3_method_6_code 24 = .ok (.iaload, 1) := by decide +kernel
theorem nd_Locks_longestSpinnerFor_25 : decode prog_3_method_6_code 25 = .ok (.if_icmp .ge (7), 3) := by decide +kernel
theorem nd_Locks_longestSpinnerFor_28 : decode prog_3_method_6_code 28 = .ok (.iconst 1, 1) := by decide +kernel
theorem nd_Locks_longestSpinnerFor_29 : decode prog_3_method_6_code 29 = .ok (.goto (4), 3) := by decide +kernel
theorem nd_Locks_longestSpinnerFor_32 : decode prog_3_method_6_code 32 = .ok (.iconst 0, 1) := by decide +kernel
theorem nd_Locks_longestSpinnerFor_33 : decode prog_3_method_6_code 33 = .ok (.istore 4, 2) := by decide +kernel
theorem nd_Locks_longestSpinnerFor_35 : decode prog_3_method_6_code 35 = .ok (.aload_n 0, 1) := by decide +kernel
theorem nd_Locks_longestSpinnerFor_36 : decode prog_3_method_6_code 36 = .ok (.getfield 15, 3) := by decide +kernel
theorem nd_Locks_longestSpinnerFor_39 : decode prog_3_method_6_code 39 = .ok (.iload_n 3, 1) := by decide +kernel
theorem nd_Locks_longestSpinnerFor_40 : decode prog_3_method_6_code 40 = .ok (.iaload, 1) := by decide +kernel
theorem nd_Locks_longestSpinnerFor_41 : decode prog_3_method_6_code 41 = .ok (.iload_n 1, 1) := by decide +kernel
theorem nd_Locks_longestSpinnerFor_42 : decode prog_3_method_6_code 42 = .ok (.if_icmp .ne (10), 3) := by decide +kernel
theorem nd_Locks_longestSpinnerFor_45 : decode prog_3_method_6_code 45 = .ok (.iload 4, 2) := by decide +kernel
theorem nd_Locks_longestSpinnerFor_47 : decode prog_3_method_6_code 47 = .ok (.ifCond .eq (5), 3) := by decide +kernel
theorem nd_Locks_longestSpinnerFor_50 : decode prog_3_method_6_code 50 = .ok (.iload_n 3, 1) := by decide +kernel
theorem nd_Locks_longestSpinnerFor_51 : decode prog_3_method_6_code 51 = .ok (.istore_n 2, 1) := by decide +kernel
theorem nd_Locks_longestSpinnerFor_52 : decode prog_3_method_6_code 52 = .ok (.iinc 3 1, 3) := by decide +kernel
theorem nd_Locks_longestSpinnerFor_55 : decode prog_3_method_6_code 55 = .ok (.goto (-51), 3) := by decide +kernel
theorem nd_Locks_longestSpinnerFor_58 : decode prog_3_method_6_code 58 = .ok (.iload_n 2, 1) := by decide +kernel
theorem nd_Locks_longestSpinnerFor_59 : decode prog_3_method_6_code 59 = .ok (.ireturn, 1) := by decide +kernel
def lo_Locks_longestSpinnerFor_4 (lk : cr_S) (x1 : Int32) : Nat → Int32 → Int32 → Int32
  | 0, _, _ => 0
  | n_4 + 1, v2_4, v3_4 =>
    (if (3 : Int32) < v3_4 then v2_4 else (if v2_4 = 0 then (if (lk 2 v3_4.toNatClampNeg) = x1 then (lo_Locks_longestSpinnerFor_4 lk x1 n_4 v3_4 (v3_4 + (1 : Int32))) else (lo_Locks_longestSpinnerFor_4 lk x1 n_4 v2_4 (v3_4 + (1 : Int32)))) else (if (lk 3 v2_4.toNatClampNeg) ≤ (lk 3 v3_4.toNatClampNeg) then (if (lk 2 v3_4.toNatClampNeg) = x1 then (lo_Locks_longestSpinnerFor_4 lk x1 n_4 v2_4 (v3_4 + (1 : Int32))) else (lo_Locks_longestSpinnerFor_4 lk x1 n_4 v2_4 (v3_4 + (1 : Int32)))) else (if (lk 2 v3_4.toNatClampNeg) = x1 then (lo_Locks_longestSpinnerFor_4 lk x1 n_4 v3_4 (v3_4 + (1 : Int32))) else (lo_Locks_longestSpinnerFor_4 lk x1 n_4 v2_4 (v3_4 + (1 : Int32)))))))
def md_Locks_longestSpinnerFor (lk : cr_S) (x1 : Int32) : Int32 :=
  (lo_Locks_longestSpinnerFor_4 lk x1 4 (0 : Int32) (1 : Int32))
abbrev pq_Locks_longestSpinnerFor (dC : Nat → ClassId) (dI : Nat → Nat → Nat) (cI cZ cO : ClassId) (alk : Nat → Nat) (lk : cr_S) (x1 : Int32) (A : Nat → Prop) : Array Value → State → Outcome → State → Prop :=
  va_Qi (fun (r : Int32) (_ : Unit) => r = md_Locks_longestSpinnerFor lk x1 ∧ (0 ≤ r.toInt ∧ r.toInt ≤ 3)) (fun (_ : Unit) t => va_P (dC, dI) vwCl (cw_Locks cI cZ cO alk lk) t.heap ∧ va_K (dC, dI) vwCl [(cI, .int), (cZ, .boolean), (cO, .array .int)] t ∧ va_D A (cw_Locks cI cZ cO alk lk)) A
set_option maxHeartbeats 4000000 in
set_option maxRecDepth 100000 in
theorem ct_Locks_longestSpinnerFor (l : Launch) (dC : Nat → ClassId) (dI : Nat → Nat → Nat) (cI cZ cO : ClassId) (alk : Nat → Nat) (sz : Nat) (lk : cr_S) (x1 : Int32) (hR_lk : cr_RLocks lk) : Met l ny_Locks_longestSpinnerFor nw_Locks_longestSpinnerFor ({ frames := 0, cells := 0, slots := 0, locals := 0 } : Room) (va_Pc [.ref (alk 0), .int x1] (fun U => U.heap.size = sz ∧ va_P (dC, dI) vwCl (cw_Locks cI cZ cO alk lk) U.heap ∧ va_K (dC, dI) vwCl [(cI, .int), (cZ, .boolean), (cO, .array .int)] U ∧ va_D (fun _ => True) (cw_Locks cI cZ cO alk lk))) (pq_Locks_longestSpinnerFor dC dI cI cZ cO alk lk x1 (va_A (cw_Locks cI cZ cO alk lk) sz)) 0 0 (va_A (cw_Locks cI cZ cO alk lk) sz) := by
  refine Met.ofW (cc := prog_3_method_6_code) (maxL := 5) (ret := (some .int)) (by decide) rfl ?_
  intro p e s m args below meth c s₁ B hml hv
  obtain ⟨rfl, hsz, hP, hK, hD0⟩ := hv
  have hx := B.exec
  have hb := B.bytes
  have hr := B.returns
  have hts0 := atoms_spec (ws := nw_Locks_longestSpinnerFor) B.pre
  have hts : ∀ w ∈ ng_tbl, w.before ([.ref (alk 0), .int x1] : List Value).toArray s = true := fun w h => hts0 w (List.mem_cons_of_mem _ h)
  have hown : s.vm.findClass "CeilingRows$Locks" = some m.cls := findClass_of_methodNamed B.named
  have hlocks := B.notSynchronized
  subst hsz
  have hD := hD0.self (sz := s.heap.size)
  generalize hAe : va_A (cw_Locks cI cZ cO alk lk) s.heap.size = A at hD ⊢
  have hA : ∀ q : Nat, s.heap.size ≤ q → A q := fun q h => by rw [← hAe]; exact Or.inr h
  have hS : va_S A s.heap s.heap [] := va_S.rf
  have hP : va_P (dC, dI) vwCl (cw_Locks cI cZ cO alk lk) s.heap := hP
  have hl := lv_entry ([.ref (alk 0), .int x1]) (n := 5) (Nat.le_of_ble_eq_true rfl)
  rw [lg_entry_eq]
  generalize (lg_sl ([.ref (alk 0), .int x1]) ++ List.replicate (5 - (lg_sl ([.ref (alk 0), .int x1])).length) Slot.unset).toArray = ls at hl ⊢
  have hl : lv_has ls 5 [(0, .ref (alk 0)), (1, .int x1)] := hl
  have k_0 : (0 : Int32).toInt = 0 := by decide
  have k_1 : (1 : Int32).toInt = 1 := by decide
  have k_3 : (3 : Int32).toInt = 3 := by decide
  obtain ⟨tgt, hT⟩ : ∃ z, md_Locks_longestSpinnerFor lk x1 = z := ⟨_, rfl⟩
  have hM := hT
  unfold md_Locks_longestSpinnerFor at hM
  refine lv_iconst (v := 0) hx hb nd_Locks_longestSpinnerFor_0 (by decide) ?_
  refine lv_istore_n (lv' := [(2, .int (0 : Int32)), (0, .ref (alk 0)), (1, .int x1)]) hx hb nd_Locks_longestSpinnerFor_1 rfl hl (by decide) rfl (fun ls hl => ?_)
  refine lv_iconst (v := 1) hx hb nd_Locks_longestSpinnerFor_2 (by decide) ?_
  refine lv_istore_n (lv' := [(3, .int (1 : Int32)), (2, .int (0 : Int32)), (0, .ref (alk 0)), (1, .int x1)]) hx hb nd_Locks_longestSpinnerFor_3 rfl hl (by decide) rfl (fun ls hl => ?_)
  have hl := lv_sub hl [2, 3, 1, 0] rfl
  have lp_4 : ∀ (n_4 : Nat) (v2_4 : Int32) (v3_4 : Int32), (1 ≤ v3_4.toInt ∧ v3_4.toInt ≤ 4) → (0 ≤ v2_4.toInt ∧ v2_4.toInt ≤ 3) → (4 < v3_4.toInt + (n_4 : Int)) → lo_Locks_longestSpinnerFor_4 lk x1 n_4 v2_4 v3_4 = tgt → ∀ (H : Heap) (locs : List Loc), va_P (dC, dI) vwCl (cw_Locks cI cZ cO alk lk) H → va_D A (cw_Locks cI cZ cO alk lk) → va_S A s.heap H locs → ∀ ls : Array Slot, lv_has ls 5 [(0, .ref (alk 0)), (1, .int x1), (2, .int v2_4), (3, .int v3_4)] → W p l e (headSpec nw_Locks_longestSpinnerFor ({ frames := 0, cells := 0, slots := 0, locals := 0 } : Room)).room s m ([.ref (alk 0), .int x1] : List Value).toArray below meth c H locs 0 0 (MQ below (pq_Locks_longestSpinnerFor dC dI cI cZ cO alk lk x1 A) ([.ref (alk 0), .int x1] : List Value).toArray s 0 0 A) (F0 m 4 ls []) := by
    intro n_4
    induction n_4 with
    | zero =>
      intro v2_4 v3_4 hv3_4 hv2_4 hn_4
      exfalso; omega
    | succ n_4 ih_4 =>
      intro v2_4 v3_4 hv3_4 hv2_4 hn_4 hM H locs hP hD hS ls hl
      have hn_4 : 4 < v3_4.toInt + ((n_4 : Int) + 1) := by omega
      rw [lo_Locks_longestSpinnerFor_4] at hM
      refine lv_iload_n hx hb nd_Locks_longestSpinnerFor_4 rfl (lv_at hl 3 rfl) ?_
      refine lv_iconst (v := 3) hx hb nd_Locks_longestSpinnerFor_5 (by decide) ?_
      refine lv_icmp_gt (tgt := 58) hx hb nd_Locks_longestSpinnerFor_6 (by decide) (fun c_1 => ?_) (fun c_1 => ?_)
      · have c_1t := cr_lt c_1
        rw [if_pos c_1] at hM
        refine lv_iload_n hx hb nd_Locks_longestSpinnerFor_58 rfl (lv_at hl 2 rfl) ?_
        exact W.iret (v := v2_4) hx hb hr (fun t ht hW => ⟨⟨v2_4, (), rfl, ⟨by rw [hT, ← hM], by omega⟩, by rw [ht]; exact hP, va_K.moved hW.alike hK, hD⟩, hS.F ht⟩) hS.2.2 nd_Locks_longestSpinnerFor_59
      · have c_1t := cr_nlt c_1
        rw [if_neg c_1] at hM
        refine lv_iload_n hx hb nd_Locks_longestSpinnerFor_9 rfl (lv_at hl 2 rfl) ?_
        refine lv_if_eq (tgt := 28) hx hb nd_Locks_longestSpinnerFor_10 (by decide) (fun c_2 => ?_) (fun c_2 => ?_)
        · have c_2t := cr_eq c_2
          rw [if_pos c_2] at hM
          refine lv_iconst (v := 1) hx hb nd_Locks_longestSpinnerFor_28 (by decide) ?_
          refine lv_goto (tgt := 33) hx hb nd_Locks_longestSpinnerFor_29 (by decide) ?_
          refine lv_istore (lv' := [(4, .int (1 : Int32)), (0, .ref (alk 0)), (1, .int x1), (2, .int v2_4), (3, .int v3_4)]) hx hb nd_Locks_longestSpinnerFor_33 hl (by decide) rfl (fun ls hl => ?_)
          refine lv_aload_n hx hb nd_Locks_longestSpinnerFor_35 rfl (lv_at hl 1 rfl) ?_
          refine va_get (D := (dC, dI)) (ci := 2) (v := .ref (alk 2)) (C := "CeilingRows$Locks") (T := nf_Locks) (N := 4) hx hb hts nin_Locks hown hK hP 0 rfl rfl 1 (by decide) (hts _ tw_101) (fun _ h9 => h9) rfl nd_Locks_longestSpinnerFor_36 ?_
          refine lv_iload_n hx hb nd_Locks_longestSpinnerFor_39 rfl (lv_at hl 4 rfl) ?_
          have b_3 : vp_in v3_4 4 := vp_in_iff.mpr (by omega)
          refine va_iald hx hb hK hP 2 0 rfl rfl b_3 nd_Locks_longestSpinnerFor_40 ?_
          have f_4 := cr_rgo hR_lk.2 (v3_4.toNatClampNeg)
          refine lv_iload_n hx hb nd_Locks_longestSpinnerFor_41 rfl (lv_at hl 2 rfl) ?_
          refine lv_icmp_ne (tgt := 52) hx hb nd_Locks_longestSpinnerFor_42 (by decide) (fun c_5 => ?_) (fun c_5 => ?_)
          · have c_5t := cr_ne c_5
            rw [if_neg c_5] at hM
            have e_6 : (v3_4 + (1 : Int32)).toInt = v3_4.toInt + (1 : Int32).toInt := cr_add (by omega)
            refine lv_iinc (v := (v3_4 + (1 : Int32))) (lv' := [(3, .int (v3_4 + (1 : Int32))), (4, .int (1 : Int32)), (0, .ref (alk 0)), (1, .int x1), (2, .int v2_4)]) hx hb nd_Locks_longestSpinnerFor_52 hl (k := 4) rfl (by rfl) (by decide) rfl (fun ls hl => ?_)
            refine lv_goto (tgt := 4) hx hb nd_Locks_longestSpinnerFor_55 (by decide) ?_
            exact ih_4 v2_4 (v3_4 + (1 : Int32)) (by omega) (by omega) (by omega) hM _ _ hP hD hS _ (lv_sub hl [2, 3, 4, 0] rfl)
          · have c_5t := cr_eq c_5
            rw [if_pos c_5] at hM
            refine lv_iload hx hb nd_Locks_longestSpinnerFor_45 (lv_at hl 0 rfl) ?_
            refine lv_if_eq (tgt := 52) hx hb nd_Locks_longestSpinnerFor_47 (by decide) (fun c_7 => ?_) (fun c_7 => ?_)
            · exact absurd c_7 (by decide)
            · refine lv_iload_n hx hb nd_Locks_longestSpinnerFor_50 rfl (lv_at hl 4 rfl) ?_
              refine lv_istore_n (lv' := [(2, .int v3_4), (4, .int (1 : Int32)), (0, .ref (alk 0)), (1, .int x1), (3, .int v3_4)]) hx hb nd_Locks_longestSpinnerFor_51 rfl hl (by decide) rfl (fun ls hl => ?_)
              have e_8 : (v3_4 + (1 : Int32)).toInt = v3_4.toInt + (1 : Int32).toInt := cr_add (by omega)
              refine lv_iinc (v := (v3_4 + (1 : Int32))) (lv' := [(3, .int (v3_4 + (1 : Int32))), (2, .int v3_4), (4, .int (1 : Int32)), (0, .ref (alk 0)), (1, .int x1)]) hx hb nd_Locks_longestSpinnerFor_52 hl (k := 4) rfl (by rfl) (by decide) rfl (fun ls hl => ?_)
              refine lv_goto (tgt := 4) hx hb nd_Locks_longestSpinnerFor_55 (by decide) ?_
              exact ih_4 v3_4 (v3_4 + (1 : Int32)) (by omega) (by omega) (by omega) hM _ _ hP hD hS _ (lv_sub hl [3, 4, 1, 0] rfl)
        · have c_2t := cr_ne c_2
          rw [if_neg c_2] at hM
          refine lv_aload_n hx hb nd_Locks_longestSpinnerFor_13 rfl (lv_at hl 0 rfl) ?_
          refine va_get (D := (dC, dI)) (ci := 2) (v := .ref (alk 3)) (C := "CeilingRows$Locks") (T := nf_Locks) (N := 4) hx hb hts nin_Locks hown hK hP 0 rfl rfl 2 (by decide) (hts _ tw_102) (fun _ h9 => h9) rfl nd_Locks_longestSpinnerFor_14 ?_
          refine lv_iload_n hx hb nd_Locks_longestSpinnerFor_17 rfl (lv_at hl 3 rfl) ?_
          have b_9 : vp_in v3_4 4 := vp_in_iff.mpr (by omega)
          refine va_iald hx hb hK hP 3 0 rfl rfl b_9 nd_Locks_longestSpinnerFor_18 ?_
          refine lv_aload_n hx hb nd_Locks_longestSpinnerFor_19 rfl (lv_at hl 0 rfl) ?_
          refine va_get (D := (dC, dI)) (ci := 2) (v := .ref (alk 3)) (C := "CeilingRows$Locks") (T := nf_Locks) (N := 4) hx hb hts nin_Locks hown hK hP 0 rfl rfl 2 (by decide) (hts _ tw_102) (fun _ h9 => h9) rfl nd_Locks_longestSpinnerFor_20 ?_
          refine lv_iload_n hx hb nd_Locks_longestSpinnerFor_23 rfl (lv_at hl 2 rfl) ?_
          have b_10 : vp_in v2_4 4 := vp_in_iff.mpr (by omega)
          refine va_iald hx hb hK hP 3 0 rfl rfl b_10 nd_Locks_longestSpinnerFor_24 ?_
          refine lv_icmp_ge (tgt := 32) hx hb nd_Locks_longestSpinnerFor_25 (by decide) (fun c_11 => ?_) (fun c_11 => ?_)
          · have c_11t := cr_le c_11
            rw [if_pos c_11] at hM
            refine lv_iconst (v := 0) hx hb nd_Locks_longestSpinnerFor_32 (by decide) ?_
            refine lv_istore (lv' := [(4, .int (0 : Int32)), (0, .ref (alk 0)), (1, .int x1), (2, .int v2_4), (3, .int v3_4)]) hx hb nd_Locks_longestSpinnerFor_33 hl (by decide) rfl (fun ls hl => ?_)
            refine lv_aload_n hx hb nd_Locks_longestSpinnerFor_35 rfl (lv_at hl 1 rfl) ?_
            refine va_get (D := (dC, dI)) (ci := 2) (v := .ref (alk 2)) (C := "CeilingRows$Locks") (T := nf_Locks) (N := 4) hx hb hts nin_Locks hown hK hP 0 rfl rfl 1 (by decide) (hts _ tw_101) (fun _ h9 => h9) rfl nd_Locks_longestSpinnerFor_36 ?_
            refine lv_iload_n hx hb nd_Locks_longestSpinnerFor_39 rfl (lv_at hl 4 rfl) ?_
            have b_12 : vp_in v3_4 4 := vp_in_iff.mpr (by omega)
            refine va_iald hx hb hK hP 2 0 rfl rfl b_12 nd_Locks_longestSpinnerFor_40 ?_
            have f_13 := cr_rgo hR_lk.2 (v3_4.toNatClampNeg)
            refine lv_iload_n hx hb nd_Locks_longestSpinnerFor_41 rfl (lv_at hl 2 rfl) ?_
            refine lv_icmp_ne (tgt := 52) hx hb nd_Locks_longestSpinnerFor_42 (by decide) (fun c_14 => ?_) (fun c_14 => ?_)
            · have c_14t := cr_ne c_14
              rw [if_neg c_14] at hM
              have e_15 : (v3_4 + (1 : Int32)).toInt = v3_4.toInt + (1 : Int32).toInt := cr_add (by omega)
              refine lv_iinc (v := (v3_4 + (1 : Int32))) (lv' := [(3, .int (v3_4 + (1 : Int32))), (4, .int (0 : Int32)), (0, .ref (alk 0)), (1, .int x1), (2, .int v2_4)]) hx hb nd_Locks_longestSpinnerFor_52 hl (k := 4) rfl (by rfl) (by decide) rfl (fun ls hl => ?_)
              refine lv_goto (tgt := 4) hx hb nd_Locks_longestSpinnerFor_55 (by decide) ?_
              exact ih_4 v2_4 (v3_4 + (1 : Int32)) (by omega) (by omega) (by omega) hM _ _ hP hD hS _ (lv_sub hl [2, 3, 4, 0] rfl)
            · have c_14t := cr_eq c_14
              rw [if_pos c_14] at hM
              refine lv_iload hx hb nd_Locks_longestSpinnerFor_45 (lv_at hl 0 rfl) ?_
              refine lv_if_eq (tgt := 52) hx hb nd_Locks_longestSpinnerFor_47 (by decide) (fun c_16 => ?_) (fun c_16 => ?_)
              · have e_17 : (v3_4 + (1 : Int32)).toInt = v3_4.toInt + (1 : Int32).toInt := cr_add (by omega)
                refine lv_iinc (v := (v3_4 + (1 : Int32))) (lv' := [(3, .int (v3_4 + (1 : Int32))), (4, .int (0 : Int32)), (0, .ref (alk 0)), (1, .int x1), (2, .int v2_4)]) hx hb nd_Locks_longestSpinnerFor_52 hl (k := 4) rfl (by rfl) (by decide) rfl (fun ls hl => ?_)
                refine lv_goto (tgt := 4) hx hb nd_Locks_longestSpinnerFor_55 (by decide) ?_
                exact ih_4 v2_4 (v3_4 + (1 : Int32)) (by omega) (by omega) (by omega) hM _ _ hP hD hS _ (lv_sub hl [2, 3, 4, 0] rfl)
              · exact absurd c_16 (by decide)
          · have c_11t := cr_nle c_11
            rw [if_neg c_11] at hM
            refine lv_iconst (v := 1) hx hb nd_Locks_longestSpinnerFor_28 (by decide) ?_
            refine lv_goto (tgt := 33) hx hb nd_Locks_longestSpinnerFor_29 (by decide) ?_
            refine lv_istore (lv' := [(4, .int (1 : Int32)), (0, .ref (alk 0)), (1, .int x1), (2, .int v2_4), (3, .int v3_4)]) hx hb nd_Locks_longestSpinnerFor_33 hl (by decide) rfl (fun ls hl => ?_)
            refine lv_aload_n hx hb nd_Locks_longestSpinnerFor_35 rfl (lv_at hl 1 rfl) ?_
            refine va_get (D := (dC, dI)) (ci := 2) (v := .ref (alk 2)) (C := "CeilingRows$Locks") (T := nf_Locks) (N := 4) hx hb hts nin_Locks hown hK hP 0 rfl rfl 1 (by decide) (hts _ tw_101) (fun _ h9 => h9) rfl nd_Locks_longestSpinnerFor_36 ?_
            refine lv_iload_n hx hb nd_Locks_longestSpinnerFor_39 rfl (lv_at hl 4 rfl) ?_
            have b_18 : vp_in v3_4 4 := vp_in_iff.mpr (by omega)
            refine va_iald hx hb hK hP 2 0 rfl rfl b_18 nd_Locks_longestSpinnerFor_40 ?_
            have f_19 := cr_rgo hR_lk.2 (v3_4.toNatClampNeg)
            refine lv_iload_n hx hb nd_Locks_longestSpinnerFor_41 rfl (lv_at hl 2 rfl) ?_
            refine lv_icmp_ne (tgt := 52) hx hb nd_Locks_longestSpinnerFor_42 (by decide) (fun c_20 => ?_) (fun c_20 => ?_)
            · have c_20t := cr_ne c_20
              rw [if_neg c_20] at hM
              have e_21 : (v3_4 + (1 : Int32)).toInt = v3_4.toInt + (1 : Int32).toInt := cr_add (by omega)
              refine lv_iinc (v := (v3_4 + (1 : Int32))) (lv' := [(3, .int (v3_4 + (1 : Int32))), (4, .int (1 : Int32)), (0, .ref (alk 0)), (1, .int x1), (2, .int v2_4)]) hx hb nd_Locks_longestSpinnerFor_52 hl (k := 4) rfl (by rfl) (by decide) rfl (fun ls hl => ?_)
              refine lv_goto (tgt := 4) hx hb nd_Locks_longestSpinnerFor_55 (by decide) ?_
              exact ih_4 v2_4 (v3_4 + (1 : Int32)) (by omega) (by omega) (by omega) hM _ _ hP hD hS _ (lv_sub hl [2, 3, 4, 0] rfl)
            · have c_20t := cr_eq c_20
              rw [if_pos c_20] at hM
              refine lv_iload hx hb nd_Locks_longestSpinnerFor_45 (lv_at hl 0 rfl) ?_
              refine lv_if_eq (tgt := 52) hx hb nd_Locks_longestSpinnerFor_47 (by decide) (fun c_22 => ?_) (fun c_22 => ?_)
              · exact absurd c_22 (by decide)
              · refine lv_iload_n hx hb nd_Locks_longestSpinnerFor_50 rfl (lv_at hl 4 rfl) ?_
                refine lv_istore_n (lv' := [(2, .int v3_4), (4, .int (1 : Int32)), (0, .ref (alk 0)), (1, .int x1), (3, .int v3_4)]) hx hb nd_Locks_longestSpinnerFor_51 rfl hl (by decide) rfl (fun ls hl => ?_)
                have e_23 : (v3_4 + (1 : Int32)).toInt = v3_4.toInt + (1 : Int32).toInt := cr_add (by omega)
                refine lv_iinc (v := (v3_4 + (1 : Int32))) (lv' := [(3, .int (v3_4 + (1 : Int32))), (2, .int v3_4), (4, .int (1 : Int32)), (0, .ref (alk 0)), (1, .int x1)]) hx hb nd_Locks_longestSpinnerFor_52 hl (k := 4) rfl (by rfl) (by decide) rfl (fun ls hl => ?_)
                refine lv_goto (tgt := 4) hx hb nd_Locks_longestSpinnerFor_55 (by decide) ?_
                exact ih_4 v3_4 (v3_4 + (1 : Int32)) (by omega) (by omega) (by omega) hM _ _ hP hD hS _ (lv_sub hl [3, 4, 1, 0] rfl)
  exact lp_4 4 (0 : Int32) (1 : Int32) (by omega) (by omega) (by omega) hM _ _ hP hD hS _ hl

theorem nd_Locks_waitsForItself_0 : decode prog_3_method_7_code 0 = .ok (.iload_n 1, 1) := by decide +kernel
theorem nd_Locks_waitsForItself_1 : decode prog_3_method_7_code 1 = .ok (.istore_n 2, 1) := by decide +kernel
theorem nd_Locks_waitsForItself_2 : decode prog_3_method_7_code 2 = .ok (.iconst 0, 1) := by decide +kernel
theorem nd_Locks_waitsForItself_3 : decode prog_3_method_7_code 3 = .ok (.istore_n 3, 1) := by decide +kernel
theorem nd_Locks_waitsForItself_4 : decode prog_3_method_7_code 4 = .ok (.iload_n 3, 1) := by decide +kernel
theorem nd_Locks_waitsForItself_5 : decode prog_3_method_7_code 5 = .ok (.iconst 3, 1) := by decide +kernel
theorem nd_Locks_waitsForItself_6 : decode prog_3_method_7_code 6 = .ok (.if_icmp .ge (36), 3) := by decide +kernel
theorem nd_Locks_waitsForItself_9 : decode prog_3_method_7_code 9 = .ok (.aload_n 0, 1) := by decide +kernel
theorem nd_Locks_waitsForItself_10 : decode prog_3_method_7_code 10 = .ok (.iload_n 2, 1) := by decide +kernel
theorem nd_Locks_waitsForItself_11 : decode prog_3_method_7_code 11 = .ok (.invokevirtual 32, 3) := by decide +kernel
theorem nd_Locks_waitsForItself_14 : decode prog_3_method_7_code 14 = .ok (.ifCond .eq (28), 3) := by decide +kernel
theorem nd_Locks_waitsForItself_17 : decode prog_3_method_7_code 17 = .ok (.aload_n 0, 1) := by decide +kernel
theorem nd_Locks_waitsForItself_18 : decode prog_3_method_7_code 18 = .ok (.getfield 9, 3) := by decide +kernel
theorem nd_Locks_waitsForItself_21 : decode prog_3_method_7_code 21 = .ok (.aload_n 0, 1) := by decide +kernel
theorem nd_Locks_waitsForItself_22 : decode prog_3_method_7_code 22 = .ok (.getfield 15, 3) := by decide +kernel
theorem nd_Locks_waitsForItself_25 : decode prog_3_method_7_code 25 = .ok (.iload_n 2, 1) := by decide +kernel
theorem nd_Locks_waitsForItself_26 : decode prog_3_method_7_code 26 = .ok (.iaload, 1) := by decide +kernel
theorem nd_Locks_waitsForItself_27 : decode prog_3_method_7_code 27 = .ok (.iaload, 1) := by decide +kernel
theorem nd_Locks_waitsForItself_28 : decode prog_3_method_7_code 28 = .ok (.istore_n 2, 1) := by decide +kernel
theorem nd_Locks_waitsForItself_29 : decode prog_3_method_7_code 29 = .ok (.iload_n 2, 1) := by decide +kernel
theorem nd_Locks_waitsForItself_30 : decode prog_3_method_7_code 30 = .ok (.iload_n 1, 1) := by decide +kernel
theorem nd_Locks_waitsForItself_31 : decode prog_3_method_7_code 31 = .ok (.if_icmp .ne (5), 3) := by decide +kernel
theorem nd_Locks_waitsForItself_34 : decode prog_3_method_7_code 34 = .ok (.iconst 1, 1) := by decide +kernel
theorem nd_Locks_waitsForItself_35 : decode prog_3_method_7_code 35 = .ok (.ireturn, 1) := by decide +kernel
theorem nd_Locks_waitsForItself_36 : decode prog_3_method_7_code 36 = .ok (.iinc 3 1, 3) := by decide +kernel
theorem nd_Locks_waitsForItself_39 : decode prog_3_method_7_code 39 = .ok (.goto (-35), 3) := by decide +kernel
theorem nd_Locks_waitsForItself_42 : decode prog_3_method_7_code 42 = .ok (.iconst 0, 1) := by decide +kernel
theorem nd_Locks_waitsForItself_43 : decode prog_3_method_7_code 43 = .ok (.ireturn, 1) := by decide +kernel
def lo_Locks_waitsForItself_4 (lk : cr_S) (x1 : Int32) : Nat → Int32 → Int32 → Int32
  | 0, _, _ => 0
  | n_4 + 1, v2_4, v3_4 =>
    (if (3 : Int32) ≤ v3_4 then (0 : Int32) else (if (md_Locks_spins lk v2_4) = 0 then (0 : Int32) else (if (lk 1 (lk 2 v2_4.toNatClampNeg).toNatClampNeg) = x1 then (1 : Int32) else (lo_Locks_waitsForItself_4 lk x1 n_4 (lk 1 (lk 2 v2_4.toNatClampNeg).toNatClampNeg) (v3_4 + (1 : Int32))))))
def md_Locks_waitsForItself (lk : cr_S) (x1 : Int32) : Int32 :=
  (lo_Locks_waitsForItself_4 lk x1 4 x1 (0 : Int32))
abbrev pq_Locks_waitsForItself (dC : Nat → ClassId) (dI : Nat → Nat → Nat) (cI cZ cO : ClassId) (alk : Nat → Nat) (lk : cr_S) (x1 : Int32) (A : Nat → Prop) : Array Value → State → Outcome → State → Prop :=
  va_Qi (fun (r : Int32) (_ : Unit) => r = md_Locks_waitsForItself lk x1) (fun (_ : Unit) t => va_P (dC, dI) vwCl (cw_Locks cI cZ cO alk lk) t.heap ∧ va_K (dC, dI) vwCl [(cI, .int), (cZ, .boolean), (cO, .array .int)] t ∧ va_D A (cw_Locks cI cZ cO alk lk)) A
set_option maxHeartbeats 4000000 in
set_option maxRecDepth 100000 in
theorem ct_Locks_waitsForItself (l : Launch) (dC : Nat → ClassId) (dI : Nat → Nat → Nat) (cI cZ cO : ClassId) (alk : Nat → Nat) (sz : Nat) (lk : cr_S) (x1 : Int32) (hR_lk : cr_RLocks lk) (hx1 : 1 ≤ x1.toInt ∧ x1.toInt ≤ 3) : Met l ny_Locks_waitsForItself nw_Locks_waitsForItself ({ frames := 1, cells := 0, slots := 0, locals := 21 } : Room) (va_Pc [.ref (alk 0), .int x1] (fun U => U.heap.size = sz ∧ va_P (dC, dI) vwCl (cw_Locks cI cZ cO alk lk) U.heap ∧ va_K (dC, dI) vwCl [(cI, .int), (cZ, .boolean), (cO, .array .int)] U ∧ va_D (fun _ => True) (cw_Locks cI cZ cO alk lk))) (pq_Locks_waitsForItself dC dI cI cZ cO alk lk x1 (va_A (cw_Locks cI cZ cO alk lk) sz)) 0 0 (va_A (cw_Locks cI cZ cO alk lk) sz) := by
  refine Met.ofW (cc := prog_3_method_7_code) (maxL := 4) (ret := (some .boolean)) (by decide) rfl ?_
  intro p e s m args below meth c s₁ B hml hv
  obtain ⟨rfl, hsz, hP, hK, hD0⟩ := hv
  have hx := B.exec
  have hb := B.bytes
  have hr := B.returns
  have hts0 := atoms_spec (ws := nw_Locks_waitsForItself) B.pre
  have hts : ∀ w ∈ ng_tbl, w.before ([.ref (alk 0), .int x1] : List Value).toArray s = true := fun w h => hts0 w (List.mem_cons_of_mem _ h)
  have hown : s.vm.findClass "CeilingRows$Locks" = some m.cls := findClass_of_methodNamed B.named
  have hlocks := B.notSynchronized
  subst hsz
  have hD := hD0.self (sz := s.heap.size)
  generalize hAe : va_A (cw_Locks cI cZ cO alk lk) s.heap.size = A at hD ⊢
  have hA : ∀ q : Nat, s.heap.size ≤ q → A q := fun q h => by rw [← hAe]; exact Or.inr h
  have hS : va_S A s.heap s.heap [] := va_S.rf
  have hP : va_P (dC, dI) vwCl (cw_Locks cI cZ cO alk lk) s.heap := hP
  have hl := lv_entry ([.ref (alk 0), .int x1]) (n := 4) (Nat.le_of_ble_eq_true rfl)
  rw [lg_entry_eq]
  generalize (lg_sl ([.ref (alk 0), .int x1]) ++ List.replicate (4 - (lg_sl ([.ref (alk 0), .int x1])).length) Slot.unset).toArray = ls at hl ⊢
  have hl : lv_has ls 4 [(0, .ref (alk 0)), (1, .int x1)] := hl
  have k_0 : (0 : Int32).toInt = 0 := by decide
  have k_1 : (1 : Int32).toInt = 1 := by decide
  have k_3 : (3 : Int32).toInt = 3 := by decide
  obtain ⟨tgt, hT⟩ : ∃ z, md_Locks_waitsForItself lk x1 = z := ⟨_, rfl⟩
  have hM := hT
  unfold md_Locks_waitsForItself at hM
  refine lv_iload_n hx hb nd_Locks_waitsForItself_0 rfl (lv_at hl 1 rfl) ?_
  refine lv_istore_n (lv' := [(2, .int x1), (0, .ref (alk 0)), (1, .int x1)]) hx hb nd_Locks_waitsForItself_1 rfl hl (by decide) rfl (fun ls hl => ?_)
  refine lv_iconst (v := 0) hx hb nd_Locks_waitsForItself_2 (by decide) ?_
  refine lv_istore_n (lv' := [(3, .int (0 : Int32)), (2, .int x1), (0, .ref (alk 0)), (1, .int x1)]) hx hb nd_Locks_waitsForItself_3 rfl hl (by decide) rfl (fun ls hl => ?_)
  have hl := lv_sub hl [2, 3, 1, 0] rfl
  have lp_4 : ∀ (n_4 : Nat) (v2_4 : Int32) (v3_4 : Int32), (0 ≤ v3_4.toInt ∧ v3_4.toInt ≤ 3) → (0 ≤ v2_4.toInt ∧ v2_4.toInt ≤ 3) → (3 < v3_4.toInt + (n_4 : Int)) → lo_Locks_waitsForItself_4 lk x1 n_4 v2_4 v3_4 = tgt → ∀ (H : Heap) (locs : List Loc), va_P (dC, dI) vwCl (cw_Locks cI cZ cO alk lk) H → va_D A (cw_Locks cI cZ cO alk lk) → va_S A s.heap H locs → ∀ ls : Array Slot, lv_has ls 4 [(0, .ref (alk 0)), (1, .int x1), (2, .int v2_4), (3, .int v3_4)] → W p l e (headSpec nw_Locks_waitsForItself ({ frames := 1, cells := 0, slots := 0, locals := 21 } : Room)).room s m ([.ref (alk 0), .int x1] : List Value).toArray below meth c H locs 0 0 (MQ below (pq_Locks_waitsForItself dC dI cI cZ cO alk lk x1 A) ([.ref (alk 0), .int x1] : List Value).toArray s 0 0 A) (F0 m 4 ls []) := by
    intro n_4
    induction n_4 with
    | zero =>
      intro v2_4 v3_4 hv3_4 hv2_4 hn_4
      exfalso; omega
    | succ n_4 ih_4 =>
      intro v2_4 v3_4 hv3_4 hv2_4 hn_4 hM H locs hP hD hS ls hl
      have hn_4 : 3 < v3_4.toInt + ((n_4 : Int) + 1) := by omega
      rw [lo_Locks_waitsForItself_4] at hM
      refine lv_iload_n hx hb nd_Locks_waitsForItself_4 rfl (lv_at hl 3 rfl) ?_
      refine lv_iconst (v := 3) hx hb nd_Locks_waitsForItself_5 (by decide) ?_
      refine lv_icmp_ge (tgt := 42) hx hb nd_Locks_waitsForItself_6 (by decide) (fun c_1 => ?_) (fun c_1 => ?_)
      · have c_1t := cr_le c_1
        rw [if_pos c_1] at hM
        refine lv_iconst (v := 0) hx hb nd_Locks_waitsForItself_42 (by decide) ?_
        exact W.zret (v := (0 : Int32)) (ty := .boolean) hx hb hr (by decide) (fun t ht hW => ⟨⟨(0 : Int32), (), rfl, by rw [hT, ← hM], by rw [ht]; exact hP, va_K.moved hW.alike hK, hD⟩, hS.F ht⟩) hS.2.2 nd_Locks_waitsForItself_43
      · have c_1t := cr_nle c_1
        rw [if_neg c_1] at hM
        refine lv_aload_n hx hb nd_Locks_waitsForItself_9 rfl (lv_at hl 0 rfl) ?_
        refine lv_iload_n hx hb nd_Locks_waitsForItself_10 rfl (lv_at hl 2 rfl) ?_
        have hPc := hP
        have hDc := hD
        have hFc := va_free (wc := cw_Locks cI cZ cO alk lk) hD hS hA [0, 1, 2, 3] rfl
        refine va_calli (va_runV (As := [.int v2_4]) (rest := []) ⟨hx, hb, hml, hown, hts⟩ (ct_Locks_spins l dC dI cI cZ cO alk H.size lk v2_4 hR_lk (by omega)) (cwV 1 hts (ng_V tw_336 tw_235 tw_236 tw_4 tw_237) rfl rfl rfl (by decide +kernel) ⟨Nat.le_of_ble_eq_true rfl, Nat.le_of_ble_eq_true rfl⟩) ⟨fun a U g mk q => by obtain ⟨q0, q1, qP, qK, qD⟩ := q; exact ⟨q0, q1, qP, va_K.moved (u := U) (U := U.calling g mk a) (Vm.Alike.refl U.vm) qK, qD⟩, va_recv hK hPc (ci := 2) (q0 := 0) rfl rfl, fun U hU hW => ⟨rfl, by rw [hU], by rw [hU]; exact hPc, va_K.moved hW.alike hK, hDc.weaken (fun _ _ _ _ => trivial)⟩⟩ rfl rfl hl.1 rfl (lv_room (Nat.le_of_ble_eq_true rfl)) nd_Locks_waitsForItself_11 ⟨Nat.zero_le _, Nat.zero_le _⟩) hS (fun q _ h => hFc q h) hFc (fun r_2 u t H1 locs ht hvm hw hB hz1 hk1 hS => ?_)
        obtain ⟨hP1, hK1, hD1⟩ := hB
        rw [ht] at hP1
        have w_3 := hw
        try rw [← w_3] at hM
        have hP := hP1
        have hD := cr_Dw hD1 hFc
        generalize H1 = H at hP hS ⊢
        refine lv_if_eq (tgt := 42) hx hb nd_Locks_waitsForItself_14 (by decide) (fun c_4 => ?_) (fun c_4 => ?_)
        · have c_4t := cr_eq c_4
          rw [if_pos c_4] at hM
          refine lv_iconst (v := 0) hx hb nd_Locks_waitsForItself_42 (by decide) ?_
          exact W.zret (v := (0 : Int32)) (ty := .boolean) hx hb hr (by decide) (fun t ht hW => ⟨⟨(0 : Int32), (), rfl, by rw [hT, ← hM], by rw [ht]; exact hP, va_K.moved hW.alike hK, hD⟩, hS.F ht⟩) hS.2.2 nd_Locks_waitsForItself_43
        · have c_4t := cr_ne c_4
          rw [if_neg c_4] at hM
          refine lv_aload_n hx hb nd_Locks_waitsForItself_17 rfl (lv_at hl 0 rfl) ?_
          refine va_get (D := (dC, dI)) (ci := 2) (v := .ref (alk 1)) (C := "CeilingRows$Locks") (T := nf_Locks) (N := 4) hx hb hts nin_Locks hown hK hP 0 rfl rfl 0 (by decide) (hts _ tw_100) (fun _ h9 => h9) rfl nd_Locks_waitsForItself_18 ?_
          refine lv_aload_n hx hb nd_Locks_waitsForItself_21 rfl (lv_at hl 0 rfl) ?_
          refine va_get (D := (dC, dI)) (ci := 2) (v := .ref (alk 2)) (C := "CeilingRows$Locks") (T := nf_Locks) (N := 4) hx hb hts nin_Locks hown hK hP 0 rfl rfl 1 (by decide) (hts _ tw_101) (fun _ h9 => h9) rfl nd_Locks_waitsForItself_22 ?_
          refine lv_iload_n hx hb nd_Locks_waitsForItself_25 rfl (lv_at hl 2 rfl) ?_
          have b_5 : vp_in v2_4 4 := vp_in_iff.mpr (by omega)
          refine va_iald hx hb hK hP 2 0 rfl rfl b_5 nd_Locks_waitsForItself_26 ?_
          have f_6 := cr_rgo hR_lk.2 (v2_4.toNatClampNeg)
          have b_7 : vp_in (lk 2 v2_4.toNatClampNeg) 9 := vp_in_iff.mpr (by omega)
          refine va_iald hx hb hK hP 1 0 rfl rfl b_7 nd_Locks_waitsForItself_27 ?_
          have f_8 := cr_rgo hR_lk.1 ((lk 2 v2_4.toNatClampNeg).toNatClampNeg)
          refine lv_istore_n (lv' := [(2, .int (lk 1 (lk 2 v2_4.toNatClampNeg).toNatClampNeg)), (0, .ref (alk 0)), (1, .int x1), (3, .int v3_4)]) hx hb nd_Locks_waitsForItself_28 rfl hl (by decide) rfl (fun ls hl => ?_)
          refine lv_iload_n hx hb nd_Locks_waitsForItself_29 rfl (lv_at hl 0 rfl) ?_
          refine lv_iload_n hx hb nd_Locks_waitsForItself_30 rfl (lv_at hl 2 rfl) ?_
          refine lv_icmp_ne (tgt := 36) hx hb nd_Locks_waitsForItself_31 (by decide) (fun c_9 => ?_) (fun c_9 => ?_)
          · have c_9t := cr_ne c_9
            rw [if_neg c_9] at hM
            have e_10 : (v3_4 + (1 : Int32)).toInt = v3_4.toInt + (1 : Int32).toInt := cr_add (by omega)
            refine lv_iinc (v := (v3_4 + (1 : Int32))) (lv' := [(3, .int (v3_4 + (1 : Int32))), (2, .int (lk 1 (lk 2 v2_4.toNatClampNeg).toNatClampNeg)), (0, .ref (alk 0)), (1, .int x1)]) hx hb nd_Locks_waitsForItself_36 hl (k := 3) rfl (by rfl) (by decide) rfl (fun ls hl => ?_)
            refine lv_goto (tgt := 4) hx hb nd_Locks_waitsForItself_39 (by decide) ?_
            exact ih_4 (lk 1 (lk 2 v2_4.toNatClampNeg).toNatClampNeg) (v3_4 + (1 : Int32)) (by omega) (by omega) (by omega) hM _ _ hP hD hS _ (lv_sub hl [2, 3, 1, 0] rfl)
          · have c_9t := cr_eq c_9
            rw [if_pos c_9] at hM
            refine lv_iconst (v := 1) hx hb nd_Locks_waitsForItself_34 (by decide) ?_
            exact W.zret (v := (1 : Int32)) (ty := .boolean) hx hb hr (by decide) (fun t ht hW => ⟨⟨(1 : Int32), (), rfl, by rw [hT, ← hM], by rw [ht]; exact hP, va_K.moved hW.alike hK, hD⟩, hS.F ht⟩) hS.2.2 nd_Locks_waitsForItself_35
  exact lp_4 4 x1 (0 : Int32) (by omega) (by omega) (by omega) hM _ _ hP hD hS _ hl
end
