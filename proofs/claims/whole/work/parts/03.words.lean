theorem tp_0 : Cond.selects "CeilingRows" (⟨"CeilingRows", "perform", "(III)I"⟩ : MethodName) (⟨"CeilingRows", "perform", "(III)I"⟩ : MethodName) ∈ ng_tbl := ng_p 0 rfl rfl
theorem tp_1 : Cond.selects "CeilingRows" (⟨"CeilingRows", "startTask", "(I)I"⟩ : MethodName) (⟨"CeilingRows", "startTask", "(I)I"⟩ : MethodName) ∈ ng_tbl := ng_p 1 rfl rfl
theorem tp_2 : Cond.selects "CeilingRows" (⟨"CeilingRows", "runs", "(I)Z"⟩ : MethodName) (⟨"CeilingRows", "runs", "(I)Z"⟩ : MethodName) ∈ ng_tbl := ng_p 2 rfl rfl
theorem tp_3 : Cond.selects "CeilingRows" (⟨"CeilingRows", "sendEvent", "(I)I"⟩ : MethodName) (⟨"CeilingRows", "sendEvent", "(I)I"⟩ : MethodName) ∈ ng_tbl := ng_p 3 rfl rfl
theorem tp_4 : Cond.selects "CeilingRows" (⟨"CeilingRows", "takeResource", "(II)I"⟩ : MethodName) (⟨"CeilingRows", "takeResource", "(II)I"⟩ : MethodName) ∈ ng_tbl := ng_p 4 rfl rfl
theorem tp_5 : Cond.selects "CeilingRows" (⟨"CeilingRows", "giveBackResource", "(II)I"⟩ : MethodName) (⟨"CeilingRows", "giveBackResource", "(II)I"⟩ : MethodName) ∈ ng_tbl := ng_p 5 rfl rfl
theorem tp_6 : Cond.selects "CeilingRows" (⟨"CeilingRows", "endTask", "(I)I"⟩ : MethodName) (⟨"CeilingRows", "endTask", "(I)I"⟩ : MethodName) ∈ ng_tbl := ng_p 6 rfl rfl
theorem tp_7 : Cond.selects "CeilingRows" (⟨"CeilingRows", "waitForEvent", "(I)I"⟩ : MethodName) (⟨"CeilingRows", "waitForEvent", "(I)I"⟩ : MethodName) ∈ ng_tbl := ng_p 7 rfl rfl
theorem tp_8 : Cond.selects "CeilingRows$Locks" (⟨"CeilingRows$Locks", "lastTakenBy", "(I)I"⟩ : MethodName) (⟨"CeilingRows$Locks", "lastTakenBy", "(I)I"⟩ : MethodName) ∈ ng_tbl := ng_p 8 rfl rfl
theorem tp_9 : Cond.selects "CeilingRows$Locks" (⟨"CeilingRows$Locks", "longestSpinnerFor", "(I)I"⟩ : MethodName) (⟨"CeilingRows$Locks", "longestSpinnerFor", "(I)I"⟩ : MethodName) ∈ ng_tbl := ng_p 9 rfl rfl
theorem tp_10 : Cond.selects "CeilingRows$Trial" (⟨"CeilingRows$Trial", "clear", "()V"⟩ : MethodName) (⟨"CeilingRows$Trial", "clear", "()V"⟩ : MethodName) ∈ ng_tbl := ng_p 10 rfl rfl
theorem tp_11 : Cond.selects "CeilingRows$Trial" (⟨"CeilingRows$Trial", "startThoseDue", "(JI)V"⟩ : MethodName) (⟨"CeilingRows$Trial", "startThoseDue", "(JI)V"⟩ : MethodName) ∈ ng_tbl := ng_p 11 rfl rfl
theorem tp_12 : Cond.selects "CeilingRows$Trial" (⟨"CeilingRows$Trial", "haveTick", "(I)V"⟩ : MethodName) (⟨"CeilingRows$Trial", "haveTick", "(I)V"⟩ : MethodName) ∈ ng_tbl := ng_p 12 rfl rfl
theorem tp_13 : Cond.selects "CeilingRows$Trial" (⟨"CeilingRows$Trial", "resourceAt", "(II)I"⟩ : MethodName) (⟨"CeilingRows$Trial", "resourceAt", "(II)I"⟩ : MethodName) ∈ ng_tbl := ng_p 13 rfl rfl
theorem tp_14 : Cond.selects "CeilingRows$Trial" (⟨"CeilingRows$Trial", "ticksWith", "(II)I"⟩ : MethodName) (⟨"CeilingRows$Trial", "ticksWith", "(II)I"⟩ : MethodName) ∈ ng_tbl := ng_p 14 rfl rfl
theorem tp_15 : Cond.selects "CeilingRows$Trial" (⟨"CeilingRows$Trial", "noteDelays", "(II)V"⟩ : MethodName) (⟨"CeilingRows$Trial", "noteDelays", "(II)V"⟩ : MethodName) ∈ ng_tbl := ng_p 15 rfl rfl
theorem tp_16 : Cond.selects "CeilingRows$Trial" (⟨"CeilingRows$Trial", "ticksOf", "(I)I"⟩ : MethodName) (⟨"CeilingRows$Trial", "ticksOf", "(I)I"⟩ : MethodName) ∈ ng_tbl := ng_p 16 rfl rfl
theorem tp_17 : Cond.selects "CeilingRows$Trial" (⟨"CeilingRows$Trial", "countDelays", "(I)I"⟩ : MethodName) (⟨"CeilingRows$Trial", "countDelays", "(I)I"⟩ : MethodName) ∈ ng_tbl := ng_p 17 rfl rfl
theorem tw_1 : (Jvm.Cond.initialized "CeilingRows") ∈ ng_tbl := ng_t 1 rfl rfl
theorem tw_2 : (Jvm.Cond.initialized "CeilingRows$Plan") ∈ ng_tbl := ng_t 2 rfl rfl
theorem tw_3 : (Jvm.Cond.initialized "CeilingRows$Board") ∈ ng_tbl := ng_t 3 rfl rfl
theorem tw_4 : (Jvm.Cond.initialized "CeilingRows$Locks") ∈ ng_tbl := ng_t 4 rfl rfl
theorem tw_5 : (Jvm.Cond.initialized "CeilingRows$Trial") ∈ ng_tbl := ng_t 5 rfl rfl
theorem tw_7 : (Jvm.Cond.initialized "java/lang/Math") ∈ ng_tbl := ng_t 7 rfl rfl
theorem tw_8 : (Jvm.Cond.initialized "java/util/Arrays") ∈ ng_tbl := ng_t 8 rfl rfl
theorem tw_9 : (Jvm.Cond.initialized "java/lang/Integer") ∈ ng_tbl := ng_t 9 rfl rfl
theorem tw_26 : (Jvm.Cond.fieldLink "CeilingRows$Plan" (29 : Nat) "CeilingRows$Plan" "taskCount" "I") ∈ ng_tbl := ng_t 26 rfl rfl
theorem tw_27 : (Jvm.Cond.fieldLink "CeilingRows$Trial" (40 : Nat) "CeilingRows$Plan" "taskCount" "I") ∈ ng_tbl := ng_t 27 rfl rfl
theorem tw_28 : (Jvm.Cond.fieldLink "CeilingRows" (51 : Nat) "CeilingRows$Plan" "taskCount" "I") ∈ ng_tbl := ng_t 28 rfl rfl
theorem tw_29 : (Jvm.Cond.fieldLink "CeilingRows$Board" (41 : Nat) "CeilingRows$Plan" "taskCount" "I") ∈ ng_tbl := ng_t 29 rfl rfl
theorem tw_30 : (Jvm.Cond.fieldLink "CeilingRows" (59 : Nat) "CeilingRows$Plan" "resourceCount" "I") ∈ ng_tbl := ng_t 30 rfl rfl
theorem tw_31 : (Jvm.Cond.fieldLink "CeilingRows$Plan" (33 : Nat) "CeilingRows$Plan" "resourceCount" "I") ∈ ng_tbl := ng_t 31 rfl rfl
theorem tw_32 : (Jvm.Cond.fieldLink "CeilingRows$Board" (52 : Nat) "CeilingRows$Plan" "resourceCount" "I") ∈ ng_tbl := ng_t 32 rfl rfl
theorem tw_33 : (Jvm.Cond.fieldLink "CeilingRows$Trial" (118 : Nat) "CeilingRows$Plan" "resourceCount" "I") ∈ ng_tbl := ng_t 33 rfl rfl
theorem tw_34 : (Jvm.Cond.fieldLink "CeilingRows$Plan" (9 : Nat) "CeilingRows$Plan" "rankOf" "[I") ∈ ng_tbl := ng_t 34 rfl rfl
theorem tw_35 : (Jvm.Cond.fieldLink "CeilingRows$Board" (49 : Nat) "CeilingRows$Plan" "rankOf" "[I") ∈ ng_tbl := ng_t 35 rfl rfl
theorem tw_36 : (Jvm.Cond.fieldLink "CeilingRows$Plan" (15 : Nat) "CeilingRows$Plan" "coreOf" "[I") ∈ ng_tbl := ng_t 36 rfl rfl
theorem tw_37 : (Jvm.Cond.fieldLink "CeilingRows$Board" (46 : Nat) "CeilingRows$Plan" "coreOf" "[I") ∈ ng_tbl := ng_t 37 rfl rfl
theorem tw_38 : (Jvm.Cond.fieldLink "CeilingRows" (74 : Nat) "CeilingRows$Plan" "coreOf" "[I") ∈ ng_tbl := ng_t 38 rfl rfl
theorem tw_39 : (Jvm.Cond.fieldLink "CeilingRows$Plan" (18 : Nat) "CeilingRows$Plan" "ceilingOf" "[I") ∈ ng_tbl := ng_t 39 rfl rfl
theorem tw_40 : (Jvm.Cond.fieldLink "CeilingRows" (92 : Nat) "CeilingRows$Plan" "ceilingOf" "[I") ∈ ng_tbl := ng_t 40 rfl rfl
theorem tw_41 : (Jvm.Cond.fieldLink "CeilingRows$Board" (55 : Nat) "CeilingRows$Plan" "ceilingOf" "[I") ∈ ng_tbl := ng_t 41 rfl rfl
theorem tw_42 : (Jvm.Cond.fieldLink "CeilingRows$Plan" (21 : Nat) "CeilingRows$Plan" "userCoreOf" "[I") ∈ ng_tbl := ng_t 42 rfl rfl
theorem tw_43 : (Jvm.Cond.fieldLink "CeilingRows$Plan" (26 : Nat) "CeilingRows$Plan" "lengthOf" "[[I") ∈ ng_tbl := ng_t 43 rfl rfl
theorem tw_44 : (Jvm.Cond.fieldLink "CeilingRows$Trial" (112 : Nat) "CeilingRows$Plan" "lengthOf" "[[I") ∈ ng_tbl := ng_t 44 rfl rfl
theorem tw_67 : (Jvm.Cond.fieldLink "CeilingRows$Board" (27 : Nat) "CeilingRows$Board" "plan" "LCeilingRows$Plan;") ∈ ng_tbl := ng_t 67 rfl rfl
theorem tw_68 : (Jvm.Cond.fieldLink "CeilingRows$Board" (9 : Nat) "CeilingRows$Board" "stateOf" "[I") ∈ ng_tbl := ng_t 68 rfl rfl
theorem tw_69 : (Jvm.Cond.fieldLink "CeilingRows$Trial" (100 : Nat) "CeilingRows$Board" "stateOf" "[I") ∈ ng_tbl := ng_t 69 rfl rfl
theorem tw_70 : (Jvm.Cond.fieldLink "CeilingRows" (143 : Nat) "CeilingRows$Board" "stateOf" "[I") ∈ ng_tbl := ng_t 70 rfl rfl
theorem tw_71 : (Jvm.Cond.fieldLink "CeilingRows$Board" (15 : Nat) "CeilingRows$Board" "readyOrderOf" "[I") ∈ ng_tbl := ng_t 71 rfl rfl
theorem tw_72 : (Jvm.Cond.fieldLink "CeilingRows$Board" (37 : Nat) "CeilingRows$Board" "readyOrder" "I") ∈ ng_tbl := ng_t 72 rfl rfl
theorem tw_73 : (Jvm.Cond.fieldLink "CeilingRows$Board" (18 : Nat) "CeilingRows$Board" "lastTakenBy" "[I") ∈ ng_tbl := ng_t 73 rfl rfl
theorem tw_74 : (Jvm.Cond.fieldLink "CeilingRows" (169 : Nat) "CeilingRows$Board" "lastTakenBy" "[I") ∈ ng_tbl := ng_t 74 rfl rfl
theorem tw_75 : (Jvm.Cond.fieldLink "CeilingRows$Board" (21 : Nat) "CeilingRows$Board" "holderOf" "[I") ∈ ng_tbl := ng_t 75 rfl rfl
theorem tw_76 : (Jvm.Cond.fieldLink "CeilingRows$Trial" (81 : Nat) "CeilingRows$Board" "holderOf" "[I") ∈ ng_tbl := ng_t 76 rfl rfl
theorem tw_77 : (Jvm.Cond.fieldLink "CeilingRows" (105 : Nat) "CeilingRows$Board" "holderOf" "[I") ∈ ng_tbl := ng_t 77 rfl rfl
theorem tw_78 : (Jvm.Cond.fieldLink "CeilingRows$Board" (24 : Nat) "CeilingRows$Board" "takenBefore" "[I") ∈ ng_tbl := ng_t 78 rfl rfl
theorem tw_100 : (Jvm.Cond.fieldLink "CeilingRows$Locks" (9 : Nat) "CeilingRows$Locks" "ownerOf" "[I") ∈ ng_tbl := ng_t 100 rfl rfl
theorem tw_101 : (Jvm.Cond.fieldLink "CeilingRows$Locks" (15 : Nat) "CeilingRows$Locks" "wantedBy" "[I") ∈ ng_tbl := ng_t 101 rfl rfl
theorem tw_102 : (Jvm.Cond.fieldLink "CeilingRows$Locks" (18 : Nat) "CeilingRows$Locks" "spinOrderOf" "[I") ∈ ng_tbl := ng_t 102 rfl rfl
theorem tw_103 : (Jvm.Cond.fieldLink "CeilingRows$Locks" (25 : Nat) "CeilingRows$Locks" "spinOrder" "I") ∈ ng_tbl := ng_t 103 rfl rfl
theorem tw_122 : (Jvm.Cond.fieldLink "CeilingRows$Trial" (20 : Nat) "CeilingRows$Trial" "plan" "LCeilingRows$Plan;") ∈ ng_tbl := ng_t 122 rfl rfl
theorem tw_123 : (Jvm.Cond.fieldLink "CeilingRows$Trial" (29 : Nat) "CeilingRows$Trial" "board" "LCeilingRows$Board;") ∈ ng_tbl := ng_t 123 rfl rfl
theorem tw_124 : (Jvm.Cond.fieldLink "CeilingRows$Trial" (9 : Nat) "CeilingRows$Trial" "ticksHad" "[I") ∈ ng_tbl := ng_t 124 rfl rfl
theorem tw_125 : (Jvm.Cond.fieldLink "CeilingRows$Trial" (17 : Nat) "CeilingRows$Trial" "delays" "[[I") ∈ ng_tbl := ng_t 125 rfl rfl
theorem tw_126 : (Jvm.Cond.fieldLink "CeilingRows$Trial" (36 : Nat) "CeilingRows$Trial" "endedCount" "I") ∈ ng_tbl := ng_t 126 rfl rfl
theorem tw_138 : (Jvm.Cond.fieldLink "CeilingRows" (12 : Nat) "CeilingRows" "plan" "LCeilingRows$Plan;") ∈ ng_tbl := ng_t 138 rfl rfl
theorem tw_139 : (Jvm.Cond.fieldLink "CeilingRows" (21 : Nat) "CeilingRows" "board" "LCeilingRows$Board;") ∈ ng_tbl := ng_t 139 rfl rfl
theorem tw_140 : (Jvm.Cond.fieldLink "CeilingRows" (28 : Nat) "CeilingRows" "locks" "LCeilingRows$Locks;") ∈ ng_tbl := ng_t 140 rfl rfl
theorem tw_141 : (Jvm.Cond.fieldLink "CeilingRows" (35 : Nat) "CeilingRows" "trial" "LCeilingRows$Trial;") ∈ ng_tbl := ng_t 141 rfl rfl
theorem tw_142 : (Jvm.Cond.fieldLink "CeilingRows" (39 : Nat) "CeilingRows" "eventKept" "[Z") ∈ ng_tbl := ng_t 142 rfl rfl
theorem tw_143 : (Jvm.Cond.fieldLink "CeilingRows" (43 : Nat) "CeilingRows" "latestTime" "J") ∈ ng_tbl := ng_t 143 rfl rfl
theorem tw_162 : (Jvm.Cond.methodLink "CeilingRows" (47 : Nat) ({ cls := "CeilingRows", name := "isCore", desc := "(I)Z" } : Jvm.MethodName)) ∈ ng_tbl := ng_t 162 rfl rfl
theorem tw_163 : (Jvm.Cond.static ({ cls := "CeilingRows", name := "isCore", desc := "(I)Z" } : Jvm.MethodName)) ∈ ng_tbl := ng_t 163 rfl rfl
theorem tw_164 : (Jvm.Cond.code ({ cls := "CeilingRows", name := "isCore", desc := "(I)Z" } : Jvm.MethodName) prog_1_method_14_code (1 : Nat) (Option.some Jvm.ClassFile.FieldType.boolean)) ∈ ng_tbl := ng_t 164 rfl rfl
theorem tw_165 : (Jvm.Cond.methodLink "CeilingRows" (55 : Nat) ({ cls := "CeilingRows$Plan", name := "addTask", desc := "(II)I" } : Jvm.MethodName)) ∈ ng_tbl := ng_t 165 rfl rfl
theorem tw_166 : (Jvm.Cond.instanceMethod ({ cls := "CeilingRows$Plan", name := "addTask", desc := "(II)I" } : Jvm.MethodName)) ∈ ng_tbl := ng_t 166 rfl rfl
theorem tw_167 : (Jvm.Cond.selects "CeilingRows$Plan" ({ cls := "CeilingRows$Plan", name := "addTask", desc := "(II)I" } : Jvm.MethodName) ({ cls := "CeilingRows$Plan", name := "addTask", desc := "(II)I" } : Jvm.MethodName)) ∈ ng_tbl := ng_t 167 rfl rfl
theorem tw_168 : (Jvm.Cond.code ({ cls := "CeilingRows$Plan", name := "addTask", desc := "(II)I" } : Jvm.MethodName) prog_4_method_4_code (3 : Nat) (Option.some Jvm.ClassFile.FieldType.int)) ∈ ng_tbl := ng_t 168 rfl rfl
theorem tw_173 : (Jvm.Cond.methodLink "CeilingRows" (62 : Nat) ({ cls := "CeilingRows$Plan", name := "addResource", desc := "()I" } : Jvm.MethodName)) ∈ ng_tbl := ng_t 173 rfl rfl
theorem tw_174 : (Jvm.Cond.instanceMethod ({ cls := "CeilingRows$Plan", name := "addResource", desc := "()I" } : Jvm.MethodName)) ∈ ng_tbl := ng_t 174 rfl rfl
theorem tw_175 : (Jvm.Cond.selects "CeilingRows$Plan" ({ cls := "CeilingRows$Plan", name := "addResource", desc := "()I" } : Jvm.MethodName) ({ cls := "CeilingRows$Plan", name := "addResource", desc := "()I" } : Jvm.MethodName)) ∈ ng_tbl := ng_t 175 rfl rfl
theorem tw_176 : (Jvm.Cond.code ({ cls := "CeilingRows$Plan", name := "addResource", desc := "()I" } : Jvm.MethodName) prog_4_method_5_code (1 : Nat) (Option.some Jvm.ClassFile.FieldType.int)) ∈ ng_tbl := ng_t 176 rfl rfl
theorem tw_181 : (Jvm.Cond.methodLink "CeilingRows" (66 : Nat) ({ cls := "CeilingRows$Plan", name := "hasTask", desc := "(I)Z" } : Jvm.MethodName)) ∈ ng_tbl := ng_t 181 rfl rfl
theorem tw_182 : (Jvm.Cond.instanceMethod ({ cls := "CeilingRows$Plan", name := "hasTask", desc := "(I)Z" } : Jvm.MethodName)) ∈ ng_tbl := ng_t 182 rfl rfl
theorem tw_183 : (Jvm.Cond.selects "CeilingRows$Plan" ({ cls := "CeilingRows$Plan", name := "hasTask", desc := "(I)Z" } : Jvm.MethodName) ({ cls := "CeilingRows$Plan", name := "hasTask", desc := "(I)Z" } : Jvm.MethodName)) ∈ ng_tbl := ng_t 183 rfl rfl
theorem tw_184 : (Jvm.Cond.code ({ cls := "CeilingRows$Plan", name := "hasTask", desc := "(I)Z" } : Jvm.MethodName) prog_4_method_2_code (2 : Nat) (Option.some Jvm.ClassFile.FieldType.boolean)) ∈ ng_tbl := ng_t 184 rfl rfl
theorem tw_185 : (Jvm.Cond.methodLink "CeilingRows" (69 : Nat) ({ cls := "CeilingRows$Plan", name := "hasResource", desc := "(I)Z" } : Jvm.MethodName)) ∈ ng_tbl := ng_t 185 rfl rfl
theorem tw_186 : (Jvm.Cond.instanceMethod ({ cls := "CeilingRows$Plan", name := "hasResource", desc := "(I)Z" } : Jvm.MethodName)) ∈ ng_tbl := ng_t 186 rfl rfl
theorem tw_187 : (Jvm.Cond.selects "CeilingRows$Plan" ({ cls := "CeilingRows$Plan", name := "hasResource", desc := "(I)Z" } : Jvm.MethodName) ({ cls := "CeilingRows$Plan", name := "hasResource", desc := "(I)Z" } : Jvm.MethodName)) ∈ ng_tbl := ng_t 187 rfl rfl
theorem tw_188 : (Jvm.Cond.code ({ cls := "CeilingRows$Plan", name := "hasResource", desc := "(I)Z" } : Jvm.MethodName) prog_4_method_3_code (2 : Nat) (Option.some Jvm.ClassFile.FieldType.boolean)) ∈ ng_tbl := ng_t 188 rfl rfl
theorem tw_189 : (Jvm.Cond.constantLong "CeilingRows" (72 : Nat) (1000 : Int64)) ∈ ng_tbl := ng_t 189 rfl rfl
theorem tw_190 : (Jvm.Cond.methodLink "CeilingRows" (78 : Nat) ({ cls := "CeilingRows$Board", name := "allSleepOn", desc := "(I)Z" } : Jvm.MethodName)) ∈ ng_tbl := ng_t 190 rfl rfl
theorem tw_191 : (Jvm.Cond.instanceMethod ({ cls := "CeilingRows$Board", name := "allSleepOn", desc := "(I)Z" } : Jvm.MethodName)) ∈ ng_tbl := ng_t 191 rfl rfl
theorem tw_192 : (Jvm.Cond.selects "CeilingRows$Board" ({ cls := "CeilingRows$Board", name := "allSleepOn", desc := "(I)Z" } : Jvm.MethodName) ({ cls := "CeilingRows$Board", name := "allSleepOn", desc := "(I)Z" } : Jvm.MethodName)) ∈ ng_tbl := ng_t 192 rfl rfl
theorem tw_193 : (Jvm.Cond.code ({ cls := "CeilingRows$Board", name := "allSleepOn", desc := "(I)Z" } : Jvm.MethodName) prog_2_method_3_code (3 : Nat) (Option.some Jvm.ClassFile.FieldType.boolean)) ∈ ng_tbl := ng_t 193 rfl rfl
theorem tw_194 : (Jvm.Cond.methodLink "CeilingRows" (81 : Nat) ({ cls := "CeilingRows$Plan", name := "isUsedByAnotherCore", desc := "(II)Z" } : Jvm.MethodName)) ∈ ng_tbl := ng_t 194 rfl rfl
theorem tw_195 : (Jvm.Cond.instanceMethod ({ cls := "CeilingRows$Plan", name := "isUsedByAnotherCore", desc := "(II)Z" } : Jvm.MethodName)) ∈ ng_tbl := ng_t 195 rfl rfl
theorem tw_196 : (Jvm.Cond.selects "CeilingRows$Plan" ({ cls := "CeilingRows$Plan", name := "isUsedByAnotherCore", desc := "(II)Z" } : Jvm.MethodName) ({ cls := "CeilingRows$Plan", name := "isUsedByAnotherCore", desc := "(II)Z" } : Jvm.MethodName)) ∈ ng_tbl := ng_t 196 rfl rfl
theorem tw_197 : (Jvm.Cond.code ({ cls := "CeilingRows$Plan", name := "isUsedByAnotherCore", desc := "(II)Z" } : Jvm.MethodName) prog_4_method_7_code (3 : Nat) (Option.some Jvm.ClassFile.FieldType.boolean)) ∈ ng_tbl := ng_t 197 rfl rfl
theorem tw_198 : (Jvm.Cond.methodLink "CeilingRows" (85 : Nat) ({ cls := "CeilingRows$Plan", name := "isUsedBy", desc := "(II)Z" } : Jvm.MethodName)) ∈ ng_tbl := ng_t 198 rfl rfl
theorem tw_199 : (Jvm.Cond.instanceMethod ({ cls := "CeilingRows$Plan", name := "isUsedBy", desc := "(II)Z" } : Jvm.MethodName)) ∈ ng_tbl := ng_t 199 rfl rfl
theorem tw_200 : (Jvm.Cond.selects "CeilingRows$Plan" ({ cls := "CeilingRows$Plan", name := "isUsedBy", desc := "(II)Z" } : Jvm.MethodName) ({ cls := "CeilingRows$Plan", name := "isUsedBy", desc := "(II)Z" } : Jvm.MethodName)) ∈ ng_tbl := ng_t 200 rfl rfl
theorem tw_201 : (Jvm.Cond.code ({ cls := "CeilingRows$Plan", name := "isUsedBy", desc := "(II)Z" } : Jvm.MethodName) prog_4_method_6_code (3 : Nat) (Option.some Jvm.ClassFile.FieldType.boolean)) ∈ ng_tbl := ng_t 201 rfl rfl
theorem tw_202 : (Jvm.Cond.methodLink "CeilingRows" (88 : Nat) ({ cls := "CeilingRows$Plan", name := "setUse", desc := "(III)V" } : Jvm.MethodName)) ∈ ng_tbl := ng_t 202 rfl rfl
theorem tw_203 : (Jvm.Cond.instanceMethod ({ cls := "CeilingRows$Plan", name := "setUse", desc := "(III)V" } : Jvm.MethodName)) ∈ ng_tbl := ng_t 203 rfl rfl
theorem tw_204 : (Jvm.Cond.selects "CeilingRows$Plan" ({ cls := "CeilingRows$Plan", name := "setUse", desc := "(III)V" } : Jvm.MethodName) ({ cls := "CeilingRows$Plan", name := "setUse", desc := "(III)V" } : Jvm.MethodName)) ∈ ng_tbl := ng_t 204 rfl rfl
theorem tw_205 : (Jvm.Cond.code ({ cls := "CeilingRows$Plan", name := "setUse", desc := "(III)V" } : Jvm.MethodName) prog_4_method_8_code (4 : Nat) (Option.none : Option Jvm.ClassFile.FieldType)) ∈ ng_tbl := ng_t 205 rfl rfl
theorem tw_206 : (Jvm.Cond.methodLink "CeilingRows$Plan" (36 : Nat) ({ cls := "java/lang/Math", name := "max", desc := "(II)I" } : Jvm.MethodName)) ∈ ng_tbl := ng_t 206 rfl rfl
theorem tw_207 : (Jvm.Cond.static ({ cls := "java/lang/Math", name := "max", desc := "(II)I" } : Jvm.MethodName)) ∈ ng_tbl := ng_t 207 rfl rfl
theorem tw_208 : (Jvm.Cond.code ({ cls := "java/lang/Math", name := "max", desc := "(II)I" } : Jvm.MethodName) prog_9_method_65_code (2 : Nat) (Option.some Jvm.ClassFile.FieldType.int)) ∈ ng_tbl := ng_t 208 rfl rfl
theorem tw_217 : (Jvm.Cond.constantLong "CeilingRows" (95 : Nat) (1000000000 : Int64)) ∈ ng_tbl := ng_t 217 rfl rfl
theorem tw_218 : (Jvm.Cond.methodLink "CeilingRows" (97 : Nat) ({ cls := "CeilingRows", name := "perform", desc := "(III)I" } : Jvm.MethodName)) ∈ ng_tbl := ng_t 218 rfl rfl
theorem tw_220 : (Jvm.Cond.instanceMethod ({ cls := "CeilingRows", name := "perform", desc := "(III)I" } : Jvm.MethodName)) ∈ ng_tbl := ng_t 220 rfl rfl
theorem tw_221 : (Jvm.Cond.code ({ cls := "CeilingRows", name := "perform", desc := "(III)I" } : Jvm.MethodName) prog_1_method_16_code (4 : Nat) (Option.some Jvm.ClassFile.FieldType.int)) ∈ ng_tbl := ng_t 221 rfl rfl
theorem tw_222 : (Jvm.Cond.methodLink "CeilingRows" (137 : Nat) ({ cls := "CeilingRows", name := "startTask", desc := "(I)I" } : Jvm.MethodName)) ∈ ng_tbl := ng_t 222 rfl rfl
theorem tw_224 : (Jvm.Cond.instanceMethod ({ cls := "CeilingRows", name := "startTask", desc := "(I)I" } : Jvm.MethodName)) ∈ ng_tbl := ng_t 224 rfl rfl
theorem tw_225 : (Jvm.Cond.code ({ cls := "CeilingRows", name := "startTask", desc := "(I)I" } : Jvm.MethodName) prog_1_method_17_code (2 : Nat) (Option.some Jvm.ClassFile.FieldType.int)) ∈ ng_tbl := ng_t 225 rfl rfl
theorem tw_226 : (Jvm.Cond.methodLink "CeilingRows" (161 : Nat) ({ cls := "CeilingRows$Board", name := "makeReady", desc := "(I)V" } : Jvm.MethodName)) ∈ ng_tbl := ng_t 226 rfl rfl
theorem tw_227 : (Jvm.Cond.instanceMethod ({ cls := "CeilingRows$Board", name := "makeReady", desc := "(I)V" } : Jvm.MethodName)) ∈ ng_tbl := ng_t 227 rfl rfl
theorem tw_228 : (Jvm.Cond.selects "CeilingRows$Board" ({ cls := "CeilingRows$Board", name := "makeReady", desc := "(I)V" } : Jvm.MethodName) ({ cls := "CeilingRows$Board", name := "makeReady", desc := "(I)V" } : Jvm.MethodName)) ∈ ng_tbl := ng_t 228 rfl rfl
theorem tw_229 : (Jvm.Cond.code ({ cls := "CeilingRows$Board", name := "makeReady", desc := "(I)V" } : Jvm.MethodName) prog_2_method_4_code (2 : Nat) (Option.none : Option Jvm.ClassFile.FieldType)) ∈ ng_tbl := ng_t 229 rfl rfl
theorem tw_230 : (Jvm.Cond.methodLink "CeilingRows" (146 : Nat) ({ cls := "CeilingRows", name := "runs", desc := "(I)Z" } : Jvm.MethodName)) ∈ ng_tbl := ng_t 230 rfl rfl
theorem tw_232 : (Jvm.Cond.instanceMethod ({ cls := "CeilingRows", name := "runs", desc := "(I)Z" } : Jvm.MethodName)) ∈ ng_tbl := ng_t 232 rfl rfl
theorem tw_233 : (Jvm.Cond.code ({ cls := "CeilingRows", name := "runs", desc := "(I)Z" } : Jvm.MethodName) prog_1_method_15_code (3 : Nat) (Option.some Jvm.ClassFile.FieldType.boolean)) ∈ ng_tbl := ng_t 233 rfl rfl
theorem tw_234 : (Jvm.Cond.methodLink "CeilingRows" (118 : Nat) ({ cls := "CeilingRows$Locks", name := "spins", desc := "(I)Z" } : Jvm.MethodName)) ∈ ng_tbl := ng_t 234 rfl rfl
theorem tw_235 : (Jvm.Cond.instanceMethod ({ cls := "CeilingRows$Locks", name := "spins", desc := "(I)Z" } : Jvm.MethodName)) ∈ ng_tbl := ng_t 235 rfl rfl
theorem tw_236 : (Jvm.Cond.selects "CeilingRows$Locks" ({ cls := "CeilingRows$Locks", name := "spins", desc := "(I)Z" } : Jvm.MethodName) ({ cls := "CeilingRows$Locks", name := "spins", desc := "(I)Z" } : Jvm.MethodName)) ∈ ng_tbl := ng_t 236 rfl rfl
theorem tw_237 : (Jvm.Cond.code ({ cls := "CeilingRows$Locks", name := "spins", desc := "(I)Z" } : Jvm.MethodName) prog_3_method_2_code (2 : Nat) (Option.some Jvm.ClassFile.FieldType.boolean)) ∈ ng_tbl := ng_t 237 rfl rfl
theorem tw_238 : (Jvm.Cond.methodLink "CeilingRows" (134 : Nat) ({ cls := "CeilingRows$Board", name := "firstOn", desc := "(I)I" } : Jvm.MethodName)) ∈ ng_tbl := ng_t 238 rfl rfl
theorem tw_239 : (Jvm.Cond.instanceMethod ({ cls := "CeilingRows$Board", name := "firstOn", desc := "(I)I" } : Jvm.MethodName)) ∈ ng_tbl := ng_t 239 rfl rfl
theorem tw_240 : (Jvm.Cond.selects "CeilingRows$Board" ({ cls := "CeilingRows$Board", name := "firstOn", desc := "(I)I" } : Jvm.MethodName) ({ cls := "CeilingRows$Board", name := "firstOn", desc := "(I)I" } : Jvm.MethodName)) ∈ ng_tbl := ng_t 240 rfl rfl
theorem tw_241 : (Jvm.Cond.code ({ cls := "CeilingRows$Board", name := "firstOn", desc := "(I)I" } : Jvm.MethodName) prog_2_method_7_code (7 : Nat) (Option.some Jvm.ClassFile.FieldType.int)) ∈ ng_tbl := ng_t 241 rfl rfl
theorem tw_242 : (Jvm.Cond.methodLink "CeilingRows$Board" (64 : Nat) ({ cls := "CeilingRows$Board", name := "rankNow", desc := "(I)I" } : Jvm.MethodName)) ∈ ng_tbl := ng_t 242 rfl rfl
theorem tw_243 : (Jvm.Cond.instanceMethod ({ cls := "CeilingRows$Board", name := "rankNow", desc := "(I)I" } : Jvm.MethodName)) ∈ ng_tbl := ng_t 243 rfl rfl
theorem tw_244 : (Jvm.Cond.selects "CeilingRows$Board" ({ cls := "CeilingRows$Board", name := "rankNow", desc := "(I)I" } : Jvm.MethodName) ({ cls := "CeilingRows$Board", name := "rankNow", desc := "(I)I" } : Jvm.MethodName)) ∈ ng_tbl := ng_t 244 rfl rfl
theorem tw_245 : (Jvm.Cond.code ({ cls := "CeilingRows$Board", name := "rankNow", desc := "(I)I" } : Jvm.MethodName) prog_2_method_6_code (4 : Nat) (Option.some Jvm.ClassFile.FieldType.int)) ∈ ng_tbl := ng_t 245 rfl rfl
theorem tw_246 : (Jvm.Cond.methodLink "CeilingRows$Board" (58 : Nat) ({ cls := "java/lang/Math", name := "max", desc := "(II)I" } : Jvm.MethodName)) ∈ ng_tbl := ng_t 246 rfl rfl
theorem tw_247 : (Jvm.Cond.methodLink "CeilingRows" (140 : Nat) ({ cls := "CeilingRows", name := "sendEvent", desc := "(I)I" } : Jvm.MethodName)) ∈ ng_tbl := ng_t 247 rfl rfl
theorem tw_249 : (Jvm.Cond.instanceMethod ({ cls := "CeilingRows", name := "sendEvent", desc := "(I)I" } : Jvm.MethodName)) ∈ ng_tbl := ng_t 249 rfl rfl
theorem tw_250 : (Jvm.Cond.code ({ cls := "CeilingRows", name := "sendEvent", desc := "(I)I" } : Jvm.MethodName) prog_1_method_18_code (2 : Nat) (Option.some Jvm.ClassFile.FieldType.int)) ∈ ng_tbl := ng_t 250 rfl rfl
theorem tw_251 : (Jvm.Cond.methodLink "CeilingRows" (149 : Nat) ({ cls := "CeilingRows", name := "takeResource", desc := "(II)I" } : Jvm.MethodName)) ∈ ng_tbl := ng_t 251 rfl rfl
theorem tw_253 : (Jvm.Cond.instanceMethod ({ cls := "CeilingRows", name := "takeResource", desc := "(II)I" } : Jvm.MethodName)) ∈ ng_tbl := ng_t 253 rfl rfl
theorem tw_254 : (Jvm.Cond.code ({ cls := "CeilingRows", name := "takeResource", desc := "(II)I" } : Jvm.MethodName) prog_1_method_19_code (3 : Nat) (Option.some Jvm.ClassFile.FieldType.int)) ∈ ng_tbl := ng_t 254 rfl rfl
theorem tw_255 : (Jvm.Cond.methodLink "CeilingRows" (165 : Nat) ({ cls := "CeilingRows$Board", name := "take", desc := "(II)V" } : Jvm.MethodName)) ∈ ng_tbl := ng_t 255 rfl rfl
theorem tw_256 : (Jvm.Cond.instanceMethod ({ cls := "CeilingRows$Board", name := "take", desc := "(II)V" } : Jvm.MethodName)) ∈ ng_tbl := ng_t 256 rfl rfl
theorem tw_257 : (Jvm.Cond.selects "CeilingRows$Board" ({ cls := "CeilingRows$Board", name := "take", desc := "(II)V" } : Jvm.MethodName) ({ cls := "CeilingRows$Board", name := "take", desc := "(II)V" } : Jvm.MethodName)) ∈ ng_tbl := ng_t 257 rfl rfl
theorem tw_258 : (Jvm.Cond.code ({ cls := "CeilingRows$Board", name := "take", desc := "(II)V" } : Jvm.MethodName) prog_2_method_8_code (3 : Nat) (Option.none : Option Jvm.ClassFile.FieldType)) ∈ ng_tbl := ng_t 258 rfl rfl
theorem tw_259 : (Jvm.Cond.methodLink "CeilingRows" (152 : Nat) ({ cls := "CeilingRows", name := "giveBackResource", desc := "(II)I" } : Jvm.MethodName)) ∈ ng_tbl := ng_t 259 rfl rfl
theorem tw_261 : (Jvm.Cond.instanceMethod ({ cls := "CeilingRows", name := "giveBackResource", desc := "(II)I" } : Jvm.MethodName)) ∈ ng_tbl := ng_t 261 rfl rfl
theorem tw_262 : (Jvm.Cond.code ({ cls := "CeilingRows", name := "giveBackResource", desc := "(II)I" } : Jvm.MethodName) prog_1_method_20_code (3 : Nat) (Option.some Jvm.ClassFile.FieldType.int)) ∈ ng_tbl := ng_t 262 rfl rfl
theorem tw_263 : (Jvm.Cond.methodLink "CeilingRows" (172 : Nat) ({ cls := "CeilingRows$Board", name := "giveBackLast", desc := "(I)V" } : Jvm.MethodName)) ∈ ng_tbl := ng_t 263 rfl rfl
theorem tw_264 : (Jvm.Cond.instanceMethod ({ cls := "CeilingRows$Board", name := "giveBackLast", desc := "(I)V" } : Jvm.MethodName)) ∈ ng_tbl := ng_t 264 rfl rfl
theorem tw_265 : (Jvm.Cond.selects "CeilingRows$Board" ({ cls := "CeilingRows$Board", name := "giveBackLast", desc := "(I)V" } : Jvm.MethodName) ({ cls := "CeilingRows$Board", name := "giveBackLast", desc := "(I)V" } : Jvm.MethodName)) ∈ ng_tbl := ng_t 265 rfl rfl
theorem tw_266 : (Jvm.Cond.code ({ cls := "CeilingRows$Board", name := "giveBackLast", desc := "(I)V" } : Jvm.MethodName) prog_2_method_9_code (3 : Nat) (Option.none : Option Jvm.ClassFile.FieldType)) ∈ ng_tbl := ng_t 266 rfl rfl
theorem tw_267 : (Jvm.Cond.methodLink "CeilingRows" (155 : Nat) ({ cls := "CeilingRows", name := "endTask", desc := "(I)I" } : Jvm.MethodName)) ∈ ng_tbl := ng_t 267 rfl rfl
theorem tw_269 : (Jvm.Cond.instanceMethod ({ cls := "CeilingRows", name := "endTask", desc := "(I)I" } : Jvm.MethodName)) ∈ ng_tbl := ng_t 269 rfl rfl
theorem tw_270 : (Jvm.Cond.code ({ cls := "CeilingRows", name := "endTask", desc := "(I)I" } : Jvm.MethodName) prog_1_method_21_code (3 : Nat) (Option.some Jvm.ClassFile.FieldType.int)) ∈ ng_tbl := ng_t 270 rfl rfl
theorem tw_271 : (Jvm.Cond.methodLink "CeilingRows" (175 : Nat) ({ cls := "CeilingRows$Board", name := "holdsAny", desc := "(I)Z" } : Jvm.MethodName)) ∈ ng_tbl := ng_t 271 rfl rfl
theorem tw_272 : (Jvm.Cond.instanceMethod ({ cls := "CeilingRows$Board", name := "holdsAny", desc := "(I)Z" } : Jvm.MethodName)) ∈ ng_tbl := ng_t 272 rfl rfl
theorem tw_273 : (Jvm.Cond.selects "CeilingRows$Board" ({ cls := "CeilingRows$Board", name := "holdsAny", desc := "(I)Z" } : Jvm.MethodName) ({ cls := "CeilingRows$Board", name := "holdsAny", desc := "(I)Z" } : Jvm.MethodName)) ∈ ng_tbl := ng_t 273 rfl rfl
theorem tw_274 : (Jvm.Cond.code ({ cls := "CeilingRows$Board", name := "holdsAny", desc := "(I)Z" } : Jvm.MethodName) prog_2_method_5_code (2 : Nat) (Option.some Jvm.ClassFile.FieldType.boolean)) ∈ ng_tbl := ng_t 274 rfl rfl
theorem tw_275 : (Jvm.Cond.methodLink "CeilingRows" (178 : Nat) ({ cls := "CeilingRows$Board", name := "putToSleep", desc := "(I)V" } : Jvm.MethodName)) ∈ ng_tbl := ng_t 275 rfl rfl
theorem tw_276 : (Jvm.Cond.instanceMethod ({ cls := "CeilingRows$Board", name := "putToSleep", desc := "(I)V" } : Jvm.MethodName)) ∈ ng_tbl := ng_t 276 rfl rfl
theorem tw_277 : (Jvm.Cond.selects "CeilingRows$Board" ({ cls := "CeilingRows$Board", name := "putToSleep", desc := "(I)V" } : Jvm.MethodName) ({ cls := "CeilingRows$Board", name := "putToSleep", desc := "(I)V" } : Jvm.MethodName)) ∈ ng_tbl := ng_t 277 rfl rfl
theorem tw_278 : (Jvm.Cond.code ({ cls := "CeilingRows$Board", name := "putToSleep", desc := "(I)V" } : Jvm.MethodName) prog_2_method_10_code (3 : Nat) (Option.none : Option Jvm.ClassFile.FieldType)) ∈ ng_tbl := ng_t 278 rfl rfl
theorem tw_279 : (Jvm.Cond.methodLink "CeilingRows$Board" (68 : Nat) ({ cls := "CeilingRows$Board", name := "holdsAny", desc := "(I)Z" } : Jvm.MethodName)) ∈ ng_tbl := ng_t 279 rfl rfl
theorem tw_280 : (Jvm.Cond.methodLink "CeilingRows$Board" (72 : Nat) ({ cls := "CeilingRows$Board", name := "giveBackLast", desc := "(I)V" } : Jvm.MethodName)) ∈ ng_tbl := ng_t 280 rfl rfl
theorem tw_281 : (Jvm.Cond.methodLink "CeilingRows" (158 : Nat) ({ cls := "CeilingRows", name := "waitForEvent", desc := "(I)I" } : Jvm.MethodName)) ∈ ng_tbl := ng_t 281 rfl rfl
theorem tw_283 : (Jvm.Cond.instanceMethod ({ cls := "CeilingRows", name := "waitForEvent", desc := "(I)I" } : Jvm.MethodName)) ∈ ng_tbl := ng_t 283 rfl rfl
theorem tw_284 : (Jvm.Cond.code ({ cls := "CeilingRows", name := "waitForEvent", desc := "(I)I" } : Jvm.MethodName) prog_1_method_22_code (2 : Nat) (Option.some Jvm.ClassFile.FieldType.int)) ∈ ng_tbl := ng_t 284 rfl rfl
theorem tw_289 : (Jvm.Cond.methodLink "CeilingRows" (101 : Nat) ({ cls := "CeilingRows$Board", name := "rankNow", desc := "(I)I" } : Jvm.MethodName)) ∈ ng_tbl := ng_t 289 rfl rfl
theorem tw_298 : (Jvm.Cond.constantLong "CeilingRows" (108 : Nat) (-1 : Int64)) ∈ ng_tbl := ng_t 298 rfl rfl
theorem tw_299 : (Jvm.Cond.methodLink "CeilingRows" (110 : Nat) ({ cls := "CeilingRows$Plan", name := "longestDelay", desc := "(II)I" } : Jvm.MethodName)) ∈ ng_tbl := ng_t 299 rfl rfl
theorem tw_300 : (Jvm.Cond.instanceMethod ({ cls := "CeilingRows$Plan", name := "longestDelay", desc := "(II)I" } : Jvm.MethodName)) ∈ ng_tbl := ng_t 300 rfl rfl
theorem tw_301 : (Jvm.Cond.selects "CeilingRows$Plan" ({ cls := "CeilingRows$Plan", name := "longestDelay", desc := "(II)I" } : Jvm.MethodName) ({ cls := "CeilingRows$Plan", name := "longestDelay", desc := "(II)I" } : Jvm.MethodName)) ∈ ng_tbl := ng_t 301 rfl rfl
theorem tw_302 : (Jvm.Cond.code ({ cls := "CeilingRows$Plan", name := "longestDelay", desc := "(II)I" } : Jvm.MethodName) prog_4_method_10_code (5 : Nat) (Option.some Jvm.ClassFile.FieldType.int)) ∈ ng_tbl := ng_t 302 rfl rfl
theorem tw_303 : (Jvm.Cond.methodLink "CeilingRows$Plan" (42 : Nat) ({ cls := "CeilingRows$Plan", name := "isBelow", desc := "(II)Z" } : Jvm.MethodName)) ∈ ng_tbl := ng_t 303 rfl rfl
theorem tw_304 : (Jvm.Cond.instanceMethod ({ cls := "CeilingRows$Plan", name := "isBelow", desc := "(II)Z" } : Jvm.MethodName)) ∈ ng_tbl := ng_t 304 rfl rfl
theorem tw_305 : (Jvm.Cond.selects "CeilingRows$Plan" ({ cls := "CeilingRows$Plan", name := "isBelow", desc := "(II)Z" } : Jvm.MethodName) ({ cls := "CeilingRows$Plan", name := "isBelow", desc := "(II)Z" } : Jvm.MethodName)) ∈ ng_tbl := ng_t 305 rfl rfl
theorem tw_306 : (Jvm.Cond.code ({ cls := "CeilingRows$Plan", name := "isBelow", desc := "(II)Z" } : Jvm.MethodName) prog_4_method_9_code (3 : Nat) (Option.some Jvm.ClassFile.FieldType.boolean)) ∈ ng_tbl := ng_t 306 rfl rfl
theorem tw_307 : (Jvm.Cond.methodLink "CeilingRows" (113 : Nat) ({ cls := "java/lang/Math", name := "max", desc := "(II)I" } : Jvm.MethodName)) ∈ ng_tbl := ng_t 307 rfl rfl
theorem tw_312 : (Jvm.Cond.methodLink "CeilingRows" (121 : Nat) ({ cls := "CeilingRows$Locks", name := "acquire", desc := "(II)I" } : Jvm.MethodName)) ∈ ng_tbl := ng_t 312 rfl rfl
theorem tw_313 : (Jvm.Cond.instanceMethod ({ cls := "CeilingRows$Locks", name := "acquire", desc := "(II)I" } : Jvm.MethodName)) ∈ ng_tbl := ng_t 313 rfl rfl
theorem tw_314 : (Jvm.Cond.selects "CeilingRows$Locks" ({ cls := "CeilingRows$Locks", name := "acquire", desc := "(II)I" } : Jvm.MethodName) ({ cls := "CeilingRows$Locks", name := "acquire", desc := "(II)I" } : Jvm.MethodName)) ∈ ng_tbl := ng_t 314 rfl rfl
theorem tw_315 : (Jvm.Cond.code ({ cls := "CeilingRows$Locks", name := "acquire", desc := "(II)I" } : Jvm.MethodName) prog_3_method_4_code (3 : Nat) (Option.some Jvm.ClassFile.FieldType.int)) ∈ ng_tbl := ng_t 315 rfl rfl
theorem tw_316 : (Jvm.Cond.methodLink "CeilingRows$Locks" (21 : Nat) ({ cls := "CeilingRows$Locks", name := "lastTakenBy", desc := "(I)I" } : Jvm.MethodName)) ∈ ng_tbl := ng_t 316 rfl rfl
theorem tw_318 : (Jvm.Cond.instanceMethod ({ cls := "CeilingRows$Locks", name := "lastTakenBy", desc := "(I)I" } : Jvm.MethodName)) ∈ ng_tbl := ng_t 318 rfl rfl
theorem tw_319 : (Jvm.Cond.code ({ cls := "CeilingRows$Locks", name := "lastTakenBy", desc := "(I)I" } : Jvm.MethodName) prog_3_method_3_code (3 : Nat) (Option.some Jvm.ClassFile.FieldType.int)) ∈ ng_tbl := ng_t 319 rfl rfl
theorem tw_320 : (Jvm.Cond.methodLink "CeilingRows" (124 : Nat) ({ cls := "CeilingRows$Locks", name := "release", desc := "(II)I" } : Jvm.MethodName)) ∈ ng_tbl := ng_t 320 rfl rfl
theorem tw_321 : (Jvm.Cond.instanceMethod ({ cls := "CeilingRows$Locks", name := "release", desc := "(II)I" } : Jvm.MethodName)) ∈ ng_tbl := ng_t 321 rfl rfl
theorem tw_322 : (Jvm.Cond.selects "CeilingRows$Locks" ({ cls := "CeilingRows$Locks", name := "release", desc := "(II)I" } : Jvm.MethodName) ({ cls := "CeilingRows$Locks", name := "release", desc := "(II)I" } : Jvm.MethodName)) ∈ ng_tbl := ng_t 322 rfl rfl
theorem tw_323 : (Jvm.Cond.code ({ cls := "CeilingRows$Locks", name := "release", desc := "(II)I" } : Jvm.MethodName) prog_3_method_5_code (4 : Nat) (Option.some Jvm.ClassFile.FieldType.int)) ∈ ng_tbl := ng_t 323 rfl rfl
theorem tw_324 : (Jvm.Cond.methodLink "CeilingRows$Locks" (29 : Nat) ({ cls := "CeilingRows$Locks", name := "longestSpinnerFor", desc := "(I)I" } : Jvm.MethodName)) ∈ ng_tbl := ng_t 324 rfl rfl
theorem tw_326 : (Jvm.Cond.instanceMethod ({ cls := "CeilingRows$Locks", name := "longestSpinnerFor", desc := "(I)I" } : Jvm.MethodName)) ∈ ng_tbl := ng_t 326 rfl rfl
theorem tw_327 : (Jvm.Cond.code ({ cls := "CeilingRows$Locks", name := "longestSpinnerFor", desc := "(I)I" } : Jvm.MethodName) prog_3_method_6_code (5 : Nat) (Option.some Jvm.ClassFile.FieldType.int)) ∈ ng_tbl := ng_t 327 rfl rfl
theorem tw_332 : (Jvm.Cond.methodLink "CeilingRows" (127 : Nat) ({ cls := "CeilingRows$Locks", name := "waitsForItself", desc := "(I)Z" } : Jvm.MethodName)) ∈ ng_tbl := ng_t 332 rfl rfl
theorem tw_333 : (Jvm.Cond.instanceMethod ({ cls := "CeilingRows$Locks", name := "waitsForItself", desc := "(I)Z" } : Jvm.MethodName)) ∈ ng_tbl := ng_t 333 rfl rfl
theorem tw_334 : (Jvm.Cond.selects "CeilingRows$Locks" ({ cls := "CeilingRows$Locks", name := "waitsForItself", desc := "(I)Z" } : Jvm.MethodName) ({ cls := "CeilingRows$Locks", name := "waitsForItself", desc := "(I)Z" } : Jvm.MethodName)) ∈ ng_tbl := ng_t 334 rfl rfl
theorem tw_335 : (Jvm.Cond.code ({ cls := "CeilingRows$Locks", name := "waitsForItself", desc := "(I)Z" } : Jvm.MethodName) prog_3_method_7_code (4 : Nat) (Option.some Jvm.ClassFile.FieldType.boolean)) ∈ ng_tbl := ng_t 335 rfl rfl
theorem tw_336 : (Jvm.Cond.methodLink "CeilingRows$Locks" (32 : Nat) ({ cls := "CeilingRows$Locks", name := "spins", desc := "(I)Z" } : Jvm.MethodName)) ∈ ng_tbl := ng_t 336 rfl rfl
theorem tw_345 : (Jvm.Cond.methodLink "CeilingRows" (130 : Nat) ({ cls := "CeilingRows$Trial", name := "mostDelays", desc := "(J)I" } : Jvm.MethodName)) ∈ ng_tbl := ng_t 345 rfl rfl
theorem tw_346 : (Jvm.Cond.instanceMethod ({ cls := "CeilingRows$Trial", name := "mostDelays", desc := "(J)I" } : Jvm.MethodName)) ∈ ng_tbl := ng_t 346 rfl rfl
theorem tw_347 : (Jvm.Cond.selects "CeilingRows$Trial" ({ cls := "CeilingRows$Trial", name := "mostDelays", desc := "(J)I" } : Jvm.MethodName) ({ cls := "CeilingRows$Trial", name := "mostDelays", desc := "(J)I" } : Jvm.MethodName)) ∈ ng_tbl := ng_t 347 rfl rfl
theorem tw_348 : (Jvm.Cond.code ({ cls := "CeilingRows$Trial", name := "mostDelays", desc := "(J)I" } : Jvm.MethodName) prog_5_method_2_code (6 : Nat) (Option.some Jvm.ClassFile.FieldType.int)) ∈ ng_tbl := ng_t 348 rfl rfl
theorem tw_349 : (Jvm.Cond.methodLink "CeilingRows$Trial" (33 : Nat) ({ cls := "CeilingRows$Trial", name := "clear", desc := "()V" } : Jvm.MethodName)) ∈ ng_tbl := ng_t 349 rfl rfl
theorem tw_351 : (Jvm.Cond.instanceMethod ({ cls := "CeilingRows$Trial", name := "clear", desc := "()V" } : Jvm.MethodName)) ∈ ng_tbl := ng_t 351 rfl rfl
theorem tw_352 : (Jvm.Cond.code ({ cls := "CeilingRows$Trial", name := "clear", desc := "()V" } : Jvm.MethodName) prog_5_method_3_code (2 : Nat) (Option.none : Option Jvm.ClassFile.FieldType)) ∈ ng_tbl := ng_t 352 rfl rfl
theorem tw_353 : (Jvm.Cond.methodLink "CeilingRows$Trial" (66 : Nat) ({ cls := "CeilingRows$Board", name := "clear", desc := "()V" } : Jvm.MethodName)) ∈ ng_tbl := ng_t 353 rfl rfl
theorem tw_354 : (Jvm.Cond.instanceMethod ({ cls := "CeilingRows$Board", name := "clear", desc := "()V" } : Jvm.MethodName)) ∈ ng_tbl := ng_t 354 rfl rfl
theorem tw_355 : (Jvm.Cond.selects "CeilingRows$Board" ({ cls := "CeilingRows$Board", name := "clear", desc := "()V" } : Jvm.MethodName) ({ cls := "CeilingRows$Board", name := "clear", desc := "()V" } : Jvm.MethodName)) ∈ ng_tbl := ng_t 355 rfl rfl
theorem tw_356 : (Jvm.Cond.code ({ cls := "CeilingRows$Board", name := "clear", desc := "()V" } : Jvm.MethodName) prog_2_method_2_code (1 : Nat) (Option.none : Option Jvm.ClassFile.FieldType)) ∈ ng_tbl := ng_t 356 rfl rfl
theorem tw_357 : (Jvm.Cond.methodLink "CeilingRows$Board" (31 : Nat) ({ cls := "java/util/Arrays", name := "fill", desc := "([II)V" } : Jvm.MethodName)) ∈ ng_tbl := ng_t 357 rfl rfl
theorem tw_358 : (Jvm.Cond.static ({ cls := "java/util/Arrays", name := "fill", desc := "([II)V" } : Jvm.MethodName)) ∈ ng_tbl := ng_t 358 rfl rfl
theorem tw_359 : (Jvm.Cond.code ({ cls := "java/util/Arrays", name := "fill", desc := "([II)V" } : Jvm.MethodName) prog_10_method_103_code (4 : Nat) (Option.none : Option Jvm.ClassFile.FieldType)) ∈ ng_tbl := ng_t 359 rfl rfl
theorem tw_360 : (Jvm.Cond.methodLink "CeilingRows$Trial" (67 : Nat) ({ cls := "java/util/Arrays", name := "fill", desc := "([II)V" } : Jvm.MethodName)) ∈ ng_tbl := ng_t 360 rfl rfl
theorem tw_361 : (Jvm.Cond.methodLink "CeilingRows$Trial" (45 : Nat) ({ cls := "CeilingRows$Trial", name := "startThoseDue", desc := "(JI)V" } : Jvm.MethodName)) ∈ ng_tbl := ng_t 361 rfl rfl
theorem tw_363 : (Jvm.Cond.instanceMethod ({ cls := "CeilingRows$Trial", name := "startThoseDue", desc := "(JI)V" } : Jvm.MethodName)) ∈ ng_tbl := ng_t 363 rfl rfl
theorem tw_364 : (Jvm.Cond.code ({ cls := "CeilingRows$Trial", name := "startThoseDue", desc := "(JI)V" } : Jvm.MethodName) prog_5_method_4_code (7 : Nat) (Option.none : Option Jvm.ClassFile.FieldType)) ∈ ng_tbl := ng_t 364 rfl rfl
theorem tw_365 : (Jvm.Cond.constantLong "CeilingRows$Trial" (73 : Nat) (7 : Int64)) ∈ ng_tbl := ng_t 365 rfl rfl
theorem tw_366 : (Jvm.Cond.methodLink "CeilingRows$Trial" (75 : Nat) ({ cls := "CeilingRows$Board", name := "makeReady", desc := "(I)V" } : Jvm.MethodName)) ∈ ng_tbl := ng_t 366 rfl rfl
theorem tw_367 : (Jvm.Cond.methodLink "CeilingRows$Trial" (49 : Nat) ({ cls := "CeilingRows$Board", name := "firstOn", desc := "(I)I" } : Jvm.MethodName)) ∈ ng_tbl := ng_t 367 rfl rfl
theorem tw_368 : (Jvm.Cond.methodLink "CeilingRows$Trial" (53 : Nat) ({ cls := "CeilingRows$Trial", name := "haveTick", desc := "(I)V" } : Jvm.MethodName)) ∈ ng_tbl := ng_t 368 rfl rfl
theorem tw_370 : (Jvm.Cond.instanceMethod ({ cls := "CeilingRows$Trial", name := "haveTick", desc := "(I)V" } : Jvm.MethodName)) ∈ ng_tbl := ng_t 370 rfl rfl
theorem tw_371 : (Jvm.Cond.code ({ cls := "CeilingRows$Trial", name := "haveTick", desc := "(I)V" } : Jvm.MethodName) prog_5_method_5_code (3 : Nat) (Option.none : Option Jvm.ClassFile.FieldType)) ∈ ng_tbl := ng_t 371 rfl rfl
theorem tw_372 : (Jvm.Cond.methodLink "CeilingRows$Trial" (78 : Nat) ({ cls := "CeilingRows$Trial", name := "resourceAt", desc := "(II)I" } : Jvm.MethodName)) ∈ ng_tbl := ng_t 372 rfl rfl
theorem tw_374 : (Jvm.Cond.instanceMethod ({ cls := "CeilingRows$Trial", name := "resourceAt", desc := "(II)I" } : Jvm.MethodName)) ∈ ng_tbl := ng_t 374 rfl rfl
theorem tw_375 : (Jvm.Cond.code ({ cls := "CeilingRows$Trial", name := "resourceAt", desc := "(II)I" } : Jvm.MethodName) prog_5_method_10_code (6 : Nat) (Option.some Jvm.ClassFile.FieldType.int)) ∈ ng_tbl := ng_t 375 rfl rfl
theorem tw_376 : (Jvm.Cond.methodLink "CeilingRows$Trial" (121 : Nat) ({ cls := "CeilingRows$Plan", name := "isUsedBy", desc := "(II)Z" } : Jvm.MethodName)) ∈ ng_tbl := ng_t 376 rfl rfl
theorem tw_377 : (Jvm.Cond.methodLink "CeilingRows$Trial" (124 : Nat) ({ cls := "CeilingRows$Trial", name := "ticksWith", desc := "(II)I" } : Jvm.MethodName)) ∈ ng_tbl := ng_t 377 rfl rfl
theorem tw_379 : (Jvm.Cond.instanceMethod ({ cls := "CeilingRows$Trial", name := "ticksWith", desc := "(II)I" } : Jvm.MethodName)) ∈ ng_tbl := ng_t 379 rfl rfl
theorem tw_380 : (Jvm.Cond.code ({ cls := "CeilingRows$Trial", name := "ticksWith", desc := "(II)I" } : Jvm.MethodName) prog_5_method_8_code (3 : Nat) (Option.some Jvm.ClassFile.FieldType.int)) ∈ ng_tbl := ng_t 380 rfl rfl
theorem tw_381 : (Jvm.Cond.methodLink "CeilingRows$Trial" (115 : Nat) ({ cls := "java/lang/Math", name := "min", desc := "(II)I" } : Jvm.MethodName)) ∈ ng_tbl := ng_t 381 rfl rfl
theorem tw_382 : (Jvm.Cond.static ({ cls := "java/lang/Math", name := "min", desc := "(II)I" } : Jvm.MethodName)) ∈ ng_tbl := ng_t 382 rfl rfl
theorem tw_383 : (Jvm.Cond.code ({ cls := "java/lang/Math", name := "min", desc := "(II)I" } : Jvm.MethodName) prog_9_method_69_code (2 : Nat) (Option.some Jvm.ClassFile.FieldType.int)) ∈ ng_tbl := ng_t 383 rfl rfl
theorem tw_384 : (Jvm.Cond.methodLink "CeilingRows$Trial" (84 : Nat) ({ cls := "CeilingRows$Board", name := "take", desc := "(II)V" } : Jvm.MethodName)) ∈ ng_tbl := ng_t 384 rfl rfl
theorem tw_385 : (Jvm.Cond.methodLink "CeilingRows$Trial" (88 : Nat) ({ cls := "CeilingRows$Trial", name := "noteDelays", desc := "(II)V" } : Jvm.MethodName)) ∈ ng_tbl := ng_t 385 rfl rfl
theorem tw_387 : (Jvm.Cond.instanceMethod ({ cls := "CeilingRows$Trial", name := "noteDelays", desc := "(II)V" } : Jvm.MethodName)) ∈ ng_tbl := ng_t 387 rfl rfl
theorem tw_388 : (Jvm.Cond.code ({ cls := "CeilingRows$Trial", name := "noteDelays", desc := "(II)V" } : Jvm.MethodName) prog_5_method_6_code (4 : Nat) (Option.none : Option Jvm.ClassFile.FieldType)) ∈ ng_tbl := ng_t 388 rfl rfl
theorem tw_389 : (Jvm.Cond.methodLink "CeilingRows$Trial" (103 : Nat) ({ cls := "CeilingRows$Plan", name := "isBelow", desc := "(II)Z" } : Jvm.MethodName)) ∈ ng_tbl := ng_t 389 rfl rfl
theorem tw_390 : (Jvm.Cond.methodLink "CeilingRows$Trial" (91 : Nat) ({ cls := "CeilingRows$Board", name := "giveBackLast", desc := "(I)V" } : Jvm.MethodName)) ∈ ng_tbl := ng_t 390 rfl rfl
theorem tw_391 : (Jvm.Cond.methodLink "CeilingRows$Trial" (94 : Nat) ({ cls := "CeilingRows$Trial", name := "ticksOf", desc := "(I)I" } : Jvm.MethodName)) ∈ ng_tbl := ng_t 391 rfl rfl
theorem tw_393 : (Jvm.Cond.instanceMethod ({ cls := "CeilingRows$Trial", name := "ticksOf", desc := "(I)I" } : Jvm.MethodName)) ∈ ng_tbl := ng_t 393 rfl rfl
theorem tw_394 : (Jvm.Cond.code ({ cls := "CeilingRows$Trial", name := "ticksOf", desc := "(I)I" } : Jvm.MethodName) prog_5_method_9_code (4 : Nat) (Option.some Jvm.ClassFile.FieldType.int)) ∈ ng_tbl := ng_t 394 rfl rfl
theorem tw_395 : (Jvm.Cond.methodLink "CeilingRows$Trial" (97 : Nat) ({ cls := "CeilingRows$Board", name := "putToSleep", desc := "(I)V" } : Jvm.MethodName)) ∈ ng_tbl := ng_t 395 rfl rfl
theorem tw_396 : (Jvm.Cond.methodLink "CeilingRows$Trial" (57 : Nat) ({ cls := "CeilingRows$Trial", name := "countDelays", desc := "(I)I" } : Jvm.MethodName)) ∈ ng_tbl := ng_t 396 rfl rfl
theorem tw_398 : (Jvm.Cond.instanceMethod ({ cls := "CeilingRows$Trial", name := "countDelays", desc := "(I)I" } : Jvm.MethodName)) ∈ ng_tbl := ng_t 398 rfl rfl
theorem tw_399 : (Jvm.Cond.code ({ cls := "CeilingRows$Trial", name := "countDelays", desc := "(I)I" } : Jvm.MethodName) prog_5_method_7_code (4 : Nat) (Option.some Jvm.ClassFile.FieldType.int)) ∈ ng_tbl := ng_t 399 rfl rfl
theorem tw_400 : (Jvm.Cond.methodLink "CeilingRows$Trial" (107 : Nat) ({ cls := "java/lang/Integer", name := "bitCount", desc := "(I)I" } : Jvm.MethodName)) ∈ ng_tbl := ng_t 400 rfl rfl
theorem tw_401 : (Jvm.Cond.static ({ cls := "java/lang/Integer", name := "bitCount", desc := "(I)I" } : Jvm.MethodName)) ∈ ng_tbl := ng_t 401 rfl rfl
theorem tw_402 : (Jvm.Cond.code ({ cls := "java/lang/Integer", name := "bitCount", desc := "(I)I" } : Jvm.MethodName) prog_8_method_49_code (1 : Nat) (Option.some Jvm.ClassFile.FieldType.int)) ∈ ng_tbl := ng_t 402 rfl rfl
theorem tw_403 : (Jvm.Cond.constant "java/lang/Integer" (265 : Nat) (1431655765 : Int32)) ∈ ng_tbl := ng_t 403 rfl rfl
theorem tw_404 : (Jvm.Cond.constant "java/lang/Integer" (266 : Nat) (858993459 : Int32)) ∈ ng_tbl := ng_t 404 rfl rfl
theorem tw_405 : (Jvm.Cond.constant "java/lang/Integer" (267 : Nat) (252645135 : Int32)) ∈ ng_tbl := ng_t 405 rfl rfl
theorem tw_406 : (Jvm.Cond.methodLink "CeilingRows$Trial" (60 : Nat) ({ cls := "java/lang/Math", name := "max", desc := "(II)I" } : Jvm.MethodName)) ∈ ng_tbl := ng_t 406 rfl rfl
