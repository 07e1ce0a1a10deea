theorem tp_18 : Cond.selects "CeilingRowsModel" (⟨"CeilingRowsModel", "isTask", "(I)Z"⟩ : MethodName) (⟨"CeilingRowsModel", "isTask", "(I)Z"⟩ : MethodName) ∈ ng_tbl := ng_p 18 rfl rfl
theorem tp_19 : Cond.selects "CeilingRowsModel" (⟨"CeilingRowsModel", "isResource", "(I)Z"⟩ : MethodName) (⟨"CeilingRowsModel", "isResource", "(I)Z"⟩ : MethodName) ∈ ng_tbl := ng_p 19 rfl rfl
theorem tp_20 : Cond.selects "CeilingRowsModel" (⟨"CeilingRowsModel", "ceilingOf", "(I)I"⟩ : MethodName) (⟨"CeilingRowsModel", "ceilingOf", "(I)I"⟩ : MethodName) ∈ ng_tbl := ng_p 20 rfl rfl
theorem tp_21 : Cond.selects "CeilingRowsModel" (⟨"CeilingRowsModel", "acts", "(III)I"⟩ : MethodName) (⟨"CeilingRowsModel", "acts", "(III)I"⟩ : MethodName) ∈ ng_tbl := ng_p 21 rfl rfl
theorem tp_22 : Cond.selects "CeilingRowsModel" (⟨"CeilingRowsModel", "ready", "(I)V"⟩ : MethodName) (⟨"CeilingRowsModel", "ready", "(I)V"⟩ : MethodName) ∈ ng_tbl := ng_p 22 rfl rfl
theorem tp_23 : Cond.selects "CeilingRowsModel" (⟨"CeilingRowsModel", "runs", "(I)Z"⟩ : MethodName) (⟨"CeilingRowsModel", "runs", "(I)Z"⟩ : MethodName) ∈ ng_tbl := ng_p 23 rfl rfl
theorem tp_24 : Cond.selects "CeilingRowsModel" (⟨"CeilingRowsModel", "running", "(I)I"⟩ : MethodName) (⟨"CeilingRowsModel", "running", "(I)I"⟩ : MethodName) ∈ ng_tbl := ng_p 24 rfl rfl
theorem tp_25 : Cond.selects "CeilingRowsModel" (⟨"CeilingRowsModel", "rankNow", "(I)I"⟩ : MethodName) (⟨"CeilingRowsModel", "rankNow", "(I)I"⟩ : MethodName) ∈ ng_tbl := ng_p 25 rfl rfl
theorem tp_26 : Cond.selects "CeilingRowsModel" (⟨"CeilingRowsModel", "last", "(I)I"⟩ : MethodName) (⟨"CeilingRowsModel", "last", "(I)I"⟩ : MethodName) ∈ ng_tbl := ng_p 26 rfl rfl
theorem tp_27 : Cond.selects "CeilingRowsModel" (⟨"CeilingRowsModel", "mayKeep", "(III)Z"⟩ : MethodName) (⟨"CeilingRowsModel", "mayKeep", "(III)Z"⟩ : MethodName) ∈ ng_tbl := ng_p 27 rfl rfl
theorem tp_28 : Cond.selects "CeilingRowsModel" (⟨"CeilingRowsModel", "have", "(II)V"⟩ : MethodName) (⟨"CeilingRowsModel", "have", "(II)V"⟩ : MethodName) ∈ ng_tbl := ng_p 28 rfl rfl
theorem tp_29 : Cond.selects "CeilingRowsModel" (⟨"CeilingRowsModel", "lastLock", "(I)I"⟩ : MethodName) (⟨"CeilingRowsModel", "lastLock", "(I)I"⟩ : MethodName) ∈ ng_tbl := ng_p 29 rfl rfl
theorem tp_30 : Cond.selects "CeilingRowsModel" (⟨"CeilingRowsModel", "trialRuns", "(I)I"⟩ : MethodName) (⟨"CeilingRowsModel", "trialRuns", "(I)I"⟩ : MethodName) ∈ ng_tbl := ng_p 30 rfl rfl
theorem tp_31 : Cond.selects "CeilingRowsModel" (⟨"CeilingRowsModel", "trialRank", "(I)I"⟩ : MethodName) (⟨"CeilingRowsModel", "trialRank", "(I)I"⟩ : MethodName) ∈ ng_tbl := ng_p 31 rfl rfl
theorem tp_32 : Cond.selects "CeilingRowsModel" (⟨"CeilingRowsModel", "tickOf", "(II)I"⟩ : MethodName) (⟨"CeilingRowsModel", "tickOf", "(II)I"⟩ : MethodName) ∈ ng_tbl := ng_p 32 rfl rfl
theorem tw_6 : (Jvm.Cond.initialized "CeilingRowsModel") ∈ ng_tbl := ng_t 6 rfl rfl
theorem tw_15 : (Jvm.Cond.methodLink "CeilingRows" (3 : Nat) ({ cls := "java/lang/Object", name := "<init>", desc := "()V" } : Jvm.MethodName)) ∈ ng_tbl := ng_t 15 rfl rfl
theorem tw_16 : (Jvm.Cond.instanceMethod ({ cls := "java/lang/Object", name := "<init>", desc := "()V" } : Jvm.MethodName)) ∈ ng_tbl := ng_t 16 rfl rfl
theorem tw_17 : (Jvm.Cond.code ({ cls := "java/lang/Object", name := "<init>", desc := "()V" } : Jvm.MethodName) object_method_1_code (1 : Nat) (Option.none : Option Jvm.ClassFile.FieldType)) ∈ ng_tbl := ng_t 17 rfl rfl
theorem tw_18 : (Jvm.Cond.classLink "CeilingRows" (9 : Nat) "CeilingRows$Plan") ∈ ng_tbl := ng_t 18 rfl rfl
theorem tw_19 : (Jvm.Cond.instantiable "CeilingRows$Plan" (7 : Nat)) ∈ ng_tbl := ng_t 19 rfl rfl
theorem tw_21 : (Jvm.Cond.instanceMethod ({ cls := "CeilingRows$Plan", name := "<init>", desc := "()V" } : Jvm.MethodName)) ∈ ng_tbl := ng_t 21 rfl rfl
theorem tw_22 : (Jvm.Cond.code ({ cls := "CeilingRows$Plan", name := "<init>", desc := "()V" } : Jvm.MethodName) prog_4_method_1_code (1 : Nat) (Option.none : Option Jvm.ClassFile.FieldType)) ∈ ng_tbl := ng_t 22 rfl rfl
theorem tw_23 : (Jvm.Cond.methodLink "CeilingRows$Plan" (3 : Nat) ({ cls := "java/lang/Object", name := "<init>", desc := "()V" } : Jvm.MethodName)) ∈ ng_tbl := ng_t 23 rfl rfl
theorem tw_24 : (Jvm.Cond.classLink "CeilingRows$Plan" (24 : Nat) "[[I") ∈ ng_tbl := ng_t 24 rfl rfl
theorem tw_60 : (Jvm.Cond.arrayClass Jvm.ClassFile.FieldType.int) ∈ ng_tbl := ng_t 60 rfl rfl
theorem tw_61 : (Jvm.Cond.classLink "CeilingRows" (16 : Nat) "CeilingRows$Board") ∈ ng_tbl := ng_t 61 rfl rfl
theorem tw_62 : (Jvm.Cond.instantiable "CeilingRows$Board" (7 : Nat)) ∈ ng_tbl := ng_t 62 rfl rfl
theorem tw_63 : (Jvm.Cond.methodLink "CeilingRows" (18 : Nat) ({ cls := "CeilingRows$Board", name := "<init>", desc := "(LCeilingRows$Plan;)V" } : Jvm.MethodName)) ∈ ng_tbl := ng_t 63 rfl rfl
theorem tw_64 : (Jvm.Cond.instanceMethod ({ cls := "CeilingRows$Board", name := "<init>", desc := "(LCeilingRows$Plan;)V" } : Jvm.MethodName)) ∈ ng_tbl := ng_t 64 rfl rfl
theorem tw_65 : (Jvm.Cond.code ({ cls := "CeilingRows$Board", name := "<init>", desc := "(LCeilingRows$Plan;)V" } : Jvm.MethodName) prog_2_method_1_code (2 : Nat) (Option.none : Option Jvm.ClassFile.FieldType)) ∈ ng_tbl := ng_t 65 rfl rfl
theorem tw_66 : (Jvm.Cond.methodLink "CeilingRows$Board" (3 : Nat) ({ cls := "java/lang/Object", name := "<init>", desc := "()V" } : Jvm.MethodName)) ∈ ng_tbl := ng_t 66 rfl rfl
theorem tw_94 : (Jvm.Cond.classLink "CeilingRows" (25 : Nat) "CeilingRows$Locks") ∈ ng_tbl := ng_t 94 rfl rfl
theorem tw_95 : (Jvm.Cond.instantiable "CeilingRows$Locks" (4 : Nat)) ∈ ng_tbl := ng_t 95 rfl rfl
theorem tw_97 : (Jvm.Cond.instanceMethod ({ cls := "CeilingRows$Locks", name := "<init>", desc := "()V" } : Jvm.MethodName)) ∈ ng_tbl := ng_t 97 rfl rfl
theorem tw_98 : (Jvm.Cond.code ({ cls := "CeilingRows$Locks", name := "<init>", desc := "()V" } : Jvm.MethodName) prog_3_method_1_code (1 : Nat) (Option.none : Option Jvm.ClassFile.FieldType)) ∈ ng_tbl := ng_t 98 rfl rfl
theorem tw_99 : (Jvm.Cond.methodLink "CeilingRows$Locks" (3 : Nat) ({ cls := "java/lang/Object", name := "<init>", desc := "()V" } : Jvm.MethodName)) ∈ ng_tbl := ng_t 99 rfl rfl
theorem tw_113 : (Jvm.Cond.classLink "CeilingRows" (32 : Nat) "CeilingRows$Trial") ∈ ng_tbl := ng_t 113 rfl rfl
theorem tw_114 : (Jvm.Cond.instantiable "CeilingRows$Trial" (5 : Nat)) ∈ ng_tbl := ng_t 114 rfl rfl
theorem tw_115 : (Jvm.Cond.methodLink "CeilingRows" (34 : Nat) ({ cls := "CeilingRows$Trial", name := "<init>", desc := "(LCeilingRows$Plan;)V" } : Jvm.MethodName)) ∈ ng_tbl := ng_t 115 rfl rfl
theorem tw_116 : (Jvm.Cond.instanceMethod ({ cls := "CeilingRows$Trial", name := "<init>", desc := "(LCeilingRows$Plan;)V" } : Jvm.MethodName)) ∈ ng_tbl := ng_t 116 rfl rfl
theorem tw_117 : (Jvm.Cond.code ({ cls := "CeilingRows$Trial", name := "<init>", desc := "(LCeilingRows$Plan;)V" } : Jvm.MethodName) prog_5_method_1_code (2 : Nat) (Option.none : Option Jvm.ClassFile.FieldType)) ∈ ng_tbl := ng_t 117 rfl rfl
theorem tw_118 : (Jvm.Cond.methodLink "CeilingRows$Trial" (3 : Nat) ({ cls := "java/lang/Object", name := "<init>", desc := "()V" } : Jvm.MethodName)) ∈ ng_tbl := ng_t 118 rfl rfl
theorem tw_119 : (Jvm.Cond.classLink "CeilingRows$Trial" (15 : Nat) "[[I") ∈ ng_tbl := ng_t 119 rfl rfl
theorem tw_120 : (Jvm.Cond.classLink "CeilingRows$Trial" (24 : Nat) "CeilingRows$Board") ∈ ng_tbl := ng_t 120 rfl rfl
theorem tw_121 : (Jvm.Cond.methodLink "CeilingRows$Trial" (26 : Nat) ({ cls := "CeilingRows$Board", name := "<init>", desc := "(LCeilingRows$Plan;)V" } : Jvm.MethodName)) ∈ ng_tbl := ng_t 121 rfl rfl
theorem tw_157 : (Jvm.Cond.arrayClass Jvm.ClassFile.FieldType.boolean) ∈ ng_tbl := ng_t 157 rfl rfl
theorem tw_158 : (Jvm.Cond.methodLink "CeilingRowsLaw" (13 : Nat) ({ cls := "CeilingRows", name := "task", desc := "(II)I" } : Jvm.MethodName)) ∈ ng_tbl := ng_t 158 rfl rfl
theorem tw_159 : (Jvm.Cond.instanceMethod ({ cls := "CeilingRows", name := "task", desc := "(II)I" } : Jvm.MethodName)) ∈ ng_tbl := ng_t 159 rfl rfl
theorem tw_160 : (Jvm.Cond.selects "CeilingRows" ({ cls := "CeilingRows", name := "task", desc := "(II)I" } : Jvm.MethodName) ({ cls := "CeilingRows", name := "task", desc := "(II)I" } : Jvm.MethodName)) ∈ ng_tbl := ng_t 160 rfl rfl
theorem tw_161 : (Jvm.Cond.code ({ cls := "CeilingRows", name := "task", desc := "(II)I" } : Jvm.MethodName) prog_1_method_2_code (3 : Nat) (Option.some Jvm.ClassFile.FieldType.int)) ∈ ng_tbl := ng_t 161 rfl rfl
theorem tw_169 : (Jvm.Cond.methodLink "CeilingRowsLaw" (18 : Nat) ({ cls := "CeilingRows", name := "resource", desc := "()I" } : Jvm.MethodName)) ∈ ng_tbl := ng_t 169 rfl rfl
theorem tw_170 : (Jvm.Cond.instanceMethod ({ cls := "CeilingRows", name := "resource", desc := "()I" } : Jvm.MethodName)) ∈ ng_tbl := ng_t 170 rfl rfl
theorem tw_171 : (Jvm.Cond.selects "CeilingRows" ({ cls := "CeilingRows", name := "resource", desc := "()I" } : Jvm.MethodName) ({ cls := "CeilingRows", name := "resource", desc := "()I" } : Jvm.MethodName)) ∈ ng_tbl := ng_t 171 rfl rfl
theorem tw_172 : (Jvm.Cond.code ({ cls := "CeilingRows", name := "resource", desc := "()I" } : Jvm.MethodName) prog_1_method_3_code (1 : Nat) (Option.some Jvm.ClassFile.FieldType.int)) ∈ ng_tbl := ng_t 172 rfl rfl
theorem tw_177 : (Jvm.Cond.methodLink "CeilingRowsLaw" (25 : Nat) ({ cls := "CeilingRows", name := "uses", desc := "(IIJ)I" } : Jvm.MethodName)) ∈ ng_tbl := ng_t 177 rfl rfl
theorem tw_178 : (Jvm.Cond.instanceMethod ({ cls := "CeilingRows", name := "uses", desc := "(IIJ)I" } : Jvm.MethodName)) ∈ ng_tbl := ng_t 178 rfl rfl
theorem tw_179 : (Jvm.Cond.selects "CeilingRows" ({ cls := "CeilingRows", name := "uses", desc := "(IIJ)I" } : Jvm.MethodName) ({ cls := "CeilingRows", name := "uses", desc := "(IIJ)I" } : Jvm.MethodName)) ∈ ng_tbl := ng_t 179 rfl rfl
theorem tw_180 : (Jvm.Cond.code ({ cls := "CeilingRows", name := "uses", desc := "(IIJ)I" } : Jvm.MethodName) prog_1_method_4_code (7 : Nat) (Option.some Jvm.ClassFile.FieldType.int)) ∈ ng_tbl := ng_t 180 rfl rfl
theorem tw_209 : (Jvm.Cond.methodLink "CeilingRowsLaw" (30 : Nat) ({ cls := "CeilingRows", name := "ceiling", desc := "(I)I" } : Jvm.MethodName)) ∈ ng_tbl := ng_t 209 rfl rfl
theorem tw_210 : (Jvm.Cond.instanceMethod ({ cls := "CeilingRows", name := "ceiling", desc := "(I)I" } : Jvm.MethodName)) ∈ ng_tbl := ng_t 210 rfl rfl
theorem tw_211 : (Jvm.Cond.selects "CeilingRows" ({ cls := "CeilingRows", name := "ceiling", desc := "(I)I" } : Jvm.MethodName) ({ cls := "CeilingRows", name := "ceiling", desc := "(I)I" } : Jvm.MethodName)) ∈ ng_tbl := ng_t 211 rfl rfl
theorem tw_212 : (Jvm.Cond.code ({ cls := "CeilingRows", name := "ceiling", desc := "(I)I" } : Jvm.MethodName) prog_1_method_5_code (2 : Nat) (Option.some Jvm.ClassFile.FieldType.int)) ∈ ng_tbl := ng_t 212 rfl rfl
theorem tw_213 : (Jvm.Cond.methodLink "CeilingRowsLaw" (35 : Nat) ({ cls := "CeilingRows", name := "step", desc := "(IIIJ)I" } : Jvm.MethodName)) ∈ ng_tbl := ng_t 213 rfl rfl
theorem tw_214 : (Jvm.Cond.instanceMethod ({ cls := "CeilingRows", name := "step", desc := "(IIIJ)I" } : Jvm.MethodName)) ∈ ng_tbl := ng_t 214 rfl rfl
theorem tw_215 : (Jvm.Cond.selects "CeilingRows" ({ cls := "CeilingRows", name := "step", desc := "(IIIJ)I" } : Jvm.MethodName) ({ cls := "CeilingRows", name := "step", desc := "(IIIJ)I" } : Jvm.MethodName)) ∈ ng_tbl := ng_t 215 rfl rfl
theorem tw_216 : (Jvm.Cond.code ({ cls := "CeilingRows", name := "step", desc := "(IIIJ)I" } : Jvm.MethodName) prog_1_method_6_code (8 : Nat) (Option.some Jvm.ClassFile.FieldType.int)) ∈ ng_tbl := ng_t 216 rfl rfl
theorem tw_285 : (Jvm.Cond.methodLink "CeilingRowsLaw" (40 : Nat) ({ cls := "CeilingRows", name := "rank", desc := "(I)I" } : Jvm.MethodName)) ∈ ng_tbl := ng_t 285 rfl rfl
theorem tw_286 : (Jvm.Cond.instanceMethod ({ cls := "CeilingRows", name := "rank", desc := "(I)I" } : Jvm.MethodName)) ∈ ng_tbl := ng_t 286 rfl rfl
theorem tw_287 : (Jvm.Cond.selects "CeilingRows" ({ cls := "CeilingRows", name := "rank", desc := "(I)I" } : Jvm.MethodName) ({ cls := "CeilingRows", name := "rank", desc := "(I)I" } : Jvm.MethodName)) ∈ ng_tbl := ng_t 287 rfl rfl
theorem tw_288 : (Jvm.Cond.code ({ cls := "CeilingRows", name := "rank", desc := "(I)I" } : Jvm.MethodName) prog_1_method_7_code (2 : Nat) (Option.some Jvm.ClassFile.FieldType.int)) ∈ ng_tbl := ng_t 288 rfl rfl
theorem tw_290 : (Jvm.Cond.methodLink "CeilingRowsLaw" (44 : Nat) ({ cls := "CeilingRows", name := "holder", desc := "(I)I" } : Jvm.MethodName)) ∈ ng_tbl := ng_t 290 rfl rfl
theorem tw_291 : (Jvm.Cond.instanceMethod ({ cls := "CeilingRows", name := "holder", desc := "(I)I" } : Jvm.MethodName)) ∈ ng_tbl := ng_t 291 rfl rfl
theorem tw_292 : (Jvm.Cond.selects "CeilingRows" ({ cls := "CeilingRows", name := "holder", desc := "(I)I" } : Jvm.MethodName) ({ cls := "CeilingRows", name := "holder", desc := "(I)I" } : Jvm.MethodName)) ∈ ng_tbl := ng_t 292 rfl rfl
theorem tw_293 : (Jvm.Cond.code ({ cls := "CeilingRows", name := "holder", desc := "(I)I" } : Jvm.MethodName) prog_1_method_8_code (2 : Nat) (Option.some Jvm.ClassFile.FieldType.int)) ∈ ng_tbl := ng_t 293 rfl rfl
theorem tw_294 : (Jvm.Cond.methodLink "CeilingRowsLaw" (48 : Nat) ({ cls := "CeilingRows", name := "blocking", desc := "(I)J" } : Jvm.MethodName)) ∈ ng_tbl := ng_t 294 rfl rfl
theorem tw_295 : (Jvm.Cond.instanceMethod ({ cls := "CeilingRows", name := "blocking", desc := "(I)J" } : Jvm.MethodName)) ∈ ng_tbl := ng_t 295 rfl rfl
theorem tw_296 : (Jvm.Cond.selects "CeilingRows" ({ cls := "CeilingRows", name := "blocking", desc := "(I)J" } : Jvm.MethodName) ({ cls := "CeilingRows", name := "blocking", desc := "(I)J" } : Jvm.MethodName)) ∈ ng_tbl := ng_t 296 rfl rfl
theorem tw_297 : (Jvm.Cond.code ({ cls := "CeilingRows", name := "blocking", desc := "(I)J" } : Jvm.MethodName) prog_1_method_9_code (4 : Nat) (Option.some Jvm.ClassFile.FieldType.long)) ∈ ng_tbl := ng_t 297 rfl rfl
theorem tw_308 : (Jvm.Cond.methodLink "CeilingRowsLaw" (53 : Nat) ({ cls := "CeilingRows", name := "lock", desc := "(II)I" } : Jvm.MethodName)) ∈ ng_tbl := ng_t 308 rfl rfl
theorem tw_309 : (Jvm.Cond.instanceMethod ({ cls := "CeilingRows", name := "lock", desc := "(II)I" } : Jvm.MethodName)) ∈ ng_tbl := ng_t 309 rfl rfl
theorem tw_310 : (Jvm.Cond.selects "CeilingRows" ({ cls := "CeilingRows", name := "lock", desc := "(II)I" } : Jvm.MethodName) ({ cls := "CeilingRows", name := "lock", desc := "(II)I" } : Jvm.MethodName)) ∈ ng_tbl := ng_t 310 rfl rfl
theorem tw_311 : (Jvm.Cond.code ({ cls := "CeilingRows", name := "lock", desc := "(II)I" } : Jvm.MethodName) prog_1_method_10_code (3 : Nat) (Option.some Jvm.ClassFile.FieldType.int)) ∈ ng_tbl := ng_t 311 rfl rfl
theorem tw_328 : (Jvm.Cond.methodLink "CeilingRowsLaw" (57 : Nat) ({ cls := "CeilingRows", name := "ring", desc := "()Z" } : Jvm.MethodName)) ∈ ng_tbl := ng_t 328 rfl rfl
theorem tw_329 : (Jvm.Cond.instanceMethod ({ cls := "CeilingRows", name := "ring", desc := "()Z" } : Jvm.MethodName)) ∈ ng_tbl := ng_t 329 rfl rfl
theorem tw_330 : (Jvm.Cond.selects "CeilingRows" ({ cls := "CeilingRows", name := "ring", desc := "()Z" } : Jvm.MethodName) ({ cls := "CeilingRows", name := "ring", desc := "()Z" } : Jvm.MethodName)) ∈ ng_tbl := ng_t 330 rfl rfl
theorem tw_331 : (Jvm.Cond.code ({ cls := "CeilingRows", name := "ring", desc := "()Z" } : Jvm.MethodName) prog_1_method_11_code (2 : Nat) (Option.some Jvm.ClassFile.FieldType.boolean)) ∈ ng_tbl := ng_t 331 rfl rfl
theorem tw_337 : (Jvm.Cond.methodLink "CeilingRowsLaw" (62 : Nat) ({ cls := "CeilingRows", name := "lower", desc := "(II)I" } : Jvm.MethodName)) ∈ ng_tbl := ng_t 337 rfl rfl
theorem tw_338 : (Jvm.Cond.instanceMethod ({ cls := "CeilingRows", name := "lower", desc := "(II)I" } : Jvm.MethodName)) ∈ ng_tbl := ng_t 338 rfl rfl
theorem tw_339 : (Jvm.Cond.selects "CeilingRows" ({ cls := "CeilingRows", name := "lower", desc := "(II)I" } : Jvm.MethodName) ({ cls := "CeilingRows", name := "lower", desc := "(II)I" } : Jvm.MethodName)) ∈ ng_tbl := ng_t 339 rfl rfl
theorem tw_340 : (Jvm.Cond.code ({ cls := "CeilingRows", name := "lower", desc := "(II)I" } : Jvm.MethodName) prog_1_method_12_code (5 : Nat) (Option.some Jvm.ClassFile.FieldType.int)) ∈ ng_tbl := ng_t 340 rfl rfl
theorem tw_341 : (Jvm.Cond.methodLink "CeilingRowsLaw" (66 : Nat) ({ cls := "CeilingRows", name := "plain", desc := "(J)I" } : Jvm.MethodName)) ∈ ng_tbl := ng_t 341 rfl rfl
theorem tw_342 : (Jvm.Cond.instanceMethod ({ cls := "CeilingRows", name := "plain", desc := "(J)I" } : Jvm.MethodName)) ∈ ng_tbl := ng_t 342 rfl rfl
theorem tw_343 : (Jvm.Cond.selects "CeilingRows" ({ cls := "CeilingRows", name := "plain", desc := "(J)I" } : Jvm.MethodName) ({ cls := "CeilingRows", name := "plain", desc := "(J)I" } : Jvm.MethodName)) ∈ ng_tbl := ng_t 343 rfl rfl
theorem tw_344 : (Jvm.Cond.code ({ cls := "CeilingRows", name := "plain", desc := "(J)I" } : Jvm.MethodName) prog_1_method_13_code (3 : Nat) (Option.some Jvm.ClassFile.FieldType.int)) ∈ ng_tbl := ng_t 344 rfl rfl
set_option maxRecDepth 20000 in
theorem tw_413 : (Jvm.Cond.fieldLink "CeilingRowsModel" (63 : Nat) "CeilingRowsModel" "tasks" "I") ∈ ng_tbl := ng_t 413 rfl rfl
set_option maxRecDepth 20000 in
theorem tw_414 : (Jvm.Cond.fieldLink "CeilingRowsModel" (7 : Nat) "CeilingRowsModel" "rank" "[I") ∈ ng_tbl := ng_t 414 rfl rfl
set_option maxRecDepth 20000 in
theorem tw_415 : (Jvm.Cond.fieldLink "CeilingRowsModel" (13 : Nat) "CeilingRowsModel" "core" "[I") ∈ ng_tbl := ng_t 415 rfl rfl
set_option maxRecDepth 20000 in
theorem tw_416 : (Jvm.Cond.fieldLink "CeilingRowsModel" (16 : Nat) "CeilingRowsModel" "state" "[I") ∈ ng_tbl := ng_t 416 rfl rfl
set_option maxRecDepth 20000 in
theorem tw_417 : (Jvm.Cond.fieldLink "CeilingRowsModel" (19 : Nat) "CeilingRowsModel" "since" "[I") ∈ ng_tbl := ng_t 417 rfl rfl
set_option maxRecDepth 20000 in
theorem tw_418 : (Jvm.Cond.fieldLink "CeilingRowsModel" (89 : Nat) "CeilingRowsModel" "readies" "I") ∈ ng_tbl := ng_t 418 rfl rfl
set_option maxRecDepth 20000 in
theorem tw_419 : (Jvm.Cond.fieldLink "CeilingRowsModel" (22 : Nat) "CeilingRowsModel" "kept" "[Z") ∈ ng_tbl := ng_t 419 rfl rfl
set_option maxRecDepth 20000 in
theorem tw_420 : (Jvm.Cond.fieldLink "CeilingRowsModel" (67 : Nat) "CeilingRowsModel" "resources" "I") ∈ ng_tbl := ng_t 420 rfl rfl
set_option maxRecDepth 20000 in
theorem tw_421 : (Jvm.Cond.fieldLink "CeilingRowsModel" (26 : Nat) "CeilingRowsModel" "length" "[J") ∈ ng_tbl := ng_t 421 rfl rfl
set_option maxRecDepth 20000 in
theorem tw_422 : (Jvm.Cond.fieldLink "CeilingRowsModel" (30 : Nat) "CeilingRowsModel" "holder" "[I") ∈ ng_tbl := ng_t 422 rfl rfl
set_option maxRecDepth 20000 in
theorem tw_423 : (Jvm.Cond.fieldLink "CeilingRowsModel" (33 : Nat) "CeilingRowsModel" "nth" "[I") ∈ ng_tbl := ng_t 423 rfl rfl
set_option maxRecDepth 20000 in
theorem tw_424 : (Jvm.Cond.fieldLink "CeilingRowsModel" (102 : Nat) "CeilingRowsModel" "latest" "J") ∈ ng_tbl := ng_t 424 rfl rfl
set_option maxRecDepth 20000 in
theorem tw_425 : (Jvm.Cond.fieldLink "CeilingRowsModel" (36 : Nat) "CeilingRowsModel" "lockOf" "[I") ∈ ng_tbl := ng_t 425 rfl rfl
set_option maxRecDepth 20000 in
theorem tw_426 : (Jvm.Cond.fieldLink "CeilingRowsModel" (39 : Nat) "CeilingRowsModel" "lockNth" "[I") ∈ ng_tbl := ng_t 426 rfl rfl
set_option maxRecDepth 20000 in
theorem tw_427 : (Jvm.Cond.fieldLink "CeilingRowsModel" (42 : Nat) "CeilingRowsModel" "spins" "[I") ∈ ng_tbl := ng_t 427 rfl rfl
set_option maxRecDepth 20000 in
theorem tw_428 : (Jvm.Cond.fieldLink "CeilingRowsModel" (45 : Nat) "CeilingRowsModel" "spinSince" "[I") ∈ ng_tbl := ng_t 428 rfl rfl
set_option maxRecDepth 20000 in
theorem tw_429 : (Jvm.Cond.fieldLink "CeilingRowsModel" (118 : Nat) "CeilingRowsModel" "locks" "I") ∈ ng_tbl := ng_t 429 rfl rfl
set_option maxRecDepth 20000 in
theorem tw_430 : (Jvm.Cond.fieldLink "CeilingRowsModel" (48 : Nat) "CeilingRowsModel" "trialState" "[I") ∈ ng_tbl := ng_t 430 rfl rfl
set_option maxRecDepth 20000 in
theorem tw_431 : (Jvm.Cond.fieldLink "CeilingRowsModel" (51 : Nat) "CeilingRowsModel" "trialSince" "[I") ∈ ng_tbl := ng_t 431 rfl rfl
set_option maxRecDepth 20000 in
theorem tw_432 : (Jvm.Cond.fieldLink "CeilingRowsModel" (54 : Nat) "CeilingRowsModel" "done" "[I") ∈ ng_tbl := ng_t 432 rfl rfl
set_option maxRecDepth 20000 in
theorem tw_433 : (Jvm.Cond.fieldLink "CeilingRowsModel" (57 : Nat) "CeilingRowsModel" "held" "[I") ∈ ng_tbl := ng_t 433 rfl rfl
set_option maxRecDepth 20000 in
theorem tw_434 : (Jvm.Cond.fieldLink "CeilingRowsModel" (60 : Nat) "CeilingRowsModel" "met" "[Z") ∈ ng_tbl := ng_t 434 rfl rfl
set_option maxRecDepth 20000 in
theorem tw_481 : (Jvm.Cond.methodLink "CeilingRowsLaw" (17 : Nat) ({ cls := "CeilingRowsModel", name := "task", desc := "(II)I" } : Jvm.MethodName)) ∈ ng_tbl := ng_t 481 rfl rfl
set_option maxRecDepth 20000 in
theorem tw_482 : (Jvm.Cond.instanceMethod ({ cls := "CeilingRowsModel", name := "task", desc := "(II)I" } : Jvm.MethodName)) ∈ ng_tbl := ng_t 482 rfl rfl
set_option maxRecDepth 20000 in
theorem tw_483 : (Jvm.Cond.selects "CeilingRowsModel" ({ cls := "CeilingRowsModel", name := "task", desc := "(II)I" } : Jvm.MethodName) ({ cls := "CeilingRowsModel", name := "task", desc := "(II)I" } : Jvm.MethodName)) ∈ ng_tbl := ng_t 483 rfl rfl
set_option maxRecDepth 20000 in
theorem tw_484 : (Jvm.Cond.code ({ cls := "CeilingRowsModel", name := "task", desc := "(II)I" } : Jvm.MethodName) prog_7_method_4_code (3 : Nat) (Option.some Jvm.ClassFile.FieldType.int)) ∈ ng_tbl := ng_t 484 rfl rfl
set_option maxRecDepth 20000 in
theorem tw_485 : (Jvm.Cond.methodLink "CeilingRowsLaw" (22 : Nat) ({ cls := "CeilingRowsModel", name := "resource", desc := "()I" } : Jvm.MethodName)) ∈ ng_tbl := ng_t 485 rfl rfl
set_option maxRecDepth 20000 in
theorem tw_486 : (Jvm.Cond.instanceMethod ({ cls := "CeilingRowsModel", name := "resource", desc := "()I" } : Jvm.MethodName)) ∈ ng_tbl := ng_t 486 rfl rfl
set_option maxRecDepth 20000 in
theorem tw_487 : (Jvm.Cond.selects "CeilingRowsModel" ({ cls := "CeilingRowsModel", name := "resource", desc := "()I" } : Jvm.MethodName) ({ cls := "CeilingRowsModel", name := "resource", desc := "()I" } : Jvm.MethodName)) ∈ ng_tbl := ng_t 487 rfl rfl
set_option maxRecDepth 20000 in
theorem tw_488 : (Jvm.Cond.code ({ cls := "CeilingRowsModel", name := "resource", desc := "()I" } : Jvm.MethodName) prog_7_method_5_code (1 : Nat) (Option.some Jvm.ClassFile.FieldType.int)) ∈ ng_tbl := ng_t 488 rfl rfl
set_option maxRecDepth 20000 in
theorem tw_489 : (Jvm.Cond.methodLink "CeilingRowsLaw" (29 : Nat) ({ cls := "CeilingRowsModel", name := "uses", desc := "(IIJ)I" } : Jvm.MethodName)) ∈ ng_tbl := ng_t 489 rfl rfl
set_option maxRecDepth 20000 in
theorem tw_490 : (Jvm.Cond.instanceMethod ({ cls := "CeilingRowsModel", name := "uses", desc := "(IIJ)I" } : Jvm.MethodName)) ∈ ng_tbl := ng_t 490 rfl rfl
set_option maxRecDepth 20000 in
theorem tw_491 : (Jvm.Cond.selects "CeilingRowsModel" ({ cls := "CeilingRowsModel", name := "uses", desc := "(IIJ)I" } : Jvm.MethodName) ({ cls := "CeilingRowsModel", name := "uses", desc := "(IIJ)I" } : Jvm.MethodName)) ∈ ng_tbl := ng_t 491 rfl rfl
set_option maxRecDepth 20000 in
theorem tw_492 : (Jvm.Cond.code ({ cls := "CeilingRowsModel", name := "uses", desc := "(IIJ)I" } : Jvm.MethodName) prog_7_method_6_code (6 : Nat) (Option.some Jvm.ClassFile.FieldType.int)) ∈ ng_tbl := ng_t 492 rfl rfl
set_option maxRecDepth 20000 in
theorem tw_493 : (Jvm.Cond.methodLink "CeilingRowsModel" (70 : Nat) ({ cls := "CeilingRowsModel", name := "isTask", desc := "(I)Z" } : Jvm.MethodName)) ∈ ng_tbl := ng_t 493 rfl rfl
set_option maxRecDepth 20000 in
theorem tw_495 : (Jvm.Cond.instanceMethod ({ cls := "CeilingRowsModel", name := "isTask", desc := "(I)Z" } : Jvm.MethodName)) ∈ ng_tbl := ng_t 495 rfl rfl
set_option maxRecDepth 20000 in
theorem tw_496 : (Jvm.Cond.code ({ cls := "CeilingRowsModel", name := "isTask", desc := "(I)Z" } : Jvm.MethodName) prog_7_method_2_code (2 : Nat) (Option.some Jvm.ClassFile.FieldType.boolean)) ∈ ng_tbl := ng_t 496 rfl rfl
set_option maxRecDepth 20000 in
theorem tw_497 : (Jvm.Cond.methodLink "CeilingRowsModel" (74 : Nat) ({ cls := "CeilingRowsModel", name := "isResource", desc := "(I)Z" } : Jvm.MethodName)) ∈ ng_tbl := ng_t 497 rfl rfl
set_option maxRecDepth 20000 in
theorem tw_499 : (Jvm.Cond.instanceMethod ({ cls := "CeilingRowsModel", name := "isResource", desc := "(I)Z" } : Jvm.MethodName)) ∈ ng_tbl := ng_t 499 rfl rfl
set_option maxRecDepth 20000 in
theorem tw_500 : (Jvm.Cond.code ({ cls := "CeilingRowsModel", name := "isResource", desc := "(I)Z" } : Jvm.MethodName) prog_7_method_3_code (2 : Nat) (Option.some Jvm.ClassFile.FieldType.boolean)) ∈ ng_tbl := ng_t 500 rfl rfl
set_option maxRecDepth 20000 in
theorem tw_501 : (Jvm.Cond.constantLong "CeilingRowsModel" (77 : Nat) (1000 : Int64)) ∈ ng_tbl := ng_t 501 rfl rfl
set_option maxRecDepth 20000 in
theorem tw_502 : (Jvm.Cond.methodLink "CeilingRowsLaw" (34 : Nat) ({ cls := "CeilingRowsModel", name := "ceiling", desc := "(I)I" } : Jvm.MethodName)) ∈ ng_tbl := ng_t 502 rfl rfl
set_option maxRecDepth 20000 in
theorem tw_503 : (Jvm.Cond.instanceMethod ({ cls := "CeilingRowsModel", name := "ceiling", desc := "(I)I" } : Jvm.MethodName)) ∈ ng_tbl := ng_t 503 rfl rfl
set_option maxRecDepth 20000 in
theorem tw_504 : (Jvm.Cond.selects "CeilingRowsModel" ({ cls := "CeilingRowsModel", name := "ceiling", desc := "(I)I" } : Jvm.MethodName) ({ cls := "CeilingRowsModel", name := "ceiling", desc := "(I)I" } : Jvm.MethodName)) ∈ ng_tbl := ng_t 504 rfl rfl
set_option maxRecDepth 20000 in
theorem tw_505 : (Jvm.Cond.code ({ cls := "CeilingRowsModel", name := "ceiling", desc := "(I)I" } : Jvm.MethodName) prog_7_method_8_code (2 : Nat) (Option.some Jvm.ClassFile.FieldType.int)) ∈ ng_tbl := ng_t 505 rfl rfl
set_option maxRecDepth 20000 in
theorem tw_506 : (Jvm.Cond.methodLink "CeilingRowsModel" (79 : Nat) ({ cls := "CeilingRowsModel", name := "ceilingOf", desc := "(I)I" } : Jvm.MethodName)) ∈ ng_tbl := ng_t 506 rfl rfl
set_option maxRecDepth 20000 in
theorem tw_508 : (Jvm.Cond.instanceMethod ({ cls := "CeilingRowsModel", name := "ceilingOf", desc := "(I)I" } : Jvm.MethodName)) ∈ ng_tbl := ng_t 508 rfl rfl
set_option maxRecDepth 20000 in
theorem tw_509 : (Jvm.Cond.code ({ cls := "CeilingRowsModel", name := "ceilingOf", desc := "(I)I" } : Jvm.MethodName) prog_7_method_7_code (4 : Nat) (Option.some Jvm.ClassFile.FieldType.int)) ∈ ng_tbl := ng_t 509 rfl rfl
set_option maxRecDepth 20000 in
theorem tw_510 : (Jvm.Cond.methodLink "CeilingRowsLaw" (39 : Nat) ({ cls := "CeilingRowsModel", name := "step", desc := "(IIIJ)I" } : Jvm.MethodName)) ∈ ng_tbl := ng_t 510 rfl rfl
set_option maxRecDepth 20000 in
theorem tw_511 : (Jvm.Cond.instanceMethod ({ cls := "CeilingRowsModel", name := "step", desc := "(IIIJ)I" } : Jvm.MethodName)) ∈ ng_tbl := ng_t 511 rfl rfl
set_option maxRecDepth 20000 in
theorem tw_512 : (Jvm.Cond.selects "CeilingRowsModel" ({ cls := "CeilingRowsModel", name := "step", desc := "(IIIJ)I" } : Jvm.MethodName) ({ cls := "CeilingRowsModel", name := "step", desc := "(IIIJ)I" } : Jvm.MethodName)) ∈ ng_tbl := ng_t 512 rfl rfl
set_option maxRecDepth 20000 in
theorem tw_513 : (Jvm.Cond.code ({ cls := "CeilingRowsModel", name := "step", desc := "(IIIJ)I" } : Jvm.MethodName) prog_7_method_15_code (7 : Nat) (Option.some Jvm.ClassFile.FieldType.int)) ∈ ng_tbl := ng_t 513 rfl rfl
set_option maxRecDepth 20000 in
theorem tw_514 : (Jvm.Cond.constantLong "CeilingRowsModel" (106 : Nat) (1000000000 : Int64)) ∈ ng_tbl := ng_t 514 rfl rfl
set_option maxRecDepth 20000 in
theorem tw_515 : (Jvm.Cond.methodLink "CeilingRowsModel" (108 : Nat) ({ cls := "CeilingRowsModel", name := "acts", desc := "(III)I" } : Jvm.MethodName)) ∈ ng_tbl := ng_t 515 rfl rfl
set_option maxRecDepth 20000 in
theorem tw_517 : (Jvm.Cond.instanceMethod ({ cls := "CeilingRowsModel", name := "acts", desc := "(III)I" } : Jvm.MethodName)) ∈ ng_tbl := ng_t 517 rfl rfl
set_option maxRecDepth 20000 in
theorem tw_518 : (Jvm.Cond.code ({ cls := "CeilingRowsModel", name := "acts", desc := "(III)I" } : Jvm.MethodName) prog_7_method_14_code (6 : Nat) (Option.some Jvm.ClassFile.FieldType.int)) ∈ ng_tbl := ng_t 518 rfl rfl
set_option maxRecDepth 20000 in
theorem tw_519 : (Jvm.Cond.methodLink "CeilingRowsModel" (92 : Nat) ({ cls := "CeilingRowsModel", name := "ready", desc := "(I)V" } : Jvm.MethodName)) ∈ ng_tbl := ng_t 519 rfl rfl
set_option maxRecDepth 20000 in
theorem tw_521 : (Jvm.Cond.instanceMethod ({ cls := "CeilingRowsModel", name := "ready", desc := "(I)V" } : Jvm.MethodName)) ∈ ng_tbl := ng_t 521 rfl rfl
set_option maxRecDepth 20000 in
theorem tw_522 : (Jvm.Cond.code ({ cls := "CeilingRowsModel", name := "ready", desc := "(I)V" } : Jvm.MethodName) prog_7_method_12_code (2 : Nat) (Option.none : Option Jvm.ClassFile.FieldType)) ∈ ng_tbl := ng_t 522 rfl rfl
set_option maxRecDepth 20000 in
theorem tw_523 : (Jvm.Cond.methodLink "CeilingRowsModel" (96 : Nat) ({ cls := "CeilingRowsModel", name := "runs", desc := "(I)Z" } : Jvm.MethodName)) ∈ ng_tbl := ng_t 523 rfl rfl
set_option maxRecDepth 20000 in
theorem tw_525 : (Jvm.Cond.instanceMethod ({ cls := "CeilingRowsModel", name := "runs", desc := "(I)Z" } : Jvm.MethodName)) ∈ ng_tbl := ng_t 525 rfl rfl
set_option maxRecDepth 20000 in
theorem tw_526 : (Jvm.Cond.code ({ cls := "CeilingRowsModel", name := "runs", desc := "(I)Z" } : Jvm.MethodName) prog_7_method_11_code (2 : Nat) (Option.some Jvm.ClassFile.FieldType.boolean)) ∈ ng_tbl := ng_t 526 rfl rfl
set_option maxRecDepth 20000 in
theorem tw_527 : (Jvm.Cond.methodLink "CeilingRowsModel" (86 : Nat) ({ cls := "CeilingRowsModel", name := "running", desc := "(I)I" } : Jvm.MethodName)) ∈ ng_tbl := ng_t 527 rfl rfl
set_option maxRecDepth 20000 in
theorem tw_529 : (Jvm.Cond.instanceMethod ({ cls := "CeilingRowsModel", name := "running", desc := "(I)I" } : Jvm.MethodName)) ∈ ng_tbl := ng_t 529 rfl rfl
set_option maxRecDepth 20000 in
theorem tw_530 : (Jvm.Cond.code ({ cls := "CeilingRowsModel", name := "running", desc := "(I)I" } : Jvm.MethodName) prog_7_method_10_code (5 : Nat) (Option.some Jvm.ClassFile.FieldType.int)) ∈ ng_tbl := ng_t 530 rfl rfl
set_option maxRecDepth 20000 in
theorem tw_531 : (Jvm.Cond.methodLink "CeilingRowsModel" (83 : Nat) ({ cls := "CeilingRowsModel", name := "rankNow", desc := "(I)I" } : Jvm.MethodName)) ∈ ng_tbl := ng_t 531 rfl rfl
set_option maxRecDepth 20000 in
theorem tw_533 : (Jvm.Cond.instanceMethod ({ cls := "CeilingRowsModel", name := "rankNow", desc := "(I)I" } : Jvm.MethodName)) ∈ ng_tbl := ng_t 533 rfl rfl
set_option maxRecDepth 20000 in
theorem tw_534 : (Jvm.Cond.code ({ cls := "CeilingRowsModel", name := "rankNow", desc := "(I)I" } : Jvm.MethodName) prog_7_method_9_code (4 : Nat) (Option.some Jvm.ClassFile.FieldType.int)) ∈ ng_tbl := ng_t 534 rfl rfl
set_option maxRecDepth 20000 in
theorem tw_535 : (Jvm.Cond.methodLink "CeilingRowsModel" (99 : Nat) ({ cls := "CeilingRowsModel", name := "last", desc := "(I)I" } : Jvm.MethodName)) ∈ ng_tbl := ng_t 535 rfl rfl
set_option maxRecDepth 20000 in
theorem tw_537 : (Jvm.Cond.instanceMethod ({ cls := "CeilingRowsModel", name := "last", desc := "(I)I" } : Jvm.MethodName)) ∈ ng_tbl := ng_t 537 rfl rfl
set_option maxRecDepth 20000 in
theorem tw_538 : (Jvm.Cond.code ({ cls := "CeilingRowsModel", name := "last", desc := "(I)I" } : Jvm.MethodName) prog_7_method_13_code (4 : Nat) (Option.some Jvm.ClassFile.FieldType.int)) ∈ ng_tbl := ng_t 538 rfl rfl
set_option maxRecDepth 20000 in
theorem tw_539 : (Jvm.Cond.methodLink "CeilingRowsLaw" (43 : Nat) ({ cls := "CeilingRowsModel", name := "rank", desc := "(I)I" } : Jvm.MethodName)) ∈ ng_tbl := ng_t 539 rfl rfl
set_option maxRecDepth 20000 in
theorem tw_540 : (Jvm.Cond.instanceMethod ({ cls := "CeilingRowsModel", name := "rank", desc := "(I)I" } : Jvm.MethodName)) ∈ ng_tbl := ng_t 540 rfl rfl
set_option maxRecDepth 20000 in
theorem tw_541 : (Jvm.Cond.selects "CeilingRowsModel" ({ cls := "CeilingRowsModel", name := "rank", desc := "(I)I" } : Jvm.MethodName) ({ cls := "CeilingRowsModel", name := "rank", desc := "(I)I" } : Jvm.MethodName)) ∈ ng_tbl := ng_t 541 rfl rfl
set_option maxRecDepth 20000 in
theorem tw_542 : (Jvm.Cond.code ({ cls := "CeilingRowsModel", name := "rank", desc := "(I)I" } : Jvm.MethodName) prog_7_method_16_code (2 : Nat) (Option.some Jvm.ClassFile.FieldType.int)) ∈ ng_tbl := ng_t 542 rfl rfl
set_option maxRecDepth 20000 in
theorem tw_543 : (Jvm.Cond.methodLink "CeilingRowsLaw" (47 : Nat) ({ cls := "CeilingRowsModel", name := "holder", desc := "(I)I" } : Jvm.MethodName)) ∈ ng_tbl := ng_t 543 rfl rfl
set_option maxRecDepth 20000 in
theorem tw_544 : (Jvm.Cond.instanceMethod ({ cls := "CeilingRowsModel", name := "holder", desc := "(I)I" } : Jvm.MethodName)) ∈ ng_tbl := ng_t 544 rfl rfl
set_option maxRecDepth 20000 in
theorem tw_545 : (Jvm.Cond.selects "CeilingRowsModel" ({ cls := "CeilingRowsModel", name := "holder", desc := "(I)I" } : Jvm.MethodName) ({ cls := "CeilingRowsModel", name := "holder", desc := "(I)I" } : Jvm.MethodName)) ∈ ng_tbl := ng_t 545 rfl rfl
set_option maxRecDepth 20000 in
theorem tw_546 : (Jvm.Cond.code ({ cls := "CeilingRowsModel", name := "holder", desc := "(I)I" } : Jvm.MethodName) prog_7_method_17_code (2 : Nat) (Option.some Jvm.ClassFile.FieldType.int)) ∈ ng_tbl := ng_t 546 rfl rfl
set_option maxRecDepth 20000 in
theorem tw_547 : (Jvm.Cond.methodLink "CeilingRowsLaw" (52 : Nat) ({ cls := "CeilingRowsModel", name := "blocking", desc := "(I)J" } : Jvm.MethodName)) ∈ ng_tbl := ng_t 547 rfl rfl
set_option maxRecDepth 20000 in
theorem tw_548 : (Jvm.Cond.instanceMethod ({ cls := "CeilingRowsModel", name := "blocking", desc := "(I)J" } : Jvm.MethodName)) ∈ ng_tbl := ng_t 548 rfl rfl
set_option maxRecDepth 20000 in
theorem tw_549 : (Jvm.Cond.selects "CeilingRowsModel" ({ cls := "CeilingRowsModel", name := "blocking", desc := "(I)J" } : Jvm.MethodName) ({ cls := "CeilingRowsModel", name := "blocking", desc := "(I)J" } : Jvm.MethodName)) ∈ ng_tbl := ng_t 549 rfl rfl
set_option maxRecDepth 20000 in
theorem tw_550 : (Jvm.Cond.code ({ cls := "CeilingRowsModel", name := "blocking", desc := "(I)J" } : Jvm.MethodName) prog_7_method_19_code (6 : Nat) (Option.some Jvm.ClassFile.FieldType.long)) ∈ ng_tbl := ng_t 550 rfl rfl
set_option maxRecDepth 20000 in
theorem tw_551 : (Jvm.Cond.constantLong "CeilingRowsModel" (112 : Nat) (-1 : Int64)) ∈ ng_tbl := ng_t 551 rfl rfl
set_option maxRecDepth 20000 in
theorem tw_552 : (Jvm.Cond.methodLink "CeilingRowsModel" (114 : Nat) ({ cls := "CeilingRowsModel", name := "mayKeep", desc := "(III)Z" } : Jvm.MethodName)) ∈ ng_tbl := ng_t 552 rfl rfl
set_option maxRecDepth 20000 in
theorem tw_554 : (Jvm.Cond.instanceMethod ({ cls := "CeilingRowsModel", name := "mayKeep", desc := "(III)Z" } : Jvm.MethodName)) ∈ ng_tbl := ng_t 554 rfl rfl
set_option maxRecDepth 20000 in
theorem tw_555 : (Jvm.Cond.code ({ cls := "CeilingRowsModel", name := "mayKeep", desc := "(III)Z" } : Jvm.MethodName) prog_7_method_18_code (4 : Nat) (Option.some Jvm.ClassFile.FieldType.boolean)) ∈ ng_tbl := ng_t 555 rfl rfl
set_option maxRecDepth 20000 in
theorem tw_556 : (Jvm.Cond.methodLink "CeilingRowsLaw" (65 : Nat) ({ cls := "CeilingRowsModel", name := "lower", desc := "(II)I" } : Jvm.MethodName)) ∈ ng_tbl := ng_t 556 rfl rfl
set_option maxRecDepth 20000 in
theorem tw_557 : (Jvm.Cond.instanceMethod ({ cls := "CeilingRowsModel", name := "lower", desc := "(II)I" } : Jvm.MethodName)) ∈ ng_tbl := ng_t 557 rfl rfl
set_option maxRecDepth 20000 in
theorem tw_558 : (Jvm.Cond.selects "CeilingRowsModel" ({ cls := "CeilingRowsModel", name := "lower", desc := "(II)I" } : Jvm.MethodName) ({ cls := "CeilingRowsModel", name := "lower", desc := "(II)I" } : Jvm.MethodName)) ∈ ng_tbl := ng_t 558 rfl rfl
set_option maxRecDepth 20000 in
theorem tw_559 : (Jvm.Cond.code ({ cls := "CeilingRowsModel", name := "lower", desc := "(II)I" } : Jvm.MethodName) prog_7_method_20_code (7 : Nat) (Option.some Jvm.ClassFile.FieldType.int)) ∈ ng_tbl := ng_t 559 rfl rfl
set_option maxRecDepth 20000 in
theorem tw_560 : (Jvm.Cond.methodLink "CeilingRowsLaw" (56 : Nat) ({ cls := "CeilingRowsModel", name := "lock", desc := "(II)I" } : Jvm.MethodName)) ∈ ng_tbl := ng_t 560 rfl rfl
set_option maxRecDepth 20000 in
theorem tw_561 : (Jvm.Cond.instanceMethod ({ cls := "CeilingRowsModel", name := "lock", desc := "(II)I" } : Jvm.MethodName)) ∈ ng_tbl := ng_t 561 rfl rfl
set_option maxRecDepth 20000 in
theorem tw_562 : (Jvm.Cond.selects "CeilingRowsModel" ({ cls := "CeilingRowsModel", name := "lock", desc := "(II)I" } : Jvm.MethodName) ({ cls := "CeilingRowsModel", name := "lock", desc := "(II)I" } : Jvm.MethodName)) ∈ ng_tbl := ng_t 562 rfl rfl
set_option maxRecDepth 20000 in
theorem tw_563 : (Jvm.Cond.code ({ cls := "CeilingRowsModel", name := "lock", desc := "(II)I" } : Jvm.MethodName) prog_7_method_23_code (5 : Nat) (Option.some Jvm.ClassFile.FieldType.int)) ∈ ng_tbl := ng_t 563 rfl rfl
set_option maxRecDepth 20000 in
theorem tw_564 : (Jvm.Cond.methodLink "CeilingRowsModel" (121 : Nat) ({ cls := "CeilingRowsModel", name := "have", desc := "(II)V" } : Jvm.MethodName)) ∈ ng_tbl := ng_t 564 rfl rfl
set_option maxRecDepth 20000 in
theorem tw_566 : (Jvm.Cond.instanceMethod ({ cls := "CeilingRowsModel", name := "have", desc := "(II)V" } : Jvm.MethodName)) ∈ ng_tbl := ng_t 566 rfl rfl
set_option maxRecDepth 20000 in
theorem tw_567 : (Jvm.Cond.code ({ cls := "CeilingRowsModel", name := "have", desc := "(II)V" } : Jvm.MethodName) prog_7_method_22_code (3 : Nat) (Option.none : Option Jvm.ClassFile.FieldType)) ∈ ng_tbl := ng_t 567 rfl rfl
set_option maxRecDepth 20000 in
theorem tw_568 : (Jvm.Cond.methodLink "CeilingRowsModel" (125 : Nat) ({ cls := "CeilingRowsModel", name := "lastLock", desc := "(I)I" } : Jvm.MethodName)) ∈ ng_tbl := ng_t 568 rfl rfl
set_option maxRecDepth 20000 in
theorem tw_570 : (Jvm.Cond.instanceMethod ({ cls := "CeilingRowsModel", name := "lastLock", desc := "(I)I" } : Jvm.MethodName)) ∈ ng_tbl := ng_t 570 rfl rfl
set_option maxRecDepth 20000 in
theorem tw_571 : (Jvm.Cond.code ({ cls := "CeilingRowsModel", name := "lastLock", desc := "(I)I" } : Jvm.MethodName) prog_7_method_21_code (4 : Nat) (Option.some Jvm.ClassFile.FieldType.int)) ∈ ng_tbl := ng_t 571 rfl rfl
set_option maxRecDepth 20000 in
theorem tw_572 : (Jvm.Cond.methodLink "CeilingRowsLaw" (61 : Nat) ({ cls := "CeilingRowsModel", name := "ring", desc := "()Z" } : Jvm.MethodName)) ∈ ng_tbl := ng_t 572 rfl rfl
set_option maxRecDepth 20000 in
theorem tw_573 : (Jvm.Cond.instanceMethod ({ cls := "CeilingRowsModel", name := "ring", desc := "()Z" } : Jvm.MethodName)) ∈ ng_tbl := ng_t 573 rfl rfl
set_option maxRecDepth 20000 in
theorem tw_574 : (Jvm.Cond.selects "CeilingRowsModel" ({ cls := "CeilingRowsModel", name := "ring", desc := "()Z" } : Jvm.MethodName) ({ cls := "CeilingRowsModel", name := "ring", desc := "()Z" } : Jvm.MethodName)) ∈ ng_tbl := ng_t 574 rfl rfl
set_option maxRecDepth 20000 in
theorem tw_575 : (Jvm.Cond.code ({ cls := "CeilingRowsModel", name := "ring", desc := "()Z" } : Jvm.MethodName) prog_7_method_24_code (5 : Nat) (Option.some Jvm.ClassFile.FieldType.boolean)) ∈ ng_tbl := ng_t 575 rfl rfl
set_option maxRecDepth 20000 in
theorem tw_576 : (Jvm.Cond.methodLink "CeilingRowsLaw" (70 : Nat) ({ cls := "CeilingRowsModel", name := "plain", desc := "(J)I" } : Jvm.MethodName)) ∈ ng_tbl := ng_t 576 rfl rfl
set_option maxRecDepth 20000 in
theorem tw_577 : (Jvm.Cond.instanceMethod ({ cls := "CeilingRowsModel", name := "plain", desc := "(J)I" } : Jvm.MethodName)) ∈ ng_tbl := ng_t 577 rfl rfl
set_option maxRecDepth 20000 in
theorem tw_578 : (Jvm.Cond.selects "CeilingRowsModel" ({ cls := "CeilingRowsModel", name := "plain", desc := "(J)I" } : Jvm.MethodName) ({ cls := "CeilingRowsModel", name := "plain", desc := "(J)I" } : Jvm.MethodName)) ∈ ng_tbl := ng_t 578 rfl rfl
set_option maxRecDepth 20000 in
theorem tw_579 : (Jvm.Cond.code ({ cls := "CeilingRowsModel", name := "plain", desc := "(J)I" } : Jvm.MethodName) prog_7_method_28_code (9 : Nat) (Option.some Jvm.ClassFile.FieldType.int)) ∈ ng_tbl := ng_t 579 rfl rfl
set_option maxRecDepth 20000 in
theorem tw_580 : (Jvm.Cond.constantLong "CeilingRowsModel" (133 : Nat) (7 : Int64)) ∈ ng_tbl := ng_t 580 rfl rfl
set_option maxRecDepth 20000 in
theorem tw_581 : (Jvm.Cond.methodLink "CeilingRowsModel" (135 : Nat) ({ cls := "CeilingRowsModel", name := "trialRuns", desc := "(I)I" } : Jvm.MethodName)) ∈ ng_tbl := ng_t 581 rfl rfl
set_option maxRecDepth 20000 in
theorem tw_583 : (Jvm.Cond.instanceMethod ({ cls := "CeilingRowsModel", name := "trialRuns", desc := "(I)I" } : Jvm.MethodName)) ∈ ng_tbl := ng_t 583 rfl rfl
set_option maxRecDepth 20000 in
theorem tw_584 : (Jvm.Cond.code ({ cls := "CeilingRowsModel", name := "trialRuns", desc := "(I)I" } : Jvm.MethodName) prog_7_method_27_code (5 : Nat) (Option.some Jvm.ClassFile.FieldType.int)) ∈ ng_tbl := ng_t 584 rfl rfl
set_option maxRecDepth 20000 in
theorem tw_585 : (Jvm.Cond.methodLink "CeilingRowsModel" (130 : Nat) ({ cls := "CeilingRowsModel", name := "trialRank", desc := "(I)I" } : Jvm.MethodName)) ∈ ng_tbl := ng_t 585 rfl rfl
set_option maxRecDepth 20000 in
theorem tw_587 : (Jvm.Cond.instanceMethod ({ cls := "CeilingRowsModel", name := "trialRank", desc := "(I)I" } : Jvm.MethodName)) ∈ ng_tbl := ng_t 587 rfl rfl
set_option maxRecDepth 20000 in
theorem tw_588 : (Jvm.Cond.code ({ cls := "CeilingRowsModel", name := "trialRank", desc := "(I)I" } : Jvm.MethodName) prog_7_method_26_code (2 : Nat) (Option.some Jvm.ClassFile.FieldType.int)) ∈ ng_tbl := ng_t 588 rfl rfl
set_option maxRecDepth 20000 in
theorem tw_589 : (Jvm.Cond.methodLink "CeilingRowsModel" (138 : Nat) ({ cls := "CeilingRowsModel", name := "tickOf", desc := "(II)I" } : Jvm.MethodName)) ∈ ng_tbl := ng_t 589 rfl rfl
set_option maxRecDepth 20000 in
theorem tw_591 : (Jvm.Cond.instanceMethod ({ cls := "CeilingRowsModel", name := "tickOf", desc := "(II)I" } : Jvm.MethodName)) ∈ ng_tbl := ng_t 591 rfl rfl
set_option maxRecDepth 20000 in
theorem tw_592 : (Jvm.Cond.code ({ cls := "CeilingRowsModel", name := "tickOf", desc := "(II)I" } : Jvm.MethodName) prog_7_method_25_code (6 : Nat) (Option.some Jvm.ClassFile.FieldType.int)) ∈ ng_tbl := ng_t 592 rfl rfl
set_option maxRecDepth 20000 in
theorem tw_593 : (Jvm.Cond.constantLong "CeilingRowsModel" (128 : Nat) (3 : Int64)) ∈ ng_tbl := ng_t 593 rfl rfl
set_option maxRecDepth 20000 in
theorem tw_594 : (Jvm.Cond.constantLong "CeilingRowsLaw" (23 : Nat) (4294967295 : Int64)) ∈ ng_tbl := ng_t 594 rfl rfl
