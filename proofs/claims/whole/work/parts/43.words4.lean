theorem tw_10 : (Jvm.Cond.classLink "CeilingRowsLaw" (7 : Nat) "CeilingRows") ∈ ng_tbl := ng_t 10 rfl rfl
theorem tw_11 : (Jvm.Cond.instantiable "CeilingRows" (6 : Nat)) ∈ ng_tbl := ng_t 11 rfl rfl
theorem tw_12 : (Jvm.Cond.methodLink "CeilingRowsLaw" (9 : Nat) ({ cls := "CeilingRows", name := "<init>", desc := "()V" } : Jvm.MethodName)) ∈ ng_tbl := ng_t 12 rfl rfl
theorem tw_13 : (Jvm.Cond.instanceMethod ({ cls := "CeilingRows", name := "<init>", desc := "()V" } : Jvm.MethodName)) ∈ ng_tbl := ng_t 13 rfl rfl
theorem tw_14 : (Jvm.Cond.code ({ cls := "CeilingRows", name := "<init>", desc := "()V" } : Jvm.MethodName) prog_1_method_1_code (1 : Nat) (Option.none : Option Jvm.ClassFile.FieldType)) ∈ ng_tbl := ng_t 14 rfl rfl
set_option maxRecDepth 20000 in
theorem tw_407 : (Jvm.Cond.classLink "CeilingRowsLaw" (10 : Nat) "CeilingRowsModel") ∈ ng_tbl := ng_t 407 rfl rfl
set_option maxRecDepth 20000 in
theorem tw_408 : (Jvm.Cond.instantiable "CeilingRowsModel" (22 : Nat)) ∈ ng_tbl := ng_t 408 rfl rfl
set_option maxRecDepth 20000 in
theorem tw_409 : (Jvm.Cond.methodLink "CeilingRowsLaw" (12 : Nat) ({ cls := "CeilingRowsModel", name := "<init>", desc := "()V" } : Jvm.MethodName)) ∈ ng_tbl := ng_t 409 rfl rfl
set_option maxRecDepth 20000 in
theorem tw_410 : (Jvm.Cond.instanceMethod ({ cls := "CeilingRowsModel", name := "<init>", desc := "()V" } : Jvm.MethodName)) ∈ ng_tbl := ng_t 410 rfl rfl
set_option maxRecDepth 20000 in
theorem tw_411 : (Jvm.Cond.code ({ cls := "CeilingRowsModel", name := "<init>", desc := "()V" } : Jvm.MethodName) prog_7_method_1_code (1 : Nat) (Option.none : Option Jvm.ClassFile.FieldType)) ∈ ng_tbl := ng_t 411 rfl rfl
