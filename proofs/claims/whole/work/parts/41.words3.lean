set_option maxRecDepth 20000 in
theorem tw_412 : (Jvm.Cond.methodLink "CeilingRowsModel" (1 : Nat) ({ cls := "java/lang/Object", name := "<init>", desc := "()V" } : Jvm.MethodName)) ∈ ng_tbl := ng_t 412 rfl rfl
set_option maxRecDepth 20000 in
theorem tw_480 : (Jvm.Cond.arrayClass Jvm.ClassFile.FieldType.long) ∈ ng_tbl := ng_t 480 rfl rfl
