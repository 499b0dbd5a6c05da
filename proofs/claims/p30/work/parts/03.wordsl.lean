set_option maxRecDepth 100000 in
set_option maxHeartbeats 4000000 in
theorem co_yL_isSo : Cond.code yL_isSo method_19_code 15 (Option.some Jvm.ClassFile.FieldType.boolean) ∈ TB := tb_of 482 (by rfl) (by decide +kernel)
