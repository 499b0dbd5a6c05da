theorem co_yL_call : Cond.code yL_call method_16_code 5 (Option.some Jvm.ClassFile.FieldType.int) ∈ TB := tb_of 255 (by decide +kernel) (by decide +kernel)
