theorem co_yL_ends : Cond.code yL_ends method_15_code 4 (Option.some Jvm.ClassFile.FieldType.int) ∈ TB := tb_of 479 (by decide +kernel) (by decide +kernel)
