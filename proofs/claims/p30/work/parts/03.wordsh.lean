theorem co_yL_agrees : Cond.code yL_agrees method_13_code 5 (Option.some Jvm.ClassFile.FieldType.int) ∈ TB := tb_of 467 (by decide +kernel) (by decide +kernel)
