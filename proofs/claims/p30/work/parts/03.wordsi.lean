theorem co_yL_median : Cond.code yL_median method_12_code 7 (Option.some Jvm.ClassFile.FieldType.int) ∈ TB := tb_of 470 (by decide +kernel) (by decide +kernel)
