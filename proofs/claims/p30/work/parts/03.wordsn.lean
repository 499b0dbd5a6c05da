theorem co_yL_told : Cond.code yL_told method_20_code 4 (Option.some Jvm.ClassFile.FieldType.long) ∈ TB := tb_of 581 (by decide +kernel) (by decide +kernel)
