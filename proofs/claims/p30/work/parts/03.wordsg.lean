theorem co_yL_due : Cond.code yL_due method_17_code 9 (Option.some Jvm.ClassFile.FieldType.int) ∈ TB := tb_of 443 (by decide +kernel) (by decide +kernel)
