theorem co_yL_hour : Cond.code yL_hour method_14_code 3 (Option.none : Option Jvm.ClassFile.FieldType) ∈ TB := tb_of 476 (by decide +kernel) (by decide +kernel)
