theorem co_yL_isNavigator : Cond.code yL_isNavigator method_18_code 11 (Option.some Jvm.ClassFile.FieldType.boolean) ∈ TB := tb_of 545 (by decide +kernel) (by decide +kernel)
