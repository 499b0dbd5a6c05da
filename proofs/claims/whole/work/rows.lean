section
-- ===== PART A: goes FIRST, ahead of the names: the tables' words, and 'selects' of the private methods out of them =====
/-- a private method of a class that the tables say can be made, by its rows of tables_1 -/
def lw_okq (q : MethodName × Nat) : Prop := (q.1.cls ≠ "java/lang/invoke/MethodHandle" ∧ q.1.cls ≠ "java/lang/invoke/VarHandle") ∧ Cond.instantiable q.1.cls q.2 ∈ tables_1 ∧ Cond.privateMethod q.1 ∈ tables_1 ∧ Cond.instanceMethod q.1 ∈ tables_1
theorem lw_p0 : lw_okq (⟨"LampLatitudes$Voyage", "heightOf", "(I)I"⟩, 8) := ⟨⟨by decide +kernel, by decide +kernel⟩, List.mem_of_getElem? (i := 21) (by decide +kernel), List.mem_of_getElem? (i := 336) (by decide +kernel), List.mem_of_getElem? (i := 337) (by decide +kernel)⟩
theorem lw_p1 : lw_okq (⟨"LampLatitudes$Voyage", "reckon", "(II)I"⟩, 8) := ⟨⟨by decide +kernel, by decide +kernel⟩, List.mem_of_getElem? (i := 21) (by decide +kernel), List.mem_of_getElem? (i := 343) (by decide +kernel), List.mem_of_getElem? (i := 344) (by decide +kernel)⟩
theorem lw_p2 : lw_okq (⟨"LampLatitudes$Crew", "takesPart", "(I)Z"⟩, 7) := ⟨⟨by decide +kernel, by decide +kernel⟩, List.mem_of_getElem? (i := 48) (by decide +kernel), List.mem_of_getElem? (i := 372) (by decide +kernel), List.mem_of_getElem? (i := 373) (by decide +kernel)⟩
theorem lw_p3 : lw_okq (⟨"LampLatitudes$Crew", "rankWithout", "(II)I"⟩, 7) := ⟨⟨by decide +kernel, by decide +kernel⟩, List.mem_of_getElem? (i := 48) (by decide +kernel), List.mem_of_getElem? (i := 376) (by decide +kernel), List.mem_of_getElem? (i := 377) (by decide +kernel)⟩
theorem lw_p4 : lw_okq (⟨"LampLatitudes$Crew", "standsBefore", "(II)Z"⟩, 7) := ⟨⟨by decide +kernel, by decide +kernel⟩, List.mem_of_getElem? (i := 48) (by decide +kernel), List.mem_of_getElem? (i := 380) (by decide +kernel), List.mem_of_getElem? (i := 381) (by decide +kernel)⟩
theorem lw_p5 : lw_okq (⟨"LampLatitudes$Crew", "makeAngrier", "(I)V"⟩, 7) := ⟨⟨by decide +kernel, by decide +kernel⟩, List.mem_of_getElem? (i := 48) (by decide +kernel), List.mem_of_getElem? (i := 389) (by decide +kernel), List.mem_of_getElem? (i := 390) (by decide +kernel)⟩
theorem lw_p6 : lw_okq (⟨"LampLatitudes$Voyage", "thoseWhoCanSight", "(I)I"⟩, 8) := ⟨⟨by decide +kernel, by decide +kernel⟩, List.mem_of_getElem? (i := 21) (by decide +kernel), List.mem_of_getElem? (i := 447) (by decide +kernel), List.mem_of_getElem? (i := 448) (by decide +kernel)⟩
theorem lw_p7 : lw_okq (⟨"LampLatitudes$Pad", "nextSign", "()C"⟩, 6) := ⟨⟨by decide +kernel, by decide +kernel⟩, List.mem_of_getElem? (i := 167) (by decide +kernel), List.mem_of_getElem? (i := 570) (by decide +kernel), List.mem_of_getElem? (i := 571) (by decide +kernel)⟩
theorem lw_p8 : lw_okq (⟨"LampLatitudes$Pad", "readDigit", "()I"⟩, 6) := ⟨⟨by decide +kernel, by decide +kernel⟩, List.mem_of_getElem? (i := 167) (by decide +kernel), List.mem_of_getElem? (i := 574) (by decide +kernel), List.mem_of_getElem? (i := 575) (by decide +kernel)⟩
theorem lw_p9 : lw_okq (⟨"LampLatitudes$Pad", "readTwoDigits", "()Z"⟩, 6) := ⟨⟨by decide +kernel, by decide +kernel⟩, List.mem_of_getElem? (i := 167) (by decide +kernel), List.mem_of_getElem? (i := 581) (by decide +kernel), List.mem_of_getElem? (i := 582) (by decide +kernel)⟩
theorem lw_p10 : lw_okq (⟨"LampLatitudes$Pad", "readNumber", "()I"⟩, 6) := ⟨⟨by decide +kernel, by decide +kernel⟩, List.mem_of_getElem? (i := 167) (by decide +kernel), List.mem_of_getElem? (i := 585) (by decide +kernel), List.mem_of_getElem? (i := 586) (by decide +kernel)⟩
theorem lw_p11 : lw_okq (⟨"LampLatitudes$Pad", "readSignedNumber", "()Z"⟩, 6) := ⟨⟨by decide +kernel, by decide +kernel⟩, List.mem_of_getElem? (i := 167) (by decide +kernel), List.mem_of_getElem? (i := 589) (by decide +kernel), List.mem_of_getElem? (i := 590) (by decide +kernel)⟩
theorem lw_p12 : lw_okq (⟨"LampLatitudes", "obeyOrder", "()I"⟩, 6) := ⟨⟨by decide +kernel, by decide +kernel⟩, List.mem_of_getElem? (i := 13) (by decide +kernel), List.mem_of_getElem? (i := 599) (by decide +kernel), List.mem_of_getElem? (i := 600) (by decide +kernel)⟩
theorem lw_p13 : lw_okq (⟨"LampLatitudesModel", "setOf", "(III)V"⟩, 12) := ⟨⟨by decide +kernel, by decide +kernel⟩, List.mem_of_getElem? (i := 627) (by decide +kernel), List.mem_of_getElem? (i := 633) (by decide +kernel), List.mem_of_getElem? (i := 634) (by decide +kernel)⟩
theorem lw_p14 : lw_okq (⟨"LampLatitudesModel", "putAside", "()V"⟩, 12) := ⟨⟨by decide +kernel, by decide +kernel⟩, List.mem_of_getElem? (i := 627) (by decide +kernel), List.mem_of_getElem? (i := 692) (by decide +kernel), List.mem_of_getElem? (i := 693) (by decide +kernel)⟩
theorem lw_p15 : lw_okq (⟨"LampLatitudesModel", "push", "()V"⟩, 12) := ⟨⟨by decide +kernel, by decide +kernel⟩, List.mem_of_getElem? (i := 627) (by decide +kernel), List.mem_of_getElem? (i := 696) (by decide +kernel), List.mem_of_getElem? (i := 697) (by decide +kernel)⟩
def lw_privs_1 : List (MethodName × Nat) := [(⟨"LampLatitudes$Voyage", "heightOf", "(I)I"⟩, 8), (⟨"LampLatitudes$Voyage", "reckon", "(II)I"⟩, 8), (⟨"LampLatitudes$Crew", "takesPart", "(I)Z"⟩, 7), (⟨"LampLatitudes$Crew", "rankWithout", "(II)I"⟩, 7), (⟨"LampLatitudes$Crew", "standsBefore", "(II)Z"⟩, 7), (⟨"LampLatitudes$Crew", "makeAngrier", "(I)V"⟩, 7), (⟨"LampLatitudes$Voyage", "thoseWhoCanSight", "(I)I"⟩, 8), (⟨"LampLatitudes$Pad", "nextSign", "()C"⟩, 6), (⟨"LampLatitudes$Pad", "readDigit", "()I"⟩, 6), (⟨"LampLatitudes$Pad", "readTwoDigits", "()Z"⟩, 6), (⟨"LampLatitudes$Pad", "readNumber", "()I"⟩, 6), (⟨"LampLatitudes$Pad", "readSignedNumber", "()Z"⟩, 6), (⟨"LampLatitudes", "obeyOrder", "()I"⟩, 6), (⟨"LampLatitudesModel", "setOf", "(III)V"⟩, 12), (⟨"LampLatitudesModel", "putAside", "()V"⟩, 12), (⟨"LampLatitudesModel", "push", "()V"⟩, 12)]
theorem lw_r1 : ∀ q ∈ lw_privs_1, lw_okq q := List.forall_mem_cons.mpr ⟨lw_p0, List.forall_mem_cons.mpr ⟨lw_p1, List.forall_mem_cons.mpr ⟨lw_p2, List.forall_mem_cons.mpr ⟨lw_p3, List.forall_mem_cons.mpr ⟨lw_p4, List.forall_mem_cons.mpr ⟨lw_p5, List.forall_mem_cons.mpr ⟨lw_p6, List.forall_mem_cons.mpr ⟨lw_p7, List.forall_mem_cons.mpr ⟨lw_p8, List.forall_mem_cons.mpr ⟨lw_p9, List.forall_mem_cons.mpr ⟨lw_p10, List.forall_mem_cons.mpr ⟨lw_p11, List.forall_mem_cons.mpr ⟨lw_p12, List.forall_mem_cons.mpr ⟨lw_p13, List.forall_mem_cons.mpr ⟨lw_p14, List.forall_mem_cons.mpr ⟨lw_p15, fun _ h => absurd h List.not_mem_nil⟩⟩⟩⟩⟩⟩⟩⟩⟩⟩⟩⟩⟩⟩⟩⟩
theorem lw_p16 : lw_okq (⟨"LampLatitudesModel", "recorded", "(I)I"⟩, 12) := ⟨⟨by decide +kernel, by decide +kernel⟩, List.mem_of_getElem? (i := 627) (by decide +kernel), List.mem_of_getElem? (i := 710) (by decide +kernel), List.mem_of_getElem? (i := 711) (by decide +kernel)⟩
theorem lw_p17 : lw_okq (⟨"LampLatitudesModel", "comes", "(I)I"⟩, 12) := ⟨⟨by decide +kernel, by decide +kernel⟩, List.mem_of_getElem? (i := 627) (by decide +kernel), List.mem_of_getElem? (i := 718) (by decide +kernel), List.mem_of_getElem? (i := 719) (by decide +kernel)⟩
theorem lw_p18 : lw_okq (⟨"LampLatitudesModel", "clouds", "(I)I"⟩, 12) := ⟨⟨by decide +kernel, by decide +kernel⟩, List.mem_of_getElem? (i := 627) (by decide +kernel), List.mem_of_getElem? (i := 729) (by decide +kernel), List.mem_of_getElem? (i := 730) (by decide +kernel)⟩
theorem lw_p19 : lw_okq (⟨"LampLatitudesModel", "isStar", "(I)Z"⟩, 12) := ⟨⟨by decide +kernel, by decide +kernel⟩, List.mem_of_getElem? (i := 627) (by decide +kernel), List.mem_of_getElem? (i := 733) (by decide +kernel), List.mem_of_getElem? (i := 734) (by decide +kernel)⟩
theorem lw_p20 : lw_okq (⟨"LampLatitudesModel", "number", "(II)I"⟩, 12) := ⟨⟨by decide +kernel, by decide +kernel⟩, List.mem_of_getElem? (i := 627) (by decide +kernel), List.mem_of_getElem? (i := 747) (by decide +kernel), List.mem_of_getElem? (i := 748) (by decide +kernel)⟩
theorem lw_p21 : lw_okq (⟨"LampLatitudesModel", "sleeps", "(I)I"⟩, 12) := ⟨⟨by decide +kernel, by decide +kernel⟩, List.mem_of_getElem? (i := 627) (by decide +kernel), List.mem_of_getElem? (i := 755) (by decide +kernel), List.mem_of_getElem? (i := 756) (by decide +kernel)⟩
theorem lw_p22 : lw_okq (⟨"LampLatitudesModel", "aims", "(I)I"⟩, 12) := ⟨⟨by decide +kernel, by decide +kernel⟩, List.mem_of_getElem? (i := 627) (by decide +kernel), List.mem_of_getElem? (i := 763) (by decide +kernel), List.mem_of_getElem? (i := 764) (by decide +kernel)⟩
theorem lw_p23 : lw_okq (⟨"LampLatitudesModel", "sights", "(II)I"⟩, 12) := ⟨⟨by decide +kernel, by decide +kernel⟩, List.mem_of_getElem? (i := 627) (by decide +kernel), List.mem_of_getElem? (i := 771) (by decide +kernel), List.mem_of_getElem? (i := 772) (by decide +kernel)⟩
theorem lw_p24 : lw_okq (⟨"LampLatitudesModel", "whyNot", "(II)I"⟩, 12) := ⟨⟨by decide +kernel, by decide +kernel⟩, List.mem_of_getElem? (i := 627) (by decide +kernel), List.mem_of_getElem? (i := 775) (by decide +kernel), List.mem_of_getElem? (i := 776) (by decide +kernel)⟩
theorem lw_p25 : lw_okq (⟨"LampLatitudesModel", "reason", "(II)I"⟩, 12) := ⟨⟨by decide +kernel, by decide +kernel⟩, List.mem_of_getElem? (i := 627) (by decide +kernel), List.mem_of_getElem? (i := 779) (by decide +kernel), List.mem_of_getElem? (i := 780) (by decide +kernel)⟩
theorem lw_p26 : lw_okq (⟨"LampLatitudesModel", "height", "(I)I"⟩, 12) := ⟨⟨by decide +kernel, by decide +kernel⟩, List.mem_of_getElem? (i := 627) (by decide +kernel), List.mem_of_getElem? (i := 783) (by decide +kernel), List.mem_of_getElem? (i := 784) (by decide +kernel)⟩
theorem lw_p27 : lw_okq (⟨"LampLatitudesModel", "wouldBelieve", "(II)I"⟩, 12) := ⟨⟨by decide +kernel, by decide +kernel⟩, List.mem_of_getElem? (i := 627) (by decide +kernel), List.mem_of_getElem? (i := 790) (by decide +kernel), List.mem_of_getElem? (i := 791) (by decide +kernel)⟩
theorem lw_p28 : lw_okq (⟨"LampLatitudesModel", "error", "(I)I"⟩, 12) := ⟨⟨by decide +kernel, by decide +kernel⟩, List.mem_of_getElem? (i := 627) (by decide +kernel), List.mem_of_getElem? (i := 794) (by decide +kernel), List.mem_of_getElem? (i := 795) (by decide +kernel)⟩
theorem lw_p29 : lw_okq (⟨"LampLatitudesModel", "agrees", "()I"⟩, 12) := ⟨⟨by decide +kernel, by decide +kernel⟩, List.mem_of_getElem? (i := 627) (by decide +kernel), List.mem_of_getElem? (i := 805) (by decide +kernel), List.mem_of_getElem? (i := 806) (by decide +kernel)⟩
theorem lw_p30 : lw_okq (⟨"LampLatitudesModel", "parts", "(I)I"⟩, 12) := ⟨⟨by decide +kernel, by decide +kernel⟩, List.mem_of_getElem? (i := 627) (by decide +kernel), List.mem_of_getElem? (i := 809) (by decide +kernel), List.mem_of_getElem? (i := 810) (by decide +kernel)⟩
theorem lw_p31 : lw_okq (⟨"LampLatitudesModel", "takesPart", "(II)Z"⟩, 12) := ⟨⟨by decide +kernel, by decide +kernel⟩, List.mem_of_getElem? (i := 627) (by decide +kernel), List.mem_of_getElem? (i := 813) (by decide +kernel), List.mem_of_getElem? (i := 814) (by decide +kernel)⟩
def lw_privs_2 : List (MethodName × Nat) := [(⟨"LampLatitudesModel", "recorded", "(I)I"⟩, 12), (⟨"LampLatitudesModel", "comes", "(I)I"⟩, 12), (⟨"LampLatitudesModel", "clouds", "(I)I"⟩, 12), (⟨"LampLatitudesModel", "isStar", "(I)Z"⟩, 12), (⟨"LampLatitudesModel", "number", "(II)I"⟩, 12), (⟨"LampLatitudesModel", "sleeps", "(I)I"⟩, 12), (⟨"LampLatitudesModel", "aims", "(I)I"⟩, 12), (⟨"LampLatitudesModel", "sights", "(II)I"⟩, 12), (⟨"LampLatitudesModel", "whyNot", "(II)I"⟩, 12), (⟨"LampLatitudesModel", "reason", "(II)I"⟩, 12), (⟨"LampLatitudesModel", "height", "(I)I"⟩, 12), (⟨"LampLatitudesModel", "wouldBelieve", "(II)I"⟩, 12), (⟨"LampLatitudesModel", "error", "(I)I"⟩, 12), (⟨"LampLatitudesModel", "agrees", "()I"⟩, 12), (⟨"LampLatitudesModel", "parts", "(I)I"⟩, 12), (⟨"LampLatitudesModel", "takesPart", "(II)Z"⟩, 12)]
theorem lw_r2 : ∀ q ∈ lw_privs_2, lw_okq q := List.forall_mem_cons.mpr ⟨lw_p16, List.forall_mem_cons.mpr ⟨lw_p17, List.forall_mem_cons.mpr ⟨lw_p18, List.forall_mem_cons.mpr ⟨lw_p19, List.forall_mem_cons.mpr ⟨lw_p20, List.forall_mem_cons.mpr ⟨lw_p21, List.forall_mem_cons.mpr ⟨lw_p22, List.forall_mem_cons.mpr ⟨lw_p23, List.forall_mem_cons.mpr ⟨lw_p24, List.forall_mem_cons.mpr ⟨lw_p25, List.forall_mem_cons.mpr ⟨lw_p26, List.forall_mem_cons.mpr ⟨lw_p27, List.forall_mem_cons.mpr ⟨lw_p28, List.forall_mem_cons.mpr ⟨lw_p29, List.forall_mem_cons.mpr ⟨lw_p30, List.forall_mem_cons.mpr ⟨lw_p31, fun _ h => absurd h List.not_mem_nil⟩⟩⟩⟩⟩⟩⟩⟩⟩⟩⟩⟩⟩⟩⟩⟩
theorem lw_p32 : lw_okq (⟨"LampLatitudesModel", "middle", "(I)I"⟩, 12) := ⟨⟨by decide +kernel, by decide +kernel⟩, List.mem_of_getElem? (i := 627) (by decide +kernel), List.mem_of_getElem? (i := 817) (by decide +kernel), List.mem_of_getElem? (i := 818) (by decide +kernel)⟩
theorem lw_p33 : lw_okq (⟨"LampLatitudesModel", "lower", "(II)I"⟩, 12) := ⟨⟨by decide +kernel, by decide +kernel⟩, List.mem_of_getElem? (i := 627) (by decide +kernel), List.mem_of_getElem? (i := 821) (by decide +kernel), List.mem_of_getElem? (i := 822) (by decide +kernel)⟩
theorem lw_p34 : lw_okq (⟨"LampLatitudesModel", "judge", "(II)V"⟩, 12) := ⟨⟨by decide +kernel, by decide +kernel⟩, List.mem_of_getElem? (i := 627) (by decide +kernel), List.mem_of_getElem? (i := 825) (by decide +kernel), List.mem_of_getElem? (i := 826) (by decide +kernel)⟩
theorem lw_p35 : lw_okq (⟨"LampLatitudesModel", "sails", "(I)I"⟩, 12) := ⟨⟨by decide +kernel, by decide +kernel⟩, List.mem_of_getElem? (i := 627) (by decide +kernel), List.mem_of_getElem? (i := 833) (by decide +kernel), List.mem_of_getElem? (i := 834) (by decide +kernel)⟩
theorem lw_p36 : lw_okq (⟨"LampLatitudesModel", "passHour", "()V"⟩, 12) := ⟨⟨by decide +kernel, by decide +kernel⟩, List.mem_of_getElem? (i := 627) (by decide +kernel), List.mem_of_getElem? (i := 837) (by decide +kernel), List.mem_of_getElem? (i := 838) (by decide +kernel)⟩
theorem lw_p37 : lw_okq (⟨"LampLatitudesModel", "ends", "()I"⟩, 12) := ⟨⟨by decide +kernel, by decide +kernel⟩, List.mem_of_getElem? (i := 627) (by decide +kernel), List.mem_of_getElem? (i := 845) (by decide +kernel), List.mem_of_getElem? (i := 846) (by decide +kernel)⟩
theorem lw_p38 : lw_okq (⟨"LampLatitudesModel", "belief", "()I"⟩, 12) := ⟨⟨by decide +kernel, by decide +kernel⟩, List.mem_of_getElem? (i := 627) (by decide +kernel), List.mem_of_getElem? (i := 849) (by decide +kernel), List.mem_of_getElem? (i := 850) (by decide +kernel)⟩
theorem lw_p39 : lw_okq (⟨"LampLatitudesModel", "estimate", "(I)I"⟩, 12) := ⟨⟨by decide +kernel, by decide +kernel⟩, List.mem_of_getElem? (i := 627) (by decide +kernel), List.mem_of_getElem? (i := 857) (by decide +kernel), List.mem_of_getElem? (i := 858) (by decide +kernel)⟩
theorem lw_p40 : lw_okq (⟨"LampLatitudesModel", "whoCan", "(I)I"⟩, 12) := ⟨⟨by decide +kernel, by decide +kernel⟩, List.mem_of_getElem? (i := 627) (by decide +kernel), List.mem_of_getElem? (i := 865) (by decide +kernel), List.mem_of_getElem? (i := 866) (by decide +kernel)⟩
theorem lw_p41 : lw_okq (⟨"LampLatitudesModel", "those", "(Z)I"⟩, 12) := ⟨⟨by decide +kernel, by decide +kernel⟩, List.mem_of_getElem? (i := 627) (by decide +kernel), List.mem_of_getElem? (i := 877) (by decide +kernel), List.mem_of_getElem? (i := 878) (by decide +kernel)⟩
theorem lw_p42 : lw_okq (⟨"LampLatitudesModel", "mistake", "()I"⟩, 12) := ⟨⟨by decide +kernel, by decide +kernel⟩, List.mem_of_getElem? (i := 627) (by decide +kernel), List.mem_of_getElem? (i := 881) (by decide +kernel), List.mem_of_getElem? (i := 882) (by decide +kernel)⟩
theorem lw_p43 : lw_okq (⟨"LampLatitudesModel", "takeBack", "()V"⟩, 12) := ⟨⟨by decide +kernel, by decide +kernel⟩, List.mem_of_getElem? (i := 627) (by decide +kernel), List.mem_of_getElem? (i := 909) (by decide +kernel), List.mem_of_getElem? (i := 910) (by decide +kernel)⟩
theorem lw_p44 : lw_okq (⟨"LampLatitudesModel", "findFault", "()I"⟩, 12) := ⟨⟨by decide +kernel, by decide +kernel⟩, List.mem_of_getElem? (i := 627) (by decide +kernel), List.mem_of_getElem? (i := 932) (by decide +kernel), List.mem_of_getElem? (i := 933) (by decide +kernel)⟩
theorem lw_p45 : lw_okq (⟨"LampLatitudesModel", "readsOrder", "()Z"⟩, 12) := ⟨⟨by decide +kernel, by decide +kernel⟩, List.mem_of_getElem? (i := 627) (by decide +kernel), List.mem_of_getElem? (i := 936) (by decide +kernel), List.mem_of_getElem? (i := 937) (by decide +kernel)⟩
theorem lw_p46 : lw_okq (⟨"LampLatitudesModel", "code", "()I"⟩, 12) := ⟨⟨by decide +kernel, by decide +kernel⟩, List.mem_of_getElem? (i := 627) (by decide +kernel), List.mem_of_getElem? (i := 940) (by decide +kernel), List.mem_of_getElem? (i := 941) (by decide +kernel)⟩
theorem lw_p47 : lw_okq (⟨"LampLatitudesModel", "readsSigned", "()Z"⟩, 12) := ⟨⟨by decide +kernel, by decide +kernel⟩, List.mem_of_getElem? (i := 627) (by decide +kernel), List.mem_of_getElem? (i := 944) (by decide +kernel), List.mem_of_getElem? (i := 945) (by decide +kernel)⟩
def lw_privs_3 : List (MethodName × Nat) := [(⟨"LampLatitudesModel", "middle", "(I)I"⟩, 12), (⟨"LampLatitudesModel", "lower", "(II)I"⟩, 12), (⟨"LampLatitudesModel", "judge", "(II)V"⟩, 12), (⟨"LampLatitudesModel", "sails", "(I)I"⟩, 12), (⟨"LampLatitudesModel", "passHour", "()V"⟩, 12), (⟨"LampLatitudesModel", "ends", "()I"⟩, 12), (⟨"LampLatitudesModel", "belief", "()I"⟩, 12), (⟨"LampLatitudesModel", "estimate", "(I)I"⟩, 12), (⟨"LampLatitudesModel", "whoCan", "(I)I"⟩, 12), (⟨"LampLatitudesModel", "those", "(Z)I"⟩, 12), (⟨"LampLatitudesModel", "mistake", "()I"⟩, 12), (⟨"LampLatitudesModel", "takeBack", "()V"⟩, 12), (⟨"LampLatitudesModel", "findFault", "()I"⟩, 12), (⟨"LampLatitudesModel", "readsOrder", "()Z"⟩, 12), (⟨"LampLatitudesModel", "code", "()I"⟩, 12), (⟨"LampLatitudesModel", "readsSigned", "()Z"⟩, 12)]
theorem lw_r3 : ∀ q ∈ lw_privs_3, lw_okq q := List.forall_mem_cons.mpr ⟨lw_p32, List.forall_mem_cons.mpr ⟨lw_p33, List.forall_mem_cons.mpr ⟨lw_p34, List.forall_mem_cons.mpr ⟨lw_p35, List.forall_mem_cons.mpr ⟨lw_p36, List.forall_mem_cons.mpr ⟨lw_p37, List.forall_mem_cons.mpr ⟨lw_p38, List.forall_mem_cons.mpr ⟨lw_p39, List.forall_mem_cons.mpr ⟨lw_p40, List.forall_mem_cons.mpr ⟨lw_p41, List.forall_mem_cons.mpr ⟨lw_p42, List.forall_mem_cons.mpr ⟨lw_p43, List.forall_mem_cons.mpr ⟨lw_p44, List.forall_mem_cons.mpr ⟨lw_p45, List.forall_mem_cons.mpr ⟨lw_p46, List.forall_mem_cons.mpr ⟨lw_p47, fun _ h => absurd h List.not_mem_nil⟩⟩⟩⟩⟩⟩⟩⟩⟩⟩⟩⟩⟩⟩⟩⟩
theorem lw_p48 : lw_okq (⟨"LampLatitudesModel", "takes", "(I)Z"⟩, 12) := ⟨⟨by decide +kernel, by decide +kernel⟩, List.mem_of_getElem? (i := 627) (by decide +kernel), List.mem_of_getElem? (i := 948) (by decide +kernel), List.mem_of_getElem? (i := 949) (by decide +kernel)⟩
theorem lw_p49 : lw_okq (⟨"LampLatitudesModel", "readsNumber", "()Z"⟩, 12) := ⟨⟨by decide +kernel, by decide +kernel⟩, List.mem_of_getElem? (i := 627) (by decide +kernel), List.mem_of_getElem? (i := 952) (by decide +kernel), List.mem_of_getElem? (i := 953) (by decide +kernel)⟩
theorem lw_p50 : lw_okq (⟨"LampLatitudesModel", "takeDigit", "()I"⟩, 12) := ⟨⟨by decide +kernel, by decide +kernel⟩, List.mem_of_getElem? (i := 627) (by decide +kernel), List.mem_of_getElem? (i := 956) (by decide +kernel), List.mem_of_getElem? (i := 957) (by decide +kernel)⟩
theorem lw_p51 : lw_okq (⟨"LampLatitudesModel", "readsDigits", "(Z)Z"⟩, 12) := ⟨⟨by decide +kernel, by decide +kernel⟩, List.mem_of_getElem? (i := 627) (by decide +kernel), List.mem_of_getElem? (i := 960) (by decide +kernel), List.mem_of_getElem? (i := 961) (by decide +kernel)⟩
theorem lw_p52 : lw_okq (⟨"LampLatitudesModel", "doesOrder", "()I"⟩, 12) := ⟨⟨by decide +kernel, by decide +kernel⟩, List.mem_of_getElem? (i := 627) (by decide +kernel), List.mem_of_getElem? (i := 968) (by decide +kernel), List.mem_of_getElem? (i := 969) (by decide +kernel)⟩
def lw_privs_4 : List (MethodName × Nat) := [(⟨"LampLatitudesModel", "takes", "(I)Z"⟩, 12), (⟨"LampLatitudesModel", "readsNumber", "()Z"⟩, 12), (⟨"LampLatitudesModel", "takeDigit", "()I"⟩, 12), (⟨"LampLatitudesModel", "readsDigits", "(Z)Z"⟩, 12), (⟨"LampLatitudesModel", "doesOrder", "()I"⟩, 12)]
theorem lw_r4 : ∀ q ∈ lw_privs_4, lw_okq q := List.forall_mem_cons.mpr ⟨lw_p48, List.forall_mem_cons.mpr ⟨lw_p49, List.forall_mem_cons.mpr ⟨lw_p50, List.forall_mem_cons.mpr ⟨lw_p51, List.forall_mem_cons.mpr ⟨lw_p52, fun _ h => absurd h List.not_mem_nil⟩⟩⟩⟩⟩
def lw_privs : List (MethodName × Nat) := lw_privs_1 ++ (lw_privs_2 ++ (lw_privs_3 ++ (lw_privs_4)))
def lw_tbl : List Cond := k2_sels lw_privs ++ tables_1
theorem lw_privs_ok : ∀ q ∈ lw_privs, lw_okq q := by
  show ∀ q ∈ lw_privs_1 ++ (lw_privs_2 ++ (lw_privs_3 ++ (lw_privs_4))), lw_okq q
  exact List.forall_mem_append.mpr ⟨lw_r1, List.forall_mem_append.mpr ⟨lw_r2, List.forall_mem_append.mpr ⟨lw_r3, lw_r4⟩⟩⟩

def lw_nest : Cond → Bool
  | .methodLinkNest .. => true
  | _ => false
/-- the tables' words that every callee may have -/
def TB : List Cond := lw_tbl.filter goodWord
/-- links to private members of a nest mate -/
def NB : List Cond := tables_1.filter lw_nest
theorem tb_of {w : Cond} (i : Nat) (h : tables_1[i]? = some w) (g : goodWord w = true) : w ∈ TB := List.mem_filter.mpr ⟨List.mem_append_right _ (List.mem_of_getElem? h), g⟩
theorem nb_of {w : Cond} (i : Nat) (h : tables_1[i]? = some w) (g : lw_nest w = true) : w ∈ NB := List.mem_filter.mpr ⟨List.mem_of_getElem? h, g⟩
theorem lw_priv_in {q : MethodName × Nat} (i : Nat) (h : lw_privs[i]? = some q) : q ∈ lw_privs := List.mem_of_getElem? h
theorem tb_sel {q : MethodName × Nat} (h : q ∈ lw_privs) : Cond.selects q.1.cls q.1 q.1 ∈ TB := List.mem_filter.mpr ⟨List.mem_append_left _ (List.mem_map.mpr ⟨q, h, rfl⟩), rfl⟩
theorem tb_all {ws : List Cond} (is : List Nat) (h : ws = is.filterMap (fun i => tables_1[i]?)) (g : ws.all goodWord = true) : ∀ w ∈ ws, w ∈ TB := by
  intro w hw
  have h1 := List.all_eq_true.mp g w hw
  rw [h] at hw
  obtain ⟨i, -, hi⟩ := List.mem_filterMap.mp hw
  exact tb_of i hi h1
theorem tb_good {w : Cond} (h : w ∈ TB) : (w.onTables && w.keeps) = true ∨ ∃ ty, w = .arrayClass ty := good_of_word (List.mem_filter.mp h).2
theorem nb_spec {w : Cond} (h : w ∈ NB) : w ∈ tables_1 ∧ lw_nest w = true := List.mem_filter.mp h
end
section
def RX0 : String := "LampLatitudes$Course"
def TX0 : u_T := fun k => match k with
  | 0 => ("LampLatitudes$Course", "latitude", "I", false)
  | 1 => ("LampLatitudes$Course", "belief", "I", false)
  | 2 => ("LampLatitudes$Course", "goal", "I", false)
  | _ => ("LampLatitudes$Course", "hours", "I", false)
def tyX0 : Nat → FieldType := fun k => match k with
  | 0 => .int
  | 1 => .int
  | 2 => .int
  | _ => .int
abbrev wsX00 : List Cond := u_ws RX0 TX0 4
theorem nmX0 : ∀ a, a < 4 → ∀ b, b < 4 → a ≠ b → (TX0 a).2.1 ≠ (TX0 b).2.1 := by decide +kernel
theorem tyX0_ok : ∀ k, k < 4 → parseFieldDescriptor (TX0 k).2.2.1 = some (tyX0 k) := by decide +kernel
abbrev cX0_init : ByteArray := prog_2_method_1_code
def yX0_init : MethodName := ⟨RX0, "<init>", "()V"⟩
abbrev cX0_copyFrom : ByteArray := prog_2_method_2_code
def yX0_copyFrom : MethodName := ⟨RX0, "copyFrom", "(LLampLatitudes$Course;)V"⟩
abbrev cX0_sailOneHour : ByteArray := prog_2_method_3_code
def yX0_sailOneHour : MethodName := ⟨RX0, "sailOneHour", "(II)V"⟩
abbrev cX0_distanceToGoal : ByteArray := prog_2_method_4_code
def yX0_distanceToGoal : MethodName := ⟨RX0, "distanceToGoal", "()I"⟩
abbrev cX0_mistake : ByteArray := prog_2_method_5_code
def yX0_mistake : MethodName := ⟨RX0, "mistake", "()I"⟩
def RX1 : String := "LampLatitudes$Crew"
def TX1 : u_T := fun k => match k with
  | 0 => ("LampLatitudes$Crew", "skill", "[I", true)
  | 1 => ("LampLatitudes$Crew", "bias", "[I", true)
  | 2 => ("LampLatitudes$Crew", "side", "[I", true)
  | 3 => ("LampLatitudes$Crew", "anger", "[I", true)
  | 4 => ("LampLatitudes$Crew", "sights", "[I", true)
  | 5 => ("LampLatitudes$Crew", "estimate", "[I", true)
  | _ => ("LampLatitudes$Crew", "how", "[I", true)
def tyX1 : Nat → FieldType := fun k => match k with
  | 0 => .array .int
  | 1 => .array .int
  | 2 => .array .int
  | 3 => .array .int
  | 4 => .array .int
  | 5 => .array .int
  | _ => .array .int
abbrev wsX10 : List Cond := u_ws RX1 TX1 7
theorem nmX1 : ∀ a, a < 7 → ∀ b, b < 7 → a ≠ b → (TX1 a).2.1 ≠ (TX1 b).2.1 := by decide +kernel
theorem tyX1_ok : ∀ k, k < 7 → parseFieldDescriptor (TX1 k).2.2.1 = some (tyX1 k) := by decide +kernel
abbrev cX1_init : ByteArray := prog_3_method_1_code
def yX1_init : MethodName := ⟨RX1, "<init>", "()V"⟩
abbrev cX1_copyFrom : ByteArray := prog_3_method_2_code
def yX1_copyFrom : MethodName := ⟨RX1, "copyFrom", "(LLampLatitudes$Crew;)V"⟩
abbrev cX1_factOf : ByteArray := prog_3_method_3_code
def yX1_factOf : MethodName := ⟨RX1, "factOf", "(II)I"⟩
abbrev cX1_errorOfNextSight : ByteArray := prog_3_method_4_code
def yX1_errorOfNextSight : MethodName := ⟨RX1, "errorOfNextSight", "(I)I"⟩
abbrev cX1_middleWithout : ByteArray := prog_3_method_5_code
def yX1_middleWithout : MethodName := ⟨RX1, "middleWithout", "(I)I"⟩
abbrev cX1_rankWithout : ByteArray := prog_3_method_6_code
def yX1_rankWithout : MethodName := ⟨RX1, "rankWithout", "(II)I"⟩
abbrev cX1_standsBefore : ByteArray := prog_3_method_7_code
def yX1_standsBefore : MethodName := ⟨RX1, "standsBefore", "(II)Z"⟩
abbrev cX1_takesPart : ByteArray := prog_3_method_8_code
def yX1_takesPart : MethodName := ⟨RX1, "takesPart", "(I)Z"⟩
abbrev cX1_quarrelOver : ByteArray := prog_3_method_9_code
def yX1_quarrelOver : MethodName := ⟨RX1, "quarrelOver", "(II)I"⟩
abbrev cX1_makeAngrier : ByteArray := prog_3_method_10_code
def yX1_makeAngrier : MethodName := ⟨RX1, "makeAngrier", "(I)V"⟩
abbrev cX1_endNight : ByteArray := prog_3_method_11_code
def yX1_endNight : MethodName := ⟨RX1, "endNight", "()V"⟩
abbrev cX1_sightsOfAll : ByteArray := prog_3_method_12_code
def yX1_sightsOfAll : MethodName := ⟨RX1, "sightsOfAll", "()I"⟩
abbrev cX1_thoseWithEstimate : ByteArray := prog_3_method_13_code
def yX1_thoseWithEstimate : MethodName := ⟨RX1, "thoseWithEstimate", "()I"⟩
abbrev cX1_thoseWhoSulk : ByteArray := prog_3_method_14_code
def yX1_thoseWhoSulk : MethodName := ⟨RX1, "thoseWhoSulk", "()I"⟩
def RX2 : String := "LampLatitudes$History"
def TX2 : u_T := fun k => match k with
  | 0 => ("LampLatitudes$History", "places", "[LLampLatitudes$Voyage;", true)
  | 1 => ("LampLatitudes$History", "oldest", "I", false)
  | _ => ("LampLatitudes$History", "kept", "I", false)
def tyX2 : Nat → FieldType := fun k => match k with
  | 0 => .array (.object "LampLatitudes$Voyage")
  | 1 => .int
  | _ => .int
abbrev wsX20 : List Cond := u_ws RX2 TX2 3
theorem nmX2 : ∀ a, a < 3 → ∀ b, b < 3 → a ≠ b → (TX2 a).2.1 ≠ (TX2 b).2.1 := by decide +kernel
theorem tyX2_ok : ∀ k, k < 3 → parseFieldDescriptor (TX2 k).2.2.1 = some (tyX2 k) := by decide +kernel
abbrev cX2_init : ByteArray := prog_4_method_1_code
def yX2_init : MethodName := ⟨RX2, "<init>", "()V"⟩
abbrev cX2_hold : ByteArray := prog_4_method_2_code
def yX2_hold : MethodName := ⟨RX2, "hold", "(LLampLatitudes$Voyage;)V"⟩
abbrev cX2_keepUnlessError : ByteArray := prog_4_method_3_code
def yX2_keepUnlessError : MethodName := ⟨RX2, "keepUnlessError", "(I)I"⟩
abbrev cX2_takeBack : ByteArray := prog_4_method_4_code
def yX2_takeBack : MethodName := ⟨RX2, "takeBack", "(LLampLatitudes$Voyage;)I"⟩
def RX3 : String := "LampLatitudes$Logbook"
def TX3 : u_T := fun k => match k with
  | _ => ("LampLatitudes$Logbook", "cells", "[I", true)
def tyX3 : Nat → FieldType := fun k => match k with
  | _ => .array .int
abbrev wsX30 : List Cond := u_ws RX3 TX3 1
theorem nmX3 : ∀ a, a < 1 → ∀ b, b < 1 → a ≠ b → (TX3 a).2.1 ≠ (TX3 b).2.1 := by decide +kernel
theorem tyX3_ok : ∀ k, k < 1 → parseFieldDescriptor (TX3 k).2.2.1 = some (tyX3 k) := by decide +kernel
abbrev cX3_init : ByteArray := prog_5_method_1_code
def yX3_init : MethodName := ⟨RX3, "<init>", "()V"⟩
abbrev cX3_copyFrom : ByteArray := prog_5_method_2_code
def yX3_copyFrom : MethodName := ⟨RX3, "copyFrom", "(LLampLatitudes$Logbook;)V"⟩
abbrev cX3_write : ByteArray := prog_5_method_3_code
def yX3_write : MethodName := ⟨RX3, "write", "(IIII)V"⟩
abbrev cX3_read : ByteArray := prog_5_method_4_code
def yX3_read : MethodName := ⟨RX3, "read", "(II)I"⟩
def RX4 : String := "LampLatitudes$Pad"
def TX4 : u_T := fun k => match k with
  | 0 => ("LampLatitudes$Pad", "signs", "[C", true)
  | 1 => ("LampLatitudes$Pad", "length", "I", false)
  | 2 => ("LampLatitudes$Pad", "at", "I", false)
  | 3 => ("LampLatitudes$Pad", "kind", "I", false)
  | 4 => ("LampLatitudes$Pad", "first", "I", false)
  | _ => ("LampLatitudes$Pad", "second", "I", false)
def tyX4 : Nat → FieldType := fun k => match k with
  | 0 => .array .char
  | 1 => .int
  | 2 => .int
  | 3 => .int
  | 4 => .int
  | _ => .int
abbrev wsX40 : List Cond := u_ws RX4 TX4 6
theorem nmX4 : ∀ a, a < 6 → ∀ b, b < 6 → a ≠ b → (TX4 a).2.1 ≠ (TX4 b).2.1 := by decide +kernel
theorem tyX4_ok : ∀ k, k < 6 → parseFieldDescriptor (TX4 k).2.2.1 = some (tyX4 k) := by decide +kernel
abbrev cX4_init : ByteArray := prog_6_method_1_code
def yX4_init : MethodName := ⟨RX4, "<init>", "()V"⟩
abbrev cX4_append : ByteArray := prog_6_method_2_code
def yX4_append : MethodName := ⟨RX4, "append", "(J)I"⟩
abbrev cX4_countSigns : ByteArray := prog_6_method_3_code
def yX4_countSigns : MethodName := ⟨RX4, "countSigns", "(J)I"⟩
abbrev cX4_clear : ByteArray := prog_6_method_4_code
def yX4_clear : MethodName := ⟨RX4, "clear", "()I"⟩
abbrev cX4_findFault : ByteArray := prog_6_method_5_code
def yX4_findFault : MethodName := ⟨RX4, "findFault", "()I"⟩
abbrev cX4_startReading : ByteArray := prog_6_method_6_code
def yX4_startReading : MethodName := ⟨RX4, "startReading", "()V"⟩
abbrev cX4_skipSemicolon : ByteArray := prog_6_method_7_code
def yX4_skipSemicolon : MethodName := ⟨RX4, "skipSemicolon", "()V"⟩
abbrev cX4_readOrder : ByteArray := prog_6_method_8_code
def yX4_readOrder : MethodName := ⟨RX4, "readOrder", "()Z"⟩
abbrev cX4_readTwoDigits : ByteArray := prog_6_method_9_code
def yX4_readTwoDigits : MethodName := ⟨RX4, "readTwoDigits", "()Z"⟩
abbrev cX4_readSignedNumber : ByteArray := prog_6_method_10_code
def yX4_readSignedNumber : MethodName := ⟨RX4, "readSignedNumber", "()Z"⟩
abbrev cX4_readNumber : ByteArray := prog_6_method_11_code
def yX4_readNumber : MethodName := ⟨RX4, "readNumber", "()I"⟩
abbrev cX4_readDigit : ByteArray := prog_6_method_12_code
def yX4_readDigit : MethodName := ⟨RX4, "readDigit", "()I"⟩
abbrev cX4_isDigit : ByteArray := prog_6_method_13_code
def yX4_isDigit : MethodName := ⟨RX4, "isDigit", "(C)Z"⟩
abbrev cX4_nextSign : ByteArray := prog_6_method_14_code
def yX4_nextSign : MethodName := ⟨RX4, "nextSign", "()C"⟩
def RX5 : String := "LampLatitudes$Sky"
def TX5 : u_T := fun k => match k with
  | 0 => ("LampLatitudes$Sky", "stars", "I", false)
  | 1 => ("LampLatitudes$Sky", "clouded", "I", false)
  | _ => ("LampLatitudes$Sky", "declination", "[I", true)
def tyX5 : Nat → FieldType := fun k => match k with
  | 0 => .int
  | 1 => .int
  | _ => .array .int
abbrev wsX50 : List Cond := u_ws RX5 TX5 3
theorem nmX5 : ∀ a, a < 3 → ∀ b, b < 3 → a ≠ b → (TX5 a).2.1 ≠ (TX5 b).2.1 := by decide +kernel
theorem tyX5_ok : ∀ k, k < 3 → parseFieldDescriptor (TX5 k).2.2.1 = some (tyX5 k) := by decide +kernel
abbrev cX5_init : ByteArray := prog_7_method_1_code
def yX5_init : MethodName := ⟨RX5, "<init>", "()V"⟩
abbrev cX5_copyFrom : ByteArray := prog_7_method_2_code
def yX5_copyFrom : MethodName := ⟨RX5, "copyFrom", "(LLampLatitudes$Sky;)V"⟩
abbrev cX5_hasStar : ByteArray := prog_7_method_3_code
def yX5_hasStar : MethodName := ⟨RX5, "hasStar", "(I)Z"⟩
abbrev cX5_cloudBefore : ByteArray := prog_7_method_4_code
def yX5_cloudBefore : MethodName := ⟨RX5, "cloudBefore", "(I)I"⟩
def RX6 : String := "LampLatitudes$Voyage"
def TX6 : u_T := fun k => match k with
  | 0 => ("LampLatitudes$Voyage", "settings", "[I", true)
  | 1 => ("LampLatitudes$Voyage", "sky", "LLampLatitudes$Sky;", true)
  | 2 => ("LampLatitudes$Voyage", "crew", "LLampLatitudes$Crew;", true)
  | 3 => ("LampLatitudes$Voyage", "course", "LLampLatitudes$Course;", true)
  | 4 => ("LampLatitudes$Voyage", "logbook", "LLampLatitudes$Logbook;", true)
  | 5 => ("LampLatitudes$Voyage", "night", "I", false)
  | 6 => ("LampLatitudes$Voyage", "medians", "I", false)
  | _ => ("LampLatitudes$Voyage", "tooFarThisNight", "I", false)
def tyX6 : Nat → FieldType := fun k => match k with
  | 0 => .array .int
  | 1 => .object "LampLatitudes$Sky"
  | 2 => .object "LampLatitudes$Crew"
  | 3 => .object "LampLatitudes$Course"
  | 4 => .object "LampLatitudes$Logbook"
  | 5 => .int
  | 6 => .int
  | _ => .int
abbrev wsX60 : List Cond := u_ws RX6 TX6 8
theorem nmX6 : ∀ a, a < 8 → ∀ b, b < 8 → a ≠ b → (TX6 a).2.1 ≠ (TX6 b).2.1 := by decide +kernel
theorem tyX6_ok : ∀ k, k < 8 → parseFieldDescriptor (TX6 k).2.2.1 = some (tyX6 k) := by decide +kernel
abbrev cX6_init : ByteArray := prog_8_method_1_code
def yX6_init : MethodName := ⟨RX6, "<init>", "()V"⟩
abbrev cX6_copyFrom : ByteArray := prog_8_method_2_code
def yX6_copyFrom : MethodName := ⟨RX6, "copyFrom", "(LLampLatitudes$Voyage;)V"⟩
abbrev cX6_changeSetting : ByteArray := prog_8_method_3_code
def yX6_changeSetting : MethodName := ⟨RX6, "changeSetting", "(II)I"⟩
abbrev cX6_addStar : ByteArray := prog_8_method_4_code
def yX6_addStar : MethodName := ⟨RX6, "addStar", "(I)I"⟩
abbrev cX6_turnCloud : ByteArray := prog_8_method_5_code
def yX6_turnCloud : MethodName := ⟨RX6, "turnCloud", "(I)I"⟩
abbrev cX6_changeNavigator : ByteArray := prog_8_method_6_code
def yX6_changeNavigator : MethodName := ⟨RX6, "changeNavigator", "(III)I"⟩
abbrev cX6_turnSleep : ByteArray := prog_8_method_7_code
def yX6_turnSleep : MethodName := ⟨RX6, "turnSleep", "(I)I"⟩
abbrev cX6_changeGoal : ByteArray := prog_8_method_8_code
def yX6_changeGoal : MethodName := ⟨RX6, "changeGoal", "(I)I"⟩
abbrev cX6_takeSight : ByteArray := prog_8_method_9_code
def yX6_takeSight : MethodName := ⟨RX6, "takeSight", "(II)I"⟩
abbrev cX6_tellSight : ByteArray := prog_8_method_10_code
def yX6_tellSight : MethodName := ⟨RX6, "tellSight", "(II)I"⟩
abbrev cX6_reasonAgainst : ByteArray := prog_8_method_11_code
def yX6_reasonAgainst : MethodName := ⟨RX6, "reasonAgainst", "(II)I"⟩
abbrev cX6_reckon : ByteArray := prog_8_method_12_code
def yX6_reckon : MethodName := ⟨RX6, "reckon", "(II)I"⟩
abbrev cX6_heightOf : ByteArray := prog_8_method_13_code
def yX6_heightOf : MethodName := ⟨RX6, "heightOf", "(I)I"⟩
abbrev cX6_agreeOnMedian : ByteArray := prog_8_method_14_code
def yX6_agreeOnMedian : MethodName := ⟨RX6, "agreeOnMedian", "()I"⟩
abbrev cX6_sailHours : ByteArray := prog_8_method_15_code
def yX6_sailHours : MethodName := ⟨RX6, "sailHours", "(I)I"⟩
abbrev cX6_endNight : ByteArray := prog_8_method_16_code
def yX6_endNight : MethodName := ⟨RX6, "endNight", "()I"⟩
abbrev cX6_factOfStar : ByteArray := prog_8_method_17_code
def yX6_factOfStar : MethodName := ⟨RX6, "factOfStar", "(II)I"⟩
abbrev cX6_thoseWhoCanSight : ByteArray := prog_8_method_18_code
def yX6_thoseWhoCanSight : MethodName := ⟨RX6, "thoseWhoCanSight", "(I)I"⟩
abbrev cX6_factOfLog : ByteArray := prog_8_method_19_code
def yX6_factOfLog : MethodName := ⟨RX6, "factOfLog", "(II)I"⟩
abbrev cX6_numberOf : ByteArray := prog_8_method_20_code
def yX6_numberOf : MethodName := ⟨RX6, "numberOf", "(I)I"⟩
abbrev cX6_highestStar : ByteArray := prog_8_method_21_code
def yX6_highestStar : MethodName := ⟨RX6, "highestStar", "()I"⟩
abbrev cX6_nearestNavigator : ByteArray := prog_8_method_22_code
def yX6_nearestNavigator : MethodName := ⟨RX6, "nearestNavigator", "(I)I"⟩
abbrev cX6_hoursToGoal : ByteArray := prog_8_method_23_code
def yX6_hoursToGoal : MethodName := ⟨RX6, "hoursToGoal", "(ILLampLatitudes$Course;)I"⟩
def RX7 : String := "LampLatitudes"
def TX7 : u_T := fun k => match k with
  | 0 => ("LampLatitudes", "voyage", "LLampLatitudes$Voyage;", true)
  | 1 => ("LampLatitudes", "history", "LLampLatitudes$History;", true)
  | 2 => ("LampLatitudes", "pad", "LLampLatitudes$Pad;", true)
  | 3 => ("LampLatitudes", "slots", "[LLampLatitudes$Voyage;", true)
  | 4 => ("LampLatitudes", "saved", "[Z", true)
  | _ => ("LampLatitudes", "trial", "LLampLatitudes$Course;", true)
def tyX7 : Nat → FieldType := fun k => match k with
  | 0 => .object "LampLatitudes$Voyage"
  | 1 => .object "LampLatitudes$History"
  | 2 => .object "LampLatitudes$Pad"
  | 3 => .array (.object "LampLatitudes$Voyage")
  | 4 => .array .boolean
  | _ => .object "LampLatitudes$Course"
abbrev wsX70 : List Cond := u_ws RX7 TX7 6
theorem nmX7 : ∀ a, a < 6 → ∀ b, b < 6 → a ≠ b → (TX7 a).2.1 ≠ (TX7 b).2.1 := by decide +kernel
theorem tyX7_ok : ∀ k, k < 6 → parseFieldDescriptor (TX7 k).2.2.1 = some (tyX7 k) := by decide +kernel
abbrev cX7_init : ByteArray := prog_1_method_1_code
def yX7_init : MethodName := ⟨RX7, "<init>", "()V"⟩
abbrev cX7_set : ByteArray := prog_1_method_2_code
def yX7_set : MethodName := ⟨RX7, "set", "(II)I"⟩
abbrev cX7_star : ByteArray := prog_1_method_3_code
def yX7_star : MethodName := ⟨RX7, "star", "(I)I"⟩
abbrev cX7_cloud : ByteArray := prog_1_method_4_code
def yX7_cloud : MethodName := ⟨RX7, "cloud", "(I)I"⟩
abbrev cX7_navigator : ByteArray := prog_1_method_5_code
def yX7_navigator : MethodName := ⟨RX7, "navigator", "(III)I"⟩
abbrev cX7_sleep : ByteArray := prog_1_method_6_code
def yX7_sleep : MethodName := ⟨RX7, "sleep", "(I)I"⟩
abbrev cX7_goal : ByteArray := prog_1_method_7_code
def yX7_goal : MethodName := ⟨RX7, "goal", "(I)I"⟩
abbrev cX7_sight : ByteArray := prog_1_method_8_code
def yX7_sight : MethodName := ⟨RX7, "sight", "(II)I"⟩
abbrev cX7_agree : ByteArray := prog_1_method_9_code
def yX7_agree : MethodName := ⟨RX7, "agree", "()I"⟩
abbrev cX7_sail : ByteArray := prog_1_method_10_code
def yX7_sail : MethodName := ⟨RX7, "sail", "(I)I"⟩
abbrev cX7_night : ByteArray := prog_1_method_11_code
def yX7_night : MethodName := ⟨RX7, "night", "()I"⟩
abbrev cX7_of : ByteArray := prog_1_method_12_code
def yX7_of : MethodName := ⟨RX7, "of", "(II)I"⟩
abbrev cX7_ofStar : ByteArray := prog_1_method_13_code
def yX7_ofStar : MethodName := ⟨RX7, "ofStar", "(II)I"⟩
abbrev cX7_log : ByteArray := prog_1_method_14_code
def yX7_log : MethodName := ⟨RX7, "log", "(II)I"⟩
abbrev cX7_count : ByteArray := prog_1_method_15_code
def yX7_count : MethodName := ⟨RX7, "count", "(I)I"⟩
abbrev cX7_why : ByteArray := prog_1_method_16_code
def yX7_why : MethodName := ⟨RX7, "why", "(II)I"⟩
abbrev cX7_ifSighted : ByteArray := prog_1_method_17_code
def yX7_ifSighted : MethodName := ⟨RX7, "ifSighted", "(II)I"⟩
abbrev cX7_median : ByteArray := prog_1_method_18_code
def yX7_median : MethodName := ⟨RX7, "median", "(I)I"⟩
abbrev cX7_bestStar : ByteArray := prog_1_method_19_code
def yX7_bestStar : MethodName := ⟨RX7, "bestStar", "()I"⟩
abbrev cX7_nearest : ByteArray := prog_1_method_20_code
def yX7_nearest : MethodName := ⟨RX7, "nearest", "(I)I"⟩
abbrev cX7_arrivesIn : ByteArray := prog_1_method_21_code
def yX7_arrivesIn : MethodName := ⟨RX7, "arrivesIn", "(I)I"⟩
abbrev cX7_put : ByteArray := prog_1_method_22_code
def yX7_put : MethodName := ⟨RX7, "put", "(J)I"⟩
abbrev cX7_wipe : ByteArray := prog_1_method_23_code
def yX7_wipe : MethodName := ⟨RX7, "wipe", "()I"⟩
abbrev cX7_fault : ByteArray := prog_1_method_24_code
def yX7_fault : MethodName := ⟨RX7, "fault", "()I"⟩
abbrev cX7_carryOut : ByteArray := prog_1_method_25_code
def yX7_carryOut : MethodName := ⟨RX7, "carryOut", "()I"⟩
abbrev cX7_undo : ByteArray := prog_1_method_26_code
def yX7_undo : MethodName := ⟨RX7, "undo", "()I"⟩
abbrev cX7_save : ByteArray := prog_1_method_27_code
def yX7_save : MethodName := ⟨RX7, "save", "(I)I"⟩
abbrev cX7_restore : ByteArray := prog_1_method_28_code
def yX7_restore : MethodName := ⟨RX7, "restore", "(I)I"⟩
abbrev cX7_obeyOrder : ByteArray := prog_1_method_29_code
def yX7_obeyOrder : MethodName := ⟨RX7, "obeyOrder", "()I"⟩
abbrev cX7_isNavigator : ByteArray := prog_1_method_30_code
def yX7_isNavigator : MethodName := ⟨RX7, "isNavigator", "(I)Z"⟩
abbrev cX7_isSlot : ByteArray := prog_1_method_31_code
def yX7_isSlot : MethodName := ⟨RX7, "isSlot", "(I)Z"⟩
abbrev cX7_isOnEarth : ByteArray := prog_1_method_32_code
def yX7_isOnEarth : MethodName := ⟨RX7, "isOnEarth", "(I)Z"⟩
abbrev cX7_keptOnEarth : ByteArray := prog_1_method_33_code
def yX7_keptOnEarth : MethodName := ⟨RX7, "keptOnEarth", "(I)I"⟩
abbrev cX7_toldLatitude : ByteArray := prog_1_method_34_code
def yX7_toldLatitude : MethodName := ⟨RX7, "toldLatitude", "(I)I"⟩
def RX8 : String := "LampLatitudesModel"
def TX8 : u_T := fun k => match k with
  | 0 => ("LampLatitudesModel", "state", "[I", true)
  | 1 => ("LampLatitudesModel", "spare", "[I", true)
  | 2 => ("LampLatitudesModel", "history", "[I", true)
  | 3 => ("LampLatitudesModel", "states", "I", false)
  | 4 => ("LampLatitudesModel", "slots", "[I", true)
  | 5 => ("LampLatitudesModel", "isSaved", "[I", true)
  | 6 => ("LampLatitudesModel", "pad", "[I", true)
  | 7 => ("LampLatitudesModel", "length", "I", false)
  | 8 => ("LampLatitudesModel", "at", "I", false)
  | 9 => ("LampLatitudesModel", "sign", "I", false)
  | 10 => ("LampLatitudesModel", "first", "I", false)
  | _ => ("LampLatitudesModel", "second", "I", false)
def tyX8 : Nat → FieldType := fun k => match k with
  | 0 => .array .int
  | 1 => .array .int
  | 2 => .array .int
  | 3 => .int
  | 4 => .array .int
  | 5 => .array .int
  | 6 => .array .int
  | 7 => .int
  | 8 => .int
  | 9 => .int
  | 10 => .int
  | _ => .int
abbrev wsX80 : List Cond := u_ws RX8 TX8 12
theorem nmX8 : ∀ a, a < 12 → ∀ b, b < 12 → a ≠ b → (TX8 a).2.1 ≠ (TX8 b).2.1 := by decide +kernel
theorem tyX8_ok : ∀ k, k < 12 → parseFieldDescriptor (TX8 k).2.2.1 = some (tyX8 k) := by decide +kernel
abbrev cX8_init : ByteArray := prog_10_method_1_code
def yX8_init : MethodName := ⟨RX8, "<init>", "()V"⟩
abbrev cX8_within : ByteArray := prog_10_method_2_code
def yX8_within : MethodName := ⟨RX8, "within", "(III)Z"⟩
abbrev cX8_sizeOf : ByteArray := prog_10_method_3_code
def yX8_sizeOf : MethodName := ⟨RX8, "sizeOf", "(I)I"⟩
abbrev cX8_bounded : ByteArray := prog_10_method_4_code
def yX8_bounded : MethodName := ⟨RX8, "bounded", "(I)I"⟩
abbrev cX8_isLatitude : ByteArray := prog_10_method_5_code
def yX8_isLatitude : MethodName := ⟨RX8, "isLatitude", "(I)Z"⟩
abbrev cX8_isStar : ByteArray := prog_10_method_6_code
def yX8_isStar : MethodName := ⟨RX8, "isStar", "(I)Z"⟩
abbrev cX8_isNavigator : ByteArray := prog_10_method_7_code
def yX8_isNavigator : MethodName := ⟨RX8, "isNavigator", "(I)Z"⟩
abbrev cX8_number : ByteArray := prog_10_method_8_code
def yX8_number : MethodName := ⟨RX8, "number", "(II)I"⟩
abbrev cX8_setOf : ByteArray := prog_10_method_9_code
def yX8_setOf : MethodName := ⟨RX8, "setOf", "(III)V"⟩
abbrev cX8_putAside : ByteArray := prog_10_method_10_code
def yX8_putAside : MethodName := ⟨RX8, "putAside", "()V"⟩
abbrev cX8_takeBack : ByteArray := prog_10_method_11_code
def yX8_takeBack : MethodName := ⟨RX8, "takeBack", "()V"⟩
abbrev cX8_push : ByteArray := prog_10_method_12_code
def yX8_push : MethodName := ⟨RX8, "push", "()V"⟩
abbrev cX8_recorded : ByteArray := prog_10_method_13_code
def yX8_recorded : MethodName := ⟨RX8, "recorded", "(I)I"⟩
abbrev cX8_undo : ByteArray := prog_10_method_14_code
def yX8_undo : MethodName := ⟨RX8, "undo", "()I"⟩
abbrev cX8_isSlot : ByteArray := prog_10_method_15_code
def yX8_isSlot : MethodName := ⟨RX8, "isSlot", "(I)Z"⟩
abbrev cX8_save : ByteArray := prog_10_method_16_code
def yX8_save : MethodName := ⟨RX8, "save", "(I)I"⟩
abbrev cX8_restore : ByteArray := prog_10_method_17_code
def yX8_restore : MethodName := ⟨RX8, "restore", "(I)I"⟩
abbrev cX8_height : ByteArray := prog_10_method_18_code
def yX8_height : MethodName := ⟨RX8, "height", "(I)I"⟩
abbrev cX8_reason : ByteArray := prog_10_method_19_code
def yX8_reason : MethodName := ⟨RX8, "reason", "(II)I"⟩
abbrev cX8_error : ByteArray := prog_10_method_20_code
def yX8_error : MethodName := ⟨RX8, "error", "(I)I"⟩
abbrev cX8_wouldBelieve : ByteArray := prog_10_method_21_code
def yX8_wouldBelieve : MethodName := ⟨RX8, "wouldBelieve", "(II)I"⟩
abbrev cX8_whyNot : ByteArray := prog_10_method_22_code
def yX8_whyNot : MethodName := ⟨RX8, "whyNot", "(II)I"⟩
abbrev cX8_sights : ByteArray := prog_10_method_23_code
def yX8_sights : MethodName := ⟨RX8, "sights", "(II)I"⟩
abbrev cX8_takesPart : ByteArray := prog_10_method_24_code
def yX8_takesPart : MethodName := ⟨RX8, "takesPart", "(II)Z"⟩
abbrev cX8_parts : ByteArray := prog_10_method_25_code
def yX8_parts : MethodName := ⟨RX8, "parts", "(I)I"⟩
abbrev cX8_lower : ByteArray := prog_10_method_26_code
def yX8_lower : MethodName := ⟨RX8, "lower", "(II)I"⟩
abbrev cX8_middle : ByteArray := prog_10_method_27_code
def yX8_middle : MethodName := ⟨RX8, "middle", "(I)I"⟩
abbrev cX8_judge : ByteArray := prog_10_method_28_code
def yX8_judge : MethodName := ⟨RX8, "judge", "(II)V"⟩
abbrev cX8_agrees : ByteArray := prog_10_method_29_code
def yX8_agrees : MethodName := ⟨RX8, "agrees", "()I"⟩
abbrev cX8_passHour : ByteArray := prog_10_method_30_code
def yX8_passHour : MethodName := ⟨RX8, "passHour", "()V"⟩
abbrev cX8_sails : ByteArray := prog_10_method_31_code
def yX8_sails : MethodName := ⟨RX8, "sails", "(I)I"⟩
abbrev cX8_belief : ByteArray := prog_10_method_32_code
def yX8_belief : MethodName := ⟨RX8, "belief", "()I"⟩
abbrev cX8_ends : ByteArray := prog_10_method_33_code
def yX8_ends : MethodName := ⟨RX8, "ends", "()I"⟩
abbrev cX8_comes : ByteArray := prog_10_method_34_code
def yX8_comes : MethodName := ⟨RX8, "comes", "(I)I"⟩
abbrev cX8_clouds : ByteArray := prog_10_method_35_code
def yX8_clouds : MethodName := ⟨RX8, "clouds", "(I)I"⟩
abbrev cX8_sleeps : ByteArray := prog_10_method_36_code
def yX8_sleeps : MethodName := ⟨RX8, "sleeps", "(I)I"⟩
abbrev cX8_aims : ByteArray := prog_10_method_37_code
def yX8_aims : MethodName := ⟨RX8, "aims", "(I)I"⟩
abbrev cX8_leastOf : ByteArray := prog_10_method_38_code
def yX8_leastOf : MethodName := ⟨RX8, "leastOf", "(I)I"⟩
abbrev cX8_mostOf : ByteArray := prog_10_method_39_code
def yX8_mostOf : MethodName := ⟨RX8, "mostOf", "(I)I"⟩
abbrev cX8_set : ByteArray := prog_10_method_40_code
def yX8_set : MethodName := ⟨RX8, "set", "(II)I"⟩
abbrev cX8_star : ByteArray := prog_10_method_41_code
def yX8_star : MethodName := ⟨RX8, "star", "(I)I"⟩
abbrev cX8_cloud : ByteArray := prog_10_method_42_code
def yX8_cloud : MethodName := ⟨RX8, "cloud", "(I)I"⟩
abbrev cX8_isValue : ByteArray := prog_10_method_43_code
def yX8_isValue : MethodName := ⟨RX8, "isValue", "(II)Z"⟩
abbrev cX8_navigator : ByteArray := prog_10_method_44_code
def yX8_navigator : MethodName := ⟨RX8, "navigator", "(III)I"⟩
abbrev cX8_sleep : ByteArray := prog_10_method_45_code
def yX8_sleep : MethodName := ⟨RX8, "sleep", "(I)I"⟩
abbrev cX8_goal : ByteArray := prog_10_method_46_code
def yX8_goal : MethodName := ⟨RX8, "goal", "(I)I"⟩
abbrev cX8_sight : ByteArray := prog_10_method_47_code
def yX8_sight : MethodName := ⟨RX8, "sight", "(II)I"⟩
abbrev cX8_agree : ByteArray := prog_10_method_48_code
def yX8_agree : MethodName := ⟨RX8, "agree", "()I"⟩
abbrev cX8_sail : ByteArray := prog_10_method_49_code
def yX8_sail : MethodName := ⟨RX8, "sail", "(I)I"⟩
abbrev cX8_night : ByteArray := prog_10_method_50_code
def yX8_night : MethodName := ⟨RX8, "night", "()I"⟩
abbrev cX8_estimate : ByteArray := prog_10_method_51_code
def yX8_estimate : MethodName := ⟨RX8, "estimate", "(I)I"⟩
abbrev cX8_of : ByteArray := prog_10_method_52_code
def yX8_of : MethodName := ⟨RX8, "of", "(II)I"⟩
abbrev cX8_whoCan : ByteArray := prog_10_method_53_code
def yX8_whoCan : MethodName := ⟨RX8, "whoCan", "(I)I"⟩
abbrev cX8_ofStar : ByteArray := prog_10_method_54_code
def yX8_ofStar : MethodName := ⟨RX8, "ofStar", "(II)I"⟩
abbrev cX8_log : ByteArray := prog_10_method_55_code
def yX8_log : MethodName := ⟨RX8, "log", "(II)I"⟩
abbrev cX8_those : ByteArray := prog_10_method_56_code
def yX8_those : MethodName := ⟨RX8, "those", "(Z)I"⟩
abbrev cX8_mistake : ByteArray := prog_10_method_57_code
def yX8_mistake : MethodName := ⟨RX8, "mistake", "()I"⟩
abbrev cX8_count : ByteArray := prog_10_method_58_code
def yX8_count : MethodName := ⟨RX8, "count", "(I)I"⟩
abbrev cX8_why : ByteArray := prog_10_method_59_code
def yX8_why : MethodName := ⟨RX8, "why", "(II)I"⟩
abbrev cX8_ifSighted : ByteArray := prog_10_method_60_code
def yX8_ifSighted : MethodName := ⟨RX8, "ifSighted", "(II)I"⟩
abbrev cX8_median : ByteArray := prog_10_method_61_code
def yX8_median : MethodName := ⟨RX8, "median", "(I)I"⟩
abbrev cX8_bestStar : ByteArray := prog_10_method_62_code
def yX8_bestStar : MethodName := ⟨RX8, "bestStar", "()I"⟩
abbrev cX8_nearest : ByteArray := prog_10_method_63_code
def yX8_nearest : MethodName := ⟨RX8, "nearest", "(I)I"⟩
abbrev cX8_arrivesIn : ByteArray := prog_10_method_64_code
def yX8_arrivesIn : MethodName := ⟨RX8, "arrivesIn", "(I)I"⟩
abbrev cX8_isCharacter : ByteArray := prog_10_method_65_code
def yX8_isCharacter : MethodName := ⟨RX8, "isCharacter", "(I)Z"⟩
abbrev cX8_charactersIn : ByteArray := prog_10_method_66_code
def yX8_charactersIn : MethodName := ⟨RX8, "charactersIn", "(J)I"⟩
abbrev cX8_put : ByteArray := prog_10_method_67_code
def yX8_put : MethodName := ⟨RX8, "put", "(J)I"⟩
abbrev cX8_wipe : ByteArray := prog_10_method_68_code
def yX8_wipe : MethodName := ⟨RX8, "wipe", "()I"⟩
abbrev cX8_code : ByteArray := prog_10_method_69_code
def yX8_code : MethodName := ⟨RX8, "code", "()I"⟩
abbrev cX8_takes : ByteArray := prog_10_method_70_code
def yX8_takes : MethodName := ⟨RX8, "takes", "(I)Z"⟩
abbrev cX8_takeDigit : ByteArray := prog_10_method_71_code
def yX8_takeDigit : MethodName := ⟨RX8, "takeDigit", "()I"⟩
abbrev cX8_readsNumber : ByteArray := prog_10_method_72_code
def yX8_readsNumber : MethodName := ⟨RX8, "readsNumber", "()Z"⟩
abbrev cX8_readsSigned : ByteArray := prog_10_method_73_code
def yX8_readsSigned : MethodName := ⟨RX8, "readsSigned", "()Z"⟩
abbrev cX8_readsDigits : ByteArray := prog_10_method_74_code
def yX8_readsDigits : MethodName := ⟨RX8, "readsDigits", "(Z)Z"⟩
abbrev cX8_readsOrder : ByteArray := prog_10_method_75_code
def yX8_readsOrder : MethodName := ⟨RX8, "readsOrder", "()Z"⟩
abbrev cX8_findFault : ByteArray := prog_10_method_76_code
def yX8_findFault : MethodName := ⟨RX8, "findFault", "()I"⟩
abbrev cX8_fault : ByteArray := prog_10_method_77_code
def yX8_fault : MethodName := ⟨RX8, "fault", "()I"⟩
abbrev cX8_doesOrder : ByteArray := prog_10_method_78_code
def yX8_doesOrder : MethodName := ⟨RX8, "doesOrder", "()I"⟩
abbrev cX8_carryOut : ByteArray := prog_10_method_79_code
def yX8_carryOut : MethodName := ⟨RX8, "carryOut", "()I"⟩
def RJ9 : String := "java/lang/Math"
def TJ9 : u_T := fun k => match k with
  | _ => ("", "", "", false)
def tyJ9 : Nat → FieldType := fun k => match k with
  | _ => .int
abbrev wsJ90 : List Cond := u_ws RJ9 TJ9 0
theorem nmJ9 : ∀ a, a < 0 → ∀ b, b < 0 → a ≠ b → (TJ9 a).2.1 ≠ (TJ9 b).2.1 := by decide +kernel
theorem tyJ9_ok : ∀ k, k < 0 → parseFieldDescriptor (TJ9 k).2.2.1 = some (tyJ9 k) := by decide +kernel
abbrev cJ9_abs_0f7a4 : ByteArray := prog_11_method_59_code
def yJ9_abs_0f7a4 : MethodName := ⟨RJ9, "abs", "(I)I"⟩
abbrev cJ9_max_7cf53 : ByteArray := prog_11_method_65_code
def yJ9_max_7cf53 : MethodName := ⟨RJ9, "max", "(II)I"⟩
abbrev cJ9_min_7cf53 : ByteArray := prog_11_method_69_code
def yJ9_min_7cf53 : MethodName := ⟨RJ9, "min", "(II)I"⟩
def RJ10 : String := "java/lang/System"
def TJ10 : u_T := fun k => match k with
  | _ => ("", "", "", false)
def tyJ10 : Nat → FieldType := fun k => match k with
  | _ => .int
abbrev wsJ100 : List Cond := u_ws RJ10 TJ10 0
theorem nmJ10 : ∀ a, a < 0 → ∀ b, b < 0 → a ≠ b → (TJ10 a).2.1 ≠ (TJ10 b).2.1 := by decide +kernel
theorem tyJ10_ok : ∀ k, k < 0 → parseFieldDescriptor (TJ10 k).2.2.1 = some (tyJ10 k) := by decide +kernel
def RL : String := "LampLatitudesLaw"
abbrev cL_law : ByteArray := code
def yL_law : MethodName := ⟨RL, "law", "([I)Z"⟩
abbrev vwCl : List vw_C := [(RX0, TX0, 4), (RX1, TX1, 7), (RX2, TX2, 3), (RX3, TX3, 1), (RX4, TX4, 6), (RX5, TX5, 3), (RX6, TX6, 8), (RX7, TX7, 6), (RX8, TX8, 12)]
end
section
theorem ini_RL : Cond.initialized RL ∈ TB := tb_of 0 (by decide +kernel) (by decide +kernel)
theorem ini_RX7 : Cond.initialized RX7 ∈ TB := tb_of 1 (by decide +kernel) (by decide +kernel)
theorem ini_RX6 : Cond.initialized RX6 ∈ TB := tb_of 2 (by decide +kernel) (by decide +kernel)
theorem ini_RX5 : Cond.initialized RX5 ∈ TB := tb_of 3 (by decide +kernel) (by decide +kernel)
theorem ini_RX1 : Cond.initialized RX1 ∈ TB := tb_of 4 (by decide +kernel) (by decide +kernel)
theorem ini_RX0 : Cond.initialized RX0 ∈ TB := tb_of 5 (by decide +kernel) (by decide +kernel)
theorem ini_RX3 : Cond.initialized RX3 ∈ TB := tb_of 6 (by decide +kernel) (by decide +kernel)
theorem ini_RJ10 : Cond.initialized RJ10 ∈ TB := tb_of 7 (by decide +kernel) (by decide +kernel)
theorem ini_RX2 : Cond.initialized RX2 ∈ TB := tb_of 8 (by decide +kernel) (by decide +kernel)
theorem ini_RX4 : Cond.initialized RX4 ∈ TB := tb_of 9 (by decide +kernel) (by decide +kernel)
theorem ini_RX8 : Cond.initialized RX8 ∈ TB := tb_of 10 (by decide +kernel) (by decide +kernel)
theorem ini_RJ9 : Cond.initialized RJ9 ∈ TB := tb_of 11 (by decide +kernel) (by decide +kernel)
theorem cl_RL_7 : Cond.classLink RL 7 RX7 ∈ TB := tb_of 12 (by decide +kernel) (by decide +kernel)
theorem ins_RX7 : Cond.instantiable RX7 6 ∈ TB := tb_of 13 (by decide +kernel) (by decide +kernel)
theorem ml_RL_9 : Cond.methodLink RL 9 yX7_init ∈ TB := tb_of 14 (by decide +kernel) (by decide +kernel)
theorem im_yX7_init : Cond.instanceMethod yX7_init ∈ TB := tb_of 15 (by decide +kernel) (by decide +kernel)
theorem co_yX7_init : Cond.code yX7_init prog_1_method_1_code 2 (Option.none : Option Jvm.ClassFile.FieldType) ∈ TB := tb_of 16 (by decide +kernel) (by decide +kernel)
theorem ml_RX7_1 : Cond.methodLink RX7 1 Lib.objectInit ∈ TB := tb_of 17 (by decide +kernel) (by decide +kernel)
theorem im_Lib_objectInit : Cond.instanceMethod Lib.objectInit ∈ TB := tb_of 18 (by decide +kernel) (by decide +kernel)
theorem co_Lib_objectInit : Cond.code Lib.objectInit object_method_1_code 1 (Option.none : Option Jvm.ClassFile.FieldType) ∈ TB := tb_of 19 (by decide +kernel) (by decide +kernel)
theorem cl_RX7_7 : Cond.classLink RX7 7 RX6 ∈ TB := tb_of 20 (by decide +kernel) (by decide +kernel)
theorem ins_RX6 : Cond.instantiable RX6 8 ∈ TB := tb_of 21 (by decide +kernel) (by decide +kernel)
theorem ml_RX7_9 : Cond.methodLink RX7 9 yX6_init ∈ TB := tb_of 22 (by decide +kernel) (by decide +kernel)
theorem im_yX6_init : Cond.instanceMethod yX6_init ∈ TB := tb_of 23 (by decide +kernel) (by decide +kernel)
theorem co_yX6_init : Cond.code yX6_init prog_8_method_1_code 1 (Option.none : Option Jvm.ClassFile.FieldType) ∈ TB := tb_of 24 (by decide +kernel) (by decide +kernel)
theorem ml_RX6_3 : Cond.methodLink RX6 3 Lib.objectInit ∈ TB := tb_of 25 (by decide +kernel) (by decide +kernel)
theorem cl_RX6_15 : Cond.classLink RX6 15 RX5 ∈ TB := tb_of 26 (by decide +kernel) (by decide +kernel)
theorem ins_RX5 : Cond.instantiable RX5 3 ∈ TB := tb_of 27 (by decide +kernel) (by decide +kernel)
theorem im_yX5_init : Cond.instanceMethod yX5_init ∈ TB := tb_of 29 (by decide +kernel) (by decide +kernel)
theorem co_yX5_init : Cond.code yX5_init prog_7_method_1_code 1 (Option.none : Option Jvm.ClassFile.FieldType) ∈ TB := tb_of 30 (by decide +kernel) (by decide +kernel)
theorem ml_RX5_3 : Cond.methodLink RX5 3 Lib.objectInit ∈ TB := tb_of 31 (by decide +kernel) (by decide +kernel)
theorem fl_RX5_9 : Cond.fieldLink RX5 9 RX5 "stars" "I" ∈ TB := tb_of 32 (by decide +kernel) (by decide +kernel)
theorem fl_RX6_85 : Cond.fieldLink RX6 85 RX5 "stars" "I" ∈ TB := tb_of 33 (by decide +kernel) (by decide +kernel)
theorem fl_RX7_176 : Cond.fieldLink RX7 176 RX5 "stars" "I" ∈ TB := tb_of 34 (by decide +kernel) (by decide +kernel)
theorem fl_RX5_15 : Cond.fieldLink RX5 15 RX5 "clouded" "I" ∈ TB := tb_of 35 (by decide +kernel) (by decide +kernel)
theorem fl_RX6_94 : Cond.fieldLink RX6 94 RX5 "clouded" "I" ∈ TB := tb_of 36 (by decide +kernel) (by decide +kernel)
theorem fl_RX5_18 : Cond.fieldLink RX5 18 RX5 "declination" "[I" ∈ TB := tb_of 37 (by decide +kernel) (by decide +kernel)
theorem fl_RX6_88 : Cond.fieldLink RX6 88 RX5 "declination" "[I" ∈ TB := tb_of 38 (by decide +kernel) (by decide +kernel)
theorem ac_int : Cond.arrayClass .int ∈ TB := tb_of 46 (by decide +kernel) (by decide +kernel)
theorem cl_RX6_22 : Cond.classLink RX6 22 RX1 ∈ TB := tb_of 47 (by decide +kernel) (by decide +kernel)
theorem ins_RX1 : Cond.instantiable RX1 7 ∈ TB := tb_of 48 (by decide +kernel) (by decide +kernel)
theorem ml_RX6_24 : Cond.methodLink RX6 24 yX1_init ∈ TB := tb_of 49 (by decide +kernel) (by decide +kernel)
theorem im_yX1_init : Cond.instanceMethod yX1_init ∈ TB := tb_of 50 (by decide +kernel) (by decide +kernel)
theorem co_yX1_init : Cond.code yX1_init prog_3_method_1_code 2 (Option.none : Option Jvm.ClassFile.FieldType) ∈ TB := tb_of 51 (by decide +kernel) (by decide +kernel)
theorem ml_RX1_3 : Cond.methodLink RX1 3 Lib.objectInit ∈ TB := tb_of 52 (by decide +kernel) (by decide +kernel)
theorem fl_RX1_9 : Cond.fieldLink RX1 9 RX1 "skill" "[I" ∈ TB := tb_of 53 (by decide +kernel) (by decide +kernel)
theorem fl_RX6_110 : Cond.fieldLink RX6 110 RX1 "skill" "[I" ∈ TB := tb_of 54 (by decide +kernel) (by decide +kernel)
theorem fl_RX1_15 : Cond.fieldLink RX1 15 RX1 "bias" "[I" ∈ TB := tb_of 55 (by decide +kernel) (by decide +kernel)
theorem fl_RX6_113 : Cond.fieldLink RX6 113 RX1 "bias" "[I" ∈ TB := tb_of 56 (by decide +kernel) (by decide +kernel)
theorem fl_RX1_18 : Cond.fieldLink RX1 18 RX1 "side" "[I" ∈ TB := tb_of 57 (by decide +kernel) (by decide +kernel)
theorem fl_RX6_116 : Cond.fieldLink RX6 116 RX1 "side" "[I" ∈ TB := tb_of 58 (by decide +kernel) (by decide +kernel)
theorem fl_RX1_21 : Cond.fieldLink RX1 21 RX1 "anger" "[I" ∈ TB := tb_of 59 (by decide +kernel) (by decide +kernel)
theorem fl_RX1_24 : Cond.fieldLink RX1 24 RX1 "sights" "[I" ∈ TB := tb_of 60 (by decide +kernel) (by decide +kernel)
theorem fl_RX6_132 : Cond.fieldLink RX6 132 RX1 "sights" "[I" ∈ TB := tb_of 61 (by decide +kernel) (by decide +kernel)
theorem fl_RX1_27 : Cond.fieldLink RX1 27 RX1 "estimate" "[I" ∈ TB := tb_of 62 (by decide +kernel) (by decide +kernel)
theorem fl_RX6_129 : Cond.fieldLink RX6 129 RX1 "estimate" "[I" ∈ TB := tb_of 63 (by decide +kernel) (by decide +kernel)
theorem fl_RX1_30 : Cond.fieldLink RX1 30 RX1 "how" "[I" ∈ TB := tb_of 64 (by decide +kernel) (by decide +kernel)
theorem fl_RX6_119 : Cond.fieldLink RX6 119 RX1 "how" "[I" ∈ TB := tb_of 65 (by decide +kernel) (by decide +kernel)
theorem cl_RX6_29 : Cond.classLink RX6 29 RX0 ∈ TB := tb_of 81 (by decide +kernel) (by decide +kernel)
theorem ins_RX0 : Cond.instantiable RX0 4 ∈ TB := tb_of 82 (by decide +kernel) (by decide +kernel)
theorem im_yX0_init : Cond.instanceMethod yX0_init ∈ TB := tb_of 84 (by decide +kernel) (by decide +kernel)
theorem co_yX0_init : Cond.code yX0_init prog_2_method_1_code 1 (Option.none : Option Jvm.ClassFile.FieldType) ∈ TB := tb_of 85 (by decide +kernel) (by decide +kernel)
theorem ml_RX0_3 : Cond.methodLink RX0 3 Lib.objectInit ∈ TB := tb_of 86 (by decide +kernel) (by decide +kernel)
theorem fl_RX0_9 : Cond.fieldLink RX0 9 RX0 "latitude" "I" ∈ TB := tb_of 87 (by decide +kernel) (by decide +kernel)
theorem fl_RX6_155 : Cond.fieldLink RX6 155 RX0 "latitude" "I" ∈ TB := tb_of 88 (by decide +kernel) (by decide +kernel)
theorem fl_RX0_15 : Cond.fieldLink RX0 15 RX0 "belief" "I" ∈ TB := tb_of 89 (by decide +kernel) (by decide +kernel)
theorem fl_RX6_161 : Cond.fieldLink RX6 161 RX0 "belief" "I" ∈ TB := tb_of 90 (by decide +kernel) (by decide +kernel)
theorem fl_RX0_18 : Cond.fieldLink RX0 18 RX0 "goal" "I" ∈ TB := tb_of 91 (by decide +kernel) (by decide +kernel)
theorem fl_RX6_122 : Cond.fieldLink RX6 122 RX0 "goal" "I" ∈ TB := tb_of 92 (by decide +kernel) (by decide +kernel)
theorem fl_RX0_21 : Cond.fieldLink RX0 21 RX0 "hours" "I" ∈ TB := tb_of 93 (by decide +kernel) (by decide +kernel)
theorem fl_RX6_167 : Cond.fieldLink RX6 167 RX0 "hours" "I" ∈ TB := tb_of 94 (by decide +kernel) (by decide +kernel)
theorem cl_RX6_36 : Cond.classLink RX6 36 RX3 ∈ TB := tb_of 104 (by decide +kernel) (by decide +kernel)
theorem ins_RX3 : Cond.instantiable RX3 1 ∈ TB := tb_of 105 (by decide +kernel) (by decide +kernel)
theorem im_yX3_init : Cond.instanceMethod yX3_init ∈ TB := tb_of 107 (by decide +kernel) (by decide +kernel)
theorem co_yX3_init : Cond.code yX3_init prog_5_method_1_code 1 (Option.none : Option Jvm.ClassFile.FieldType) ∈ TB := tb_of 108 (by decide +kernel) (by decide +kernel)
theorem ml_RX3_1 : Cond.methodLink RX3 1 Lib.objectInit ∈ TB := tb_of 109 (by decide +kernel) (by decide +kernel)
theorem fl_RX3_9 : Cond.fieldLink RX3 9 RX3 "cells" "[I" ∈ TB := tb_of 110 (by decide +kernel) (by decide +kernel)
theorem fl_RX6_53 : Cond.fieldLink RX6 53 RX6 "FIRST_SETTING" "[I" ∈ TB := tb_of 114 (by decide +kernel) (by decide +kernel)
theorem ml_RX6_56 : Cond.methodLink RX6 56 arraycopyName ∈ TB := tb_of 116 (by decide +kernel) (by decide +kernel)
theorem st_arraycopyName : Cond.static arraycopyName ∈ TB := tb_of 117 (by decide +kernel) (by decide +kernel)
theorem nat_arraycopy : Cond.native arraycopyName ∈ TB := tb_of 118 (by decide +kernel) (by decide +kernel)
theorem fl_RX6_9 : Cond.fieldLink RX6 9 RX6 "settings" "[I" ∈ TB := tb_of 119 (by decide +kernel) (by decide +kernel)
theorem fl_RX6_18 : Cond.fieldLink RX6 18 RX6 "sky" "LLampLatitudes$Sky;" ∈ TB := tb_of 120 (by decide +kernel) (by decide +kernel)
theorem fl_RX7_99 : Cond.fieldLink RX7 99 RX6 "sky" "LLampLatitudes$Sky;" ∈ TB := tb_of 121 (by decide +kernel) (by decide +kernel)
theorem fl_RX6_25 : Cond.fieldLink RX6 25 RX6 "crew" "LLampLatitudes$Crew;" ∈ TB := tb_of 122 (by decide +kernel) (by decide +kernel)
theorem fl_RX7_90 : Cond.fieldLink RX7 90 RX6 "crew" "LLampLatitudes$Crew;" ∈ TB := tb_of 123 (by decide +kernel) (by decide +kernel)
theorem fl_RX6_32 : Cond.fieldLink RX6 32 RX6 "course" "LLampLatitudes$Course;" ∈ TB := tb_of 124 (by decide +kernel) (by decide +kernel)
theorem fl_RX6_39 : Cond.fieldLink RX6 39 RX6 "logbook" "LLampLatitudes$Logbook;" ∈ TB := tb_of 125 (by decide +kernel) (by decide +kernel)
theorem fl_RX6_43 : Cond.fieldLink RX6 43 RX6 "night" "I" ∈ TB := tb_of 126 (by decide +kernel) (by decide +kernel)
theorem fl_RX6_47 : Cond.fieldLink RX6 47 RX6 "medians" "I" ∈ TB := tb_of 127 (by decide +kernel) (by decide +kernel)
theorem fl_RX6_50 : Cond.fieldLink RX6 50 RX6 "tooFarThisNight" "I" ∈ TB := tb_of 128 (by decide +kernel) (by decide +kernel)
theorem cl_RX7_16 : Cond.classLink RX7 16 RX2 ∈ TB := tb_of 146 (by decide +kernel) (by decide +kernel)
theorem ins_RX2 : Cond.instantiable RX2 3 ∈ TB := tb_of 147 (by decide +kernel) (by decide +kernel)
theorem ml_RX7_18 : Cond.methodLink RX7 18 yX2_init ∈ TB := tb_of 148 (by decide +kernel) (by decide +kernel)
theorem im_yX2_init : Cond.instanceMethod yX2_init ∈ TB := tb_of 149 (by decide +kernel) (by decide +kernel)
theorem co_yX2_init : Cond.code yX2_init prog_4_method_1_code 2 (Option.none : Option Jvm.ClassFile.FieldType) ∈ TB := tb_of 150 (by decide +kernel) (by decide +kernel)
theorem ml_RX2_5 : Cond.methodLink RX2 5 Lib.objectInit ∈ TB := tb_of 151 (by decide +kernel) (by decide +kernel)
theorem cl_RX2_11 : Cond.classLink RX2 11 RX6 ∈ TB := tb_of 152 (by decide +kernel) (by decide +kernel)
theorem ml_RX2_24 : Cond.methodLink RX2 24 yX6_init ∈ TB := tb_of 154 (by decide +kernel) (by decide +kernel)
theorem fl_RX2_13 : Cond.fieldLink RX2 13 RX2 "places" "[LLampLatitudes$Voyage;" ∈ TB := tb_of 155 (by decide +kernel) (by decide +kernel)
theorem fl_RX2_17 : Cond.fieldLink RX2 17 RX2 "oldest" "I" ∈ TB := tb_of 156 (by decide +kernel) (by decide +kernel)
theorem fl_RX2_21 : Cond.fieldLink RX2 21 RX2 "kept" "I" ∈ TB := tb_of 157 (by decide +kernel) (by decide +kernel)
theorem fl_RX7_118 : Cond.fieldLink RX7 118 RX2 "kept" "I" ∈ TB := tb_of 158 (by decide +kernel) (by decide +kernel)
theorem cl_RX7_23 : Cond.classLink RX7 23 RX4 ∈ TB := tb_of 166 (by decide +kernel) (by decide +kernel)
theorem ins_RX4 : Cond.instantiable RX4 6 ∈ TB := tb_of 167 (by decide +kernel) (by decide +kernel)
theorem im_yX4_init : Cond.instanceMethod yX4_init ∈ TB := tb_of 169 (by decide +kernel) (by decide +kernel)
theorem co_yX4_init : Cond.code yX4_init prog_6_method_1_code 1 (Option.none : Option Jvm.ClassFile.FieldType) ∈ TB := tb_of 170 (by decide +kernel) (by decide +kernel)
theorem ml_RX4_3 : Cond.methodLink RX4 3 Lib.objectInit ∈ TB := tb_of 171 (by decide +kernel) (by decide +kernel)
theorem fl_RX4_11 : Cond.fieldLink RX4 11 RX4 "signs" "[C" ∈ TB := tb_of 172 (by decide +kernel) (by decide +kernel)
theorem fl_RX4_15 : Cond.fieldLink RX4 15 RX4 "length" "I" ∈ TB := tb_of 173 (by decide +kernel) (by decide +kernel)
theorem fl_RX7_114 : Cond.fieldLink RX7 114 RX4 "length" "I" ∈ TB := tb_of 174 (by decide +kernel) (by decide +kernel)
theorem fl_RX4_19 : Cond.fieldLink RX4 19 RX4 "at" "I" ∈ TB := tb_of 175 (by decide +kernel) (by decide +kernel)
theorem fl_RX4_22 : Cond.fieldLink RX4 22 RX4 "kind" "I" ∈ TB := tb_of 176 (by decide +kernel) (by decide +kernel)
theorem fl_RX7_179 : Cond.fieldLink RX7 179 RX4 "kind" "I" ∈ TB := tb_of 177 (by decide +kernel) (by decide +kernel)
theorem fl_RX4_25 : Cond.fieldLink RX4 25 RX4 "first" "I" ∈ TB := tb_of 178 (by decide +kernel) (by decide +kernel)
theorem fl_RX7_182 : Cond.fieldLink RX7 182 RX4 "first" "I" ∈ TB := tb_of 179 (by decide +kernel) (by decide +kernel)
theorem fl_RX4_28 : Cond.fieldLink RX4 28 RX4 "second" "I" ∈ TB := tb_of 180 (by decide +kernel) (by decide +kernel)
theorem fl_RX7_185 : Cond.fieldLink RX7 185 RX4 "second" "I" ∈ TB := tb_of 181 (by decide +kernel) (by decide +kernel)
theorem ac_char : Cond.arrayClass .char ∈ TB := tb_of 195 (by decide +kernel) (by decide +kernel)
theorem cl_RX7_38 : Cond.classLink RX7 38 RX0 ∈ TB := tb_of 196 (by decide +kernel) (by decide +kernel)
theorem fl_RX7_10 : Cond.fieldLink RX7 10 RX7 "voyage" "LLampLatitudes$Voyage;" ∈ TB := tb_of 198 (by decide +kernel) (by decide +kernel)
theorem fl_RX7_19 : Cond.fieldLink RX7 19 RX7 "history" "LLampLatitudes$History;" ∈ TB := tb_of 199 (by decide +kernel) (by decide +kernel)
theorem fl_RX7_26 : Cond.fieldLink RX7 26 RX7 "pad" "LLampLatitudes$Pad;" ∈ TB := tb_of 200 (by decide +kernel) (by decide +kernel)
theorem fl_RX7_30 : Cond.fieldLink RX7 30 RX7 "slots" "[LLampLatitudes$Voyage;" ∈ TB := tb_of 201 (by decide +kernel) (by decide +kernel)
theorem fl_RX7_34 : Cond.fieldLink RX7 34 RX7 "saved" "[Z" ∈ TB := tb_of 202 (by decide +kernel) (by decide +kernel)
theorem fl_RX7_41 : Cond.fieldLink RX7 41 RX7 "trial" "LLampLatitudes$Course;" ∈ TB := tb_of 203 (by decide +kernel) (by decide +kernel)
theorem ac_boolean : Cond.arrayClass .boolean ∈ TB := tb_of 217 (by decide +kernel) (by decide +kernel)
theorem ml_RL_13 : Cond.methodLink RL 13 yX7_set ∈ TB := tb_of 218 (by decide +kernel) (by decide +kernel)
theorem im_yX7_set : Cond.instanceMethod yX7_set ∈ TB := tb_of 219 (by decide +kernel) (by decide +kernel)
theorem se_yX7_set : Cond.selects RX7 yX7_set yX7_set ∈ TB := tb_of 220 (by decide +kernel) (by decide +kernel)
theorem co_yX7_set : Cond.code yX7_set prog_1_method_2_code 3 (Option.some Jvm.ClassFile.FieldType.int) ∈ TB := tb_of 221 (by decide +kernel) (by decide +kernel)
theorem ml_RX7_45 : Cond.methodLink RX7 45 yX2_hold ∈ TB := tb_of 222 (by decide +kernel) (by decide +kernel)
theorem im_yX2_hold : Cond.instanceMethod yX2_hold ∈ TB := tb_of 223 (by decide +kernel) (by decide +kernel)
theorem se_yX2_hold : Cond.selects RX2 yX2_hold yX2_hold ∈ TB := tb_of 224 (by decide +kernel) (by decide +kernel)
theorem co_yX2_hold : Cond.code yX2_hold prog_4_method_2_code 2 (Option.none : Option Jvm.ClassFile.FieldType) ∈ TB := tb_of 225 (by decide +kernel) (by decide +kernel)
theorem ml_RX2_25 : Cond.methodLink RX2 25 yX6_copyFrom ∈ TB := tb_of 226 (by decide +kernel) (by decide +kernel)
theorem im_yX6_copyFrom : Cond.instanceMethod yX6_copyFrom ∈ TB := tb_of 227 (by decide +kernel) (by decide +kernel)
theorem se_yX6_copyFrom : Cond.selects RX6 yX6_copyFrom yX6_copyFrom ∈ TB := tb_of 228 (by decide +kernel) (by decide +kernel)
theorem co_yX6_copyFrom : Cond.code yX6_copyFrom prog_8_method_2_code 2 (Option.none : Option Jvm.ClassFile.FieldType) ∈ TB := tb_of 229 (by decide +kernel) (by decide +kernel)
theorem ml_RX6_62 : Cond.methodLink RX6 62 yX5_copyFrom ∈ TB := tb_of 230 (by decide +kernel) (by decide +kernel)
theorem im_yX5_copyFrom : Cond.instanceMethod yX5_copyFrom ∈ TB := tb_of 231 (by decide +kernel) (by decide +kernel)
theorem se_yX5_copyFrom : Cond.selects RX5 yX5_copyFrom yX5_copyFrom ∈ TB := tb_of 232 (by decide +kernel) (by decide +kernel)
theorem co_yX5_copyFrom : Cond.code yX5_copyFrom prog_7_method_2_code 2 (Option.none : Option Jvm.ClassFile.FieldType) ∈ TB := tb_of 233 (by decide +kernel) (by decide +kernel)
theorem ml_RX5_22 : Cond.methodLink RX5 22 arraycopyName ∈ TB := tb_of 234 (by decide +kernel) (by decide +kernel)
theorem ml_RX6_66 : Cond.methodLink RX6 66 yX1_copyFrom ∈ TB := tb_of 235 (by decide +kernel) (by decide +kernel)
theorem im_yX1_copyFrom : Cond.instanceMethod yX1_copyFrom ∈ TB := tb_of 236 (by decide +kernel) (by decide +kernel)
theorem se_yX1_copyFrom : Cond.selects RX1 yX1_copyFrom yX1_copyFrom ∈ TB := tb_of 237 (by decide +kernel) (by decide +kernel)
theorem co_yX1_copyFrom : Cond.code yX1_copyFrom prog_3_method_2_code 2 (Option.none : Option Jvm.ClassFile.FieldType) ∈ TB := tb_of 238 (by decide +kernel) (by decide +kernel)
theorem ml_RX1_33 : Cond.methodLink RX1 33 arraycopyName ∈ TB := tb_of 239 (by decide +kernel) (by decide +kernel)
theorem ml_RX6_69 : Cond.methodLink RX6 69 yX0_copyFrom ∈ TB := tb_of 240 (by decide +kernel) (by decide +kernel)
theorem im_yX0_copyFrom : Cond.instanceMethod yX0_copyFrom ∈ TB := tb_of 241 (by decide +kernel) (by decide +kernel)
theorem se_yX0_copyFrom : Cond.selects RX0 yX0_copyFrom yX0_copyFrom ∈ TB := tb_of 242 (by decide +kernel) (by decide +kernel)
theorem co_yX0_copyFrom : Cond.code yX0_copyFrom prog_2_method_2_code 2 (Option.none : Option Jvm.ClassFile.FieldType) ∈ TB := tb_of 243 (by decide +kernel) (by decide +kernel)
theorem ml_RX6_72 : Cond.methodLink RX6 72 yX3_copyFrom ∈ TB := tb_of 244 (by decide +kernel) (by decide +kernel)
theorem im_yX3_copyFrom : Cond.instanceMethod yX3_copyFrom ∈ TB := tb_of 245 (by decide +kernel) (by decide +kernel)
theorem se_yX3_copyFrom : Cond.selects RX3 yX3_copyFrom yX3_copyFrom ∈ TB := tb_of 246 (by decide +kernel) (by decide +kernel)
theorem co_yX3_copyFrom : Cond.code yX3_copyFrom prog_5_method_2_code 2 (Option.none : Option Jvm.ClassFile.FieldType) ∈ TB := tb_of 247 (by decide +kernel) (by decide +kernel)
theorem ml_RX3_13 : Cond.methodLink RX3 13 arraycopyName ∈ TB := tb_of 248 (by decide +kernel) (by decide +kernel)
theorem ml_RX7_49 : Cond.methodLink RX7 49 yX6_changeSetting ∈ TB := tb_of 249 (by decide +kernel) (by decide +kernel)
theorem im_yX6_changeSetting : Cond.instanceMethod yX6_changeSetting ∈ TB := tb_of 250 (by decide +kernel) (by decide +kernel)
theorem se_yX6_changeSetting : Cond.selects RX6 yX6_changeSetting yX6_changeSetting ∈ TB := tb_of 251 (by decide +kernel) (by decide +kernel)
theorem co_yX6_changeSetting : Cond.code yX6_changeSetting prog_8_method_3_code 4 (Option.some Jvm.ClassFile.FieldType.int) ∈ TB := tb_of 252 (by decide +kernel) (by decide +kernel)
theorem fl_RX6_75 : Cond.fieldLink RX6 75 RX6 "LEAST_SETTING" "[I" ∈ TB := tb_of 253 (by decide +kernel) (by decide +kernel)
theorem fl_RX6_78 : Cond.fieldLink RX6 78 RX6 "MOST_SETTING" "[I" ∈ TB := tb_of 255 (by decide +kernel) (by decide +kernel)
theorem ml_RX7_53 : Cond.methodLink RX7 53 yX2_keepUnlessError ∈ TB := tb_of 257 (by decide +kernel) (by decide +kernel)
theorem im_yX2_keepUnlessError : Cond.instanceMethod yX2_keepUnlessError ∈ TB := tb_of 258 (by decide +kernel) (by decide +kernel)
theorem se_yX2_keepUnlessError : Cond.selects RX2 yX2_keepUnlessError yX2_keepUnlessError ∈ TB := tb_of 259 (by decide +kernel) (by decide +kernel)
theorem co_yX2_keepUnlessError : Cond.code yX2_keepUnlessError prog_4_method_3_code 2 (Option.some Jvm.ClassFile.FieldType.int) ∈ TB := tb_of 260 (by decide +kernel) (by decide +kernel)
theorem ml_RL_18 : Cond.methodLink RL 18 yX7_star ∈ TB := tb_of 261 (by decide +kernel) (by decide +kernel)
theorem im_yX7_star : Cond.instanceMethod yX7_star ∈ TB := tb_of 262 (by decide +kernel) (by decide +kernel)
theorem se_yX7_star : Cond.selects RX7 yX7_star yX7_star ∈ TB := tb_of 263 (by decide +kernel) (by decide +kernel)
theorem co_yX7_star : Cond.code yX7_star prog_1_method_3_code 2 (Option.some Jvm.ClassFile.FieldType.int) ∈ TB := tb_of 264 (by decide +kernel) (by decide +kernel)
theorem ml_RX7_57 : Cond.methodLink RX7 57 yX6_addStar ∈ TB := tb_of 265 (by decide +kernel) (by decide +kernel)
theorem im_yX6_addStar : Cond.instanceMethod yX6_addStar ∈ TB := tb_of 266 (by decide +kernel) (by decide +kernel)
theorem se_yX6_addStar : Cond.selects RX6 yX6_addStar yX6_addStar ∈ TB := tb_of 267 (by decide +kernel) (by decide +kernel)
theorem co_yX6_addStar : Cond.code yX6_addStar prog_8_method_4_code 2 (Option.some Jvm.ClassFile.FieldType.int) ∈ TB := tb_of 268 (by decide +kernel) (by decide +kernel)
theorem st_yX7_isOnEarth : Cond.static yX7_isOnEarth ∈ TB := tb_of 270 (by decide +kernel) (by decide +kernel)
theorem co_yX7_isOnEarth : Cond.code yX7_isOnEarth prog_1_method_32_code 1 (Option.some Jvm.ClassFile.FieldType.boolean) ∈ TB := tb_of 271 (by decide +kernel) (by decide +kernel)
theorem ml_RL_23 : Cond.methodLink RL 23 yX7_cloud ∈ TB := tb_of 272 (by decide +kernel) (by decide +kernel)
theorem im_yX7_cloud : Cond.instanceMethod yX7_cloud ∈ TB := tb_of 273 (by decide +kernel) (by decide +kernel)
theorem se_yX7_cloud : Cond.selects RX7 yX7_cloud yX7_cloud ∈ TB := tb_of 274 (by decide +kernel) (by decide +kernel)
theorem co_yX7_cloud : Cond.code yX7_cloud prog_1_method_4_code 2 (Option.some Jvm.ClassFile.FieldType.int) ∈ TB := tb_of 275 (by decide +kernel) (by decide +kernel)
theorem ml_RX7_60 : Cond.methodLink RX7 60 yX6_turnCloud ∈ TB := tb_of 276 (by decide +kernel) (by decide +kernel)
theorem im_yX6_turnCloud : Cond.instanceMethod yX6_turnCloud ∈ TB := tb_of 277 (by decide +kernel) (by decide +kernel)
theorem se_yX6_turnCloud : Cond.selects RX6 yX6_turnCloud yX6_turnCloud ∈ TB := tb_of 278 (by decide +kernel) (by decide +kernel)
theorem co_yX6_turnCloud : Cond.code yX6_turnCloud prog_8_method_5_code 2 (Option.some Jvm.ClassFile.FieldType.int) ∈ TB := tb_of 279 (by decide +kernel) (by decide +kernel)
theorem ml_RX6_91 : Cond.methodLink RX6 91 yX5_hasStar ∈ TB := tb_of 280 (by decide +kernel) (by decide +kernel)
theorem im_yX5_hasStar : Cond.instanceMethod yX5_hasStar ∈ TB := tb_of 281 (by decide +kernel) (by decide +kernel)
theorem se_yX5_hasStar : Cond.selects RX5 yX5_hasStar yX5_hasStar ∈ TB := tb_of 282 (by decide +kernel) (by decide +kernel)
theorem co_yX5_hasStar : Cond.code yX5_hasStar prog_7_method_3_code 2 (Option.some Jvm.ClassFile.FieldType.boolean) ∈ TB := tb_of 283 (by decide +kernel) (by decide +kernel)
theorem ml_RX6_97 : Cond.methodLink RX6 97 yX5_cloudBefore ∈ TB := tb_of 284 (by decide +kernel) (by decide +kernel)
theorem im_yX5_cloudBefore : Cond.instanceMethod yX5_cloudBefore ∈ TB := tb_of 285 (by decide +kernel) (by decide +kernel)
theorem se_yX5_cloudBefore : Cond.selects RX5 yX5_cloudBefore yX5_cloudBefore ∈ TB := tb_of 286 (by decide +kernel) (by decide +kernel)
theorem co_yX5_cloudBefore : Cond.code yX5_cloudBefore prog_7_method_4_code 2 (Option.some Jvm.ClassFile.FieldType.int) ∈ TB := tb_of 287 (by decide +kernel) (by decide +kernel)
theorem ml_RL_27 : Cond.methodLink RL 27 yX7_navigator ∈ TB := tb_of 288 (by decide +kernel) (by decide +kernel)
theorem im_yX7_navigator : Cond.instanceMethod yX7_navigator ∈ TB := tb_of 289 (by decide +kernel) (by decide +kernel)
theorem se_yX7_navigator : Cond.selects RX7 yX7_navigator yX7_navigator ∈ TB := tb_of 290 (by decide +kernel) (by decide +kernel)
theorem co_yX7_navigator : Cond.code yX7_navigator prog_1_method_5_code 4 (Option.some Jvm.ClassFile.FieldType.int) ∈ TB := tb_of 291 (by decide +kernel) (by decide +kernel)
theorem ml_RX7_63 : Cond.methodLink RX7 63 yX6_changeNavigator ∈ TB := tb_of 292 (by decide +kernel) (by decide +kernel)
theorem im_yX6_changeNavigator : Cond.instanceMethod yX6_changeNavigator ∈ TB := tb_of 293 (by decide +kernel) (by decide +kernel)
theorem se_yX6_changeNavigator : Cond.selects RX6 yX6_changeNavigator yX6_changeNavigator ∈ TB := tb_of 294 (by decide +kernel) (by decide +kernel)
theorem co_yX6_changeNavigator : Cond.code yX6_changeNavigator prog_8_method_6_code 6 (Option.some Jvm.ClassFile.FieldType.int) ∈ TB := tb_of 295 (by decide +kernel) (by decide +kernel)
theorem st_yX7_isNavigator : Cond.static yX7_isNavigator ∈ TB := tb_of 297 (by decide +kernel) (by decide +kernel)
theorem co_yX7_isNavigator : Cond.code yX7_isNavigator prog_1_method_30_code 1 (Option.some Jvm.ClassFile.FieldType.boolean) ∈ TB := tb_of 298 (by decide +kernel) (by decide +kernel)
theorem fl_RX6_104 : Cond.fieldLink RX6 104 RX6 "LEAST_TRAIT" "[I" ∈ TB := tb_of 299 (by decide +kernel) (by decide +kernel)
theorem fl_RX6_107 : Cond.fieldLink RX6 107 RX6 "MOST_TRAIT" "[I" ∈ TB := tb_of 301 (by decide +kernel) (by decide +kernel)
theorem ml_RL_32 : Cond.methodLink RL 32 yX7_sleep ∈ TB := tb_of 303 (by decide +kernel) (by decide +kernel)
theorem im_yX7_sleep : Cond.instanceMethod yX7_sleep ∈ TB := tb_of 304 (by decide +kernel) (by decide +kernel)
theorem se_yX7_sleep : Cond.selects RX7 yX7_sleep yX7_sleep ∈ TB := tb_of 305 (by decide +kernel) (by decide +kernel)
theorem co_yX7_sleep : Cond.code yX7_sleep prog_1_method_6_code 2 (Option.some Jvm.ClassFile.FieldType.int) ∈ TB := tb_of 306 (by decide +kernel) (by decide +kernel)
theorem ml_RX7_67 : Cond.methodLink RX7 67 yX6_turnSleep ∈ TB := tb_of 307 (by decide +kernel) (by decide +kernel)
theorem im_yX6_turnSleep : Cond.instanceMethod yX6_turnSleep ∈ TB := tb_of 308 (by decide +kernel) (by decide +kernel)
theorem se_yX6_turnSleep : Cond.selects RX6 yX6_turnSleep yX6_turnSleep ∈ TB := tb_of 309 (by decide +kernel) (by decide +kernel)
theorem co_yX6_turnSleep : Cond.code yX6_turnSleep prog_8_method_7_code 2 (Option.some Jvm.ClassFile.FieldType.int) ∈ TB := tb_of 310 (by decide +kernel) (by decide +kernel)
theorem ml_RL_36 : Cond.methodLink RL 36 yX7_goal ∈ TB := tb_of 311 (by decide +kernel) (by decide +kernel)
theorem im_yX7_goal : Cond.instanceMethod yX7_goal ∈ TB := tb_of 312 (by decide +kernel) (by decide +kernel)
theorem se_yX7_goal : Cond.selects RX7 yX7_goal yX7_goal ∈ TB := tb_of 313 (by decide +kernel) (by decide +kernel)
theorem co_yX7_goal : Cond.code yX7_goal prog_1_method_7_code 2 (Option.some Jvm.ClassFile.FieldType.int) ∈ TB := tb_of 314 (by decide +kernel) (by decide +kernel)
theorem ml_RX7_70 : Cond.methodLink RX7 70 yX6_changeGoal ∈ TB := tb_of 315 (by decide +kernel) (by decide +kernel)
theorem im_yX6_changeGoal : Cond.instanceMethod yX6_changeGoal ∈ TB := tb_of 316 (by decide +kernel) (by decide +kernel)
theorem se_yX6_changeGoal : Cond.selects RX6 yX6_changeGoal yX6_changeGoal ∈ TB := tb_of 317 (by decide +kernel) (by decide +kernel)
theorem co_yX6_changeGoal : Cond.code yX6_changeGoal prog_8_method_8_code 3 (Option.some Jvm.ClassFile.FieldType.int) ∈ TB := tb_of 318 (by decide +kernel) (by decide +kernel)
theorem ml_RL_40 : Cond.methodLink RL 40 yX7_sight ∈ TB := tb_of 319 (by decide +kernel) (by decide +kernel)
theorem im_yX7_sight : Cond.instanceMethod yX7_sight ∈ TB := tb_of 320 (by decide +kernel) (by decide +kernel)
theorem se_yX7_sight : Cond.selects RX7 yX7_sight yX7_sight ∈ TB := tb_of 321 (by decide +kernel) (by decide +kernel)
theorem co_yX7_sight : Cond.code yX7_sight prog_1_method_8_code 3 (Option.some Jvm.ClassFile.FieldType.int) ∈ TB := tb_of 322 (by decide +kernel) (by decide +kernel)
theorem ml_RX7_73 : Cond.methodLink RX7 73 yX6_takeSight ∈ TB := tb_of 323 (by decide +kernel) (by decide +kernel)
theorem im_yX6_takeSight : Cond.instanceMethod yX6_takeSight ∈ TB := tb_of 324 (by decide +kernel) (by decide +kernel)
theorem se_yX6_takeSight : Cond.selects RX6 yX6_takeSight yX6_takeSight ∈ TB := tb_of 325 (by decide +kernel) (by decide +kernel)
theorem co_yX6_takeSight : Cond.code yX6_takeSight prog_8_method_9_code 4 (Option.some Jvm.ClassFile.FieldType.int) ∈ TB := tb_of 326 (by decide +kernel) (by decide +kernel)
theorem ml_RX6_125 : Cond.methodLink RX6 125 yX6_tellSight ∈ TB := tb_of 327 (by decide +kernel) (by decide +kernel)
theorem im_yX6_tellSight : Cond.instanceMethod yX6_tellSight ∈ TB := tb_of 328 (by decide +kernel) (by decide +kernel)
theorem se_yX6_tellSight : Cond.selects RX6 yX6_tellSight yX6_tellSight ∈ TB := tb_of 329 (by decide +kernel) (by decide +kernel)
theorem co_yX6_tellSight : Cond.code yX6_tellSight prog_8_method_10_code 4 (Option.some Jvm.ClassFile.FieldType.int) ∈ TB := tb_of 330 (by decide +kernel) (by decide +kernel)
theorem ml_RX6_135 : Cond.methodLink RX6 135 yX6_reasonAgainst ∈ TB := tb_of 331 (by decide +kernel) (by decide +kernel)
theorem im_yX6_reasonAgainst : Cond.instanceMethod yX6_reasonAgainst ∈ TB := tb_of 332 (by decide +kernel) (by decide +kernel)
theorem se_yX6_reasonAgainst : Cond.selects RX6 yX6_reasonAgainst yX6_reasonAgainst ∈ TB := tb_of 333 (by decide +kernel) (by decide +kernel)
theorem co_yX6_reasonAgainst : Cond.code yX6_reasonAgainst prog_8_method_11_code 3 (Option.some Jvm.ClassFile.FieldType.int) ∈ TB := tb_of 334 (by decide +kernel) (by decide +kernel)
theorem ml_RX6_141 : Cond.methodLink RX6 141 yX6_heightOf ∈ TB := tb_of 335 (by decide +kernel) (by decide +kernel)
theorem im_yX6_heightOf : Cond.instanceMethod yX6_heightOf ∈ TB := tb_of 337 (by decide +kernel) (by decide +kernel)
theorem co_yX6_heightOf : Cond.code yX6_heightOf prog_8_method_13_code 2 (Option.some Jvm.ClassFile.FieldType.int) ∈ TB := tb_of 338 (by decide +kernel) (by decide +kernel)
theorem ml_RX6_147 : Cond.methodLink RX6 147 Lib.Math.abs.name ∈ TB := tb_of 339 (by decide +kernel) (by decide +kernel)
theorem st_Lib_Math_abs_name : Cond.static Lib.Math.abs.name ∈ TB := tb_of 340 (by decide +kernel) (by decide +kernel)
theorem co_Lib_Math_abs_name : Cond.code Lib.Math.abs.name prog_11_method_59_code 1 (Option.some Jvm.ClassFile.FieldType.int) ∈ TB := tb_of 341 (by decide +kernel) (by decide +kernel)
theorem ml_RX6_138 : Cond.methodLink RX6 138 yX6_reckon ∈ TB := tb_of 342 (by decide +kernel) (by decide +kernel)
theorem im_yX6_reckon : Cond.instanceMethod yX6_reckon ∈ TB := tb_of 344 (by decide +kernel) (by decide +kernel)
theorem co_yX6_reckon : Cond.code yX6_reckon prog_8_method_12_code 6 (Option.some Jvm.ClassFile.FieldType.int) ∈ TB := tb_of 345 (by decide +kernel) (by decide +kernel)
theorem ml_RX6_144 : Cond.methodLink RX6 144 yX1_errorOfNextSight ∈ TB := tb_of 346 (by decide +kernel) (by decide +kernel)
theorem im_yX1_errorOfNextSight : Cond.instanceMethod yX1_errorOfNextSight ∈ TB := tb_of 347 (by decide +kernel) (by decide +kernel)
theorem se_yX1_errorOfNextSight : Cond.selects RX1 yX1_errorOfNextSight yX1_errorOfNextSight ∈ TB := tb_of 348 (by decide +kernel) (by decide +kernel)
theorem co_yX1_errorOfNextSight : Cond.code yX1_errorOfNextSight prog_3_method_4_code 3 (Option.some Jvm.ClassFile.FieldType.int) ∈ TB := tb_of 349 (by decide +kernel) (by decide +kernel)
theorem st_yX7_keptOnEarth : Cond.static yX7_keptOnEarth ∈ TB := tb_of 351 (by decide +kernel) (by decide +kernel)
theorem co_yX7_keptOnEarth : Cond.code yX7_keptOnEarth prog_1_method_33_code 1 (Option.some Jvm.ClassFile.FieldType.int) ∈ TB := tb_of 352 (by decide +kernel) (by decide +kernel)
theorem ml_RX7_188 : Cond.methodLink RX7 188 Lib.Math.min.name ∈ TB := tb_of 353 (by decide +kernel) (by decide +kernel)
theorem st_Lib_Math_min_name : Cond.static Lib.Math.min.name ∈ TB := tb_of 354 (by decide +kernel) (by decide +kernel)
theorem co_Lib_Math_min_name : Cond.code Lib.Math.min.name prog_11_method_69_code 2 (Option.some Jvm.ClassFile.FieldType.int) ∈ TB := tb_of 355 (by decide +kernel) (by decide +kernel)
theorem ml_RX7_193 : Cond.methodLink RX7 193 Lib.Math.max.name ∈ TB := tb_of 356 (by decide +kernel) (by decide +kernel)
theorem st_Lib_Math_max_name : Cond.static Lib.Math.max.name ∈ TB := tb_of 357 (by decide +kernel) (by decide +kernel)
theorem co_Lib_Math_max_name : Cond.code Lib.Math.max.name prog_11_method_65_code 2 (Option.some Jvm.ClassFile.FieldType.int) ∈ TB := tb_of 358 (by decide +kernel) (by decide +kernel)
theorem ml_RL_44 : Cond.methodLink RL 44 yX7_agree ∈ TB := tb_of 359 (by decide +kernel) (by decide +kernel)
theorem im_yX7_agree : Cond.instanceMethod yX7_agree ∈ TB := tb_of 360 (by decide +kernel) (by decide +kernel)
theorem se_yX7_agree : Cond.selects RX7 yX7_agree yX7_agree ∈ TB := tb_of 361 (by decide +kernel) (by decide +kernel)
theorem co_yX7_agree : Cond.code yX7_agree prog_1_method_9_code 1 (Option.some Jvm.ClassFile.FieldType.int) ∈ TB := tb_of 362 (by decide +kernel) (by decide +kernel)
theorem ml_RX7_76 : Cond.methodLink RX7 76 yX6_agreeOnMedian ∈ TB := tb_of 363 (by decide +kernel) (by decide +kernel)
theorem im_yX6_agreeOnMedian : Cond.instanceMethod yX6_agreeOnMedian ∈ TB := tb_of 364 (by decide +kernel) (by decide +kernel)
theorem se_yX6_agreeOnMedian : Cond.selects RX6 yX6_agreeOnMedian yX6_agreeOnMedian ∈ TB := tb_of 365 (by decide +kernel) (by decide +kernel)
theorem co_yX6_agreeOnMedian : Cond.code yX6_agreeOnMedian prog_8_method_14_code 2 (Option.some Jvm.ClassFile.FieldType.int) ∈ TB := tb_of 366 (by decide +kernel) (by decide +kernel)
theorem ml_RX6_158 : Cond.methodLink RX6 158 yX1_middleWithout ∈ TB := tb_of 367 (by decide +kernel) (by decide +kernel)
theorem im_yX1_middleWithout : Cond.instanceMethod yX1_middleWithout ∈ TB := tb_of 368 (by decide +kernel) (by decide +kernel)
theorem se_yX1_middleWithout : Cond.selects RX1 yX1_middleWithout yX1_middleWithout ∈ TB := tb_of 369 (by decide +kernel) (by decide +kernel)
theorem co_yX1_middleWithout : Cond.code yX1_middleWithout prog_3_method_5_code 4 (Option.some Jvm.ClassFile.FieldType.int) ∈ TB := tb_of 370 (by decide +kernel) (by decide +kernel)
theorem ml_RX1_46 : Cond.methodLink RX1 46 yX1_takesPart ∈ TB := tb_of 371 (by decide +kernel) (by decide +kernel)
theorem im_yX1_takesPart : Cond.instanceMethod yX1_takesPart ∈ TB := tb_of 373 (by decide +kernel) (by decide +kernel)
theorem co_yX1_takesPart : Cond.code yX1_takesPart prog_3_method_8_code 2 (Option.some Jvm.ClassFile.FieldType.boolean) ∈ TB := tb_of 374 (by decide +kernel) (by decide +kernel)
theorem ml_RX1_50 : Cond.methodLink RX1 50 yX1_rankWithout ∈ TB := tb_of 375 (by decide +kernel) (by decide +kernel)
theorem im_yX1_rankWithout : Cond.instanceMethod yX1_rankWithout ∈ TB := tb_of 377 (by decide +kernel) (by decide +kernel)
theorem co_yX1_rankWithout : Cond.code yX1_rankWithout prog_3_method_6_code 5 (Option.some Jvm.ClassFile.FieldType.int) ∈ TB := tb_of 378 (by decide +kernel) (by decide +kernel)
theorem ml_RX1_54 : Cond.methodLink RX1 54 yX1_standsBefore ∈ TB := tb_of 379 (by decide +kernel) (by decide +kernel)
theorem im_yX1_standsBefore : Cond.instanceMethod yX1_standsBefore ∈ TB := tb_of 381 (by decide +kernel) (by decide +kernel)
theorem co_yX1_standsBefore : Cond.code yX1_standsBefore prog_3_method_7_code 3 (Option.some Jvm.ClassFile.FieldType.boolean) ∈ TB := tb_of 382 (by decide +kernel) (by decide +kernel)
theorem ml_RX6_164 : Cond.methodLink RX6 164 yX1_quarrelOver ∈ TB := tb_of 383 (by decide +kernel) (by decide +kernel)
theorem im_yX1_quarrelOver : Cond.instanceMethod yX1_quarrelOver ∈ TB := tb_of 384 (by decide +kernel) (by decide +kernel)
theorem se_yX1_quarrelOver : Cond.selects RX1 yX1_quarrelOver yX1_quarrelOver ∈ TB := tb_of 385 (by decide +kernel) (by decide +kernel)
theorem co_yX1_quarrelOver : Cond.code yX1_quarrelOver prog_3_method_9_code 5 (Option.some Jvm.ClassFile.FieldType.int) ∈ TB := tb_of 386 (by decide +kernel) (by decide +kernel)
theorem ml_RX1_58 : Cond.methodLink RX1 58 Lib.Math.abs.name ∈ TB := tb_of 387 (by decide +kernel) (by decide +kernel)
theorem ml_RX1_63 : Cond.methodLink RX1 63 yX1_makeAngrier ∈ TB := tb_of 388 (by decide +kernel) (by decide +kernel)
theorem im_yX1_makeAngrier : Cond.instanceMethod yX1_makeAngrier ∈ TB := tb_of 390 (by decide +kernel) (by decide +kernel)
theorem co_yX1_makeAngrier : Cond.code yX1_makeAngrier prog_3_method_10_code 2 (Option.none : Option Jvm.ClassFile.FieldType) ∈ TB := tb_of 391 (by decide +kernel) (by decide +kernel)
theorem ml_RL_49 : Cond.methodLink RL 49 yX7_sail ∈ TB := tb_of 392 (by decide +kernel) (by decide +kernel)
theorem im_yX7_sail : Cond.instanceMethod yX7_sail ∈ TB := tb_of 393 (by decide +kernel) (by decide +kernel)
theorem se_yX7_sail : Cond.selects RX7 yX7_sail yX7_sail ∈ TB := tb_of 394 (by decide +kernel) (by decide +kernel)
theorem co_yX7_sail : Cond.code yX7_sail prog_1_method_10_code 2 (Option.some Jvm.ClassFile.FieldType.int) ∈ TB := tb_of 395 (by decide +kernel) (by decide +kernel)
theorem ml_RX7_80 : Cond.methodLink RX7 80 yX6_sailHours ∈ TB := tb_of 396 (by decide +kernel) (by decide +kernel)
theorem im_yX6_sailHours : Cond.instanceMethod yX6_sailHours ∈ TB := tb_of 397 (by decide +kernel) (by decide +kernel)
theorem se_yX6_sailHours : Cond.selects RX6 yX6_sailHours yX6_sailHours ∈ TB := tb_of 398 (by decide +kernel) (by decide +kernel)
theorem co_yX6_sailHours : Cond.code yX6_sailHours prog_8_method_15_code 3 (Option.some Jvm.ClassFile.FieldType.int) ∈ TB := tb_of 399 (by decide +kernel) (by decide +kernel)
theorem ml_RX6_170 : Cond.methodLink RX6 170 yX0_sailOneHour ∈ TB := tb_of 400 (by decide +kernel) (by decide +kernel)
theorem im_yX0_sailOneHour : Cond.instanceMethod yX0_sailOneHour ∈ TB := tb_of 401 (by decide +kernel) (by decide +kernel)
theorem se_yX0_sailOneHour : Cond.selects RX0 yX0_sailOneHour yX0_sailOneHour ∈ TB := tb_of 402 (by decide +kernel) (by decide +kernel)
theorem co_yX0_sailOneHour : Cond.code yX0_sailOneHour prog_2_method_3_code 4 (Option.none : Option Jvm.ClassFile.FieldType) ∈ TB := tb_of 403 (by decide +kernel) (by decide +kernel)
theorem ml_RX0_24 : Cond.methodLink RX0 24 Lib.Math.min.name ∈ TB := tb_of 404 (by decide +kernel) (by decide +kernel)
theorem ml_RX0_30 : Cond.methodLink RX0 30 Lib.Math.max.name ∈ TB := tb_of 405 (by decide +kernel) (by decide +kernel)
theorem ml_RL_53 : Cond.methodLink RL 53 yX7_night ∈ TB := tb_of 407 (by decide +kernel) (by decide +kernel)
theorem im_yX7_night : Cond.instanceMethod yX7_night ∈ TB := tb_of 408 (by decide +kernel) (by decide +kernel)
theorem se_yX7_night : Cond.selects RX7 yX7_night yX7_night ∈ TB := tb_of 409 (by decide +kernel) (by decide +kernel)
theorem co_yX7_night : Cond.code yX7_night prog_1_method_11_code 1 (Option.some Jvm.ClassFile.FieldType.int) ∈ TB := tb_of 410 (by decide +kernel) (by decide +kernel)
theorem ml_RX7_83 : Cond.methodLink RX7 83 yX6_endNight ∈ TB := tb_of 411 (by decide +kernel) (by decide +kernel)
theorem im_yX6_endNight : Cond.instanceMethod yX6_endNight ∈ TB := tb_of 412 (by decide +kernel) (by decide +kernel)
theorem se_yX6_endNight : Cond.selects RX6 yX6_endNight yX6_endNight ∈ TB := tb_of 413 (by decide +kernel) (by decide +kernel)
theorem co_yX6_endNight : Cond.code yX6_endNight prog_8_method_16_code 1 (Option.some Jvm.ClassFile.FieldType.int) ∈ TB := tb_of 414 (by decide +kernel) (by decide +kernel)
theorem st_yX7_toldLatitude : Cond.static yX7_toldLatitude ∈ TB := tb_of 416 (by decide +kernel) (by decide +kernel)
theorem co_yX7_toldLatitude : Cond.code yX7_toldLatitude prog_1_method_34_code 1 (Option.some Jvm.ClassFile.FieldType.int) ∈ TB := tb_of 417 (by decide +kernel) (by decide +kernel)
theorem ml_RX6_177 : Cond.methodLink RX6 177 yX3_write ∈ TB := tb_of 418 (by decide +kernel) (by decide +kernel)
theorem im_yX3_write : Cond.instanceMethod yX3_write ∈ TB := tb_of 419 (by decide +kernel) (by decide +kernel)
theorem se_yX3_write : Cond.selects RX3 yX3_write yX3_write ∈ TB := tb_of 420 (by decide +kernel) (by decide +kernel)
theorem co_yX3_write : Cond.code yX3_write prog_5_method_3_code 6 (Option.none : Option Jvm.ClassFile.FieldType) ∈ TB := tb_of 421 (by decide +kernel) (by decide +kernel)
theorem ml_RX6_181 : Cond.methodLink RX6 181 yX1_endNight ∈ TB := tb_of 422 (by decide +kernel) (by decide +kernel)
theorem im_yX1_endNight : Cond.instanceMethod yX1_endNight ∈ TB := tb_of 423 (by decide +kernel) (by decide +kernel)
theorem se_yX1_endNight : Cond.selects RX1 yX1_endNight yX1_endNight ∈ TB := tb_of 424 (by decide +kernel) (by decide +kernel)
theorem co_yX1_endNight : Cond.code yX1_endNight prog_3_method_11_code 2 (Option.none : Option Jvm.ClassFile.FieldType) ∈ TB := tb_of 425 (by decide +kernel) (by decide +kernel)
theorem ml_RL_57 : Cond.methodLink RL 57 yX7_of ∈ TB := tb_of 426 (by decide +kernel) (by decide +kernel)
theorem im_yX7_of : Cond.instanceMethod yX7_of ∈ TB := tb_of 427 (by decide +kernel) (by decide +kernel)
theorem se_yX7_of : Cond.selects RX7 yX7_of yX7_of ∈ TB := tb_of 428 (by decide +kernel) (by decide +kernel)
theorem co_yX7_of : Cond.code yX7_of prog_1_method_12_code 3 (Option.some Jvm.ClassFile.FieldType.int) ∈ TB := tb_of 429 (by decide +kernel) (by decide +kernel)
theorem ml_RX7_86 : Cond.methodLink RX7 86 yX7_isNavigator ∈ TB := tb_of 430 (by decide +kernel) (by decide +kernel)
theorem ml_RX7_94 : Cond.methodLink RX7 94 yX1_factOf ∈ TB := tb_of 431 (by decide +kernel) (by decide +kernel)
theorem im_yX1_factOf : Cond.instanceMethod yX1_factOf ∈ TB := tb_of 432 (by decide +kernel) (by decide +kernel)
theorem se_yX1_factOf : Cond.selects RX1 yX1_factOf yX1_factOf ∈ TB := tb_of 433 (by decide +kernel) (by decide +kernel)
theorem co_yX1_factOf : Cond.code yX1_factOf prog_3_method_3_code 3 (Option.some Jvm.ClassFile.FieldType.int) ∈ TB := tb_of 434 (by decide +kernel) (by decide +kernel)
theorem ml_RX1_43 : Cond.methodLink RX1 43 yX1_errorOfNextSight ∈ TB := tb_of 436 (by decide +kernel) (by decide +kernel)
theorem ml_RL_61 : Cond.methodLink RL 61 yX7_ofStar ∈ TB := tb_of 437 (by decide +kernel) (by decide +kernel)
theorem im_yX7_ofStar : Cond.instanceMethod yX7_ofStar ∈ TB := tb_of 438 (by decide +kernel) (by decide +kernel)
theorem se_yX7_ofStar : Cond.selects RX7 yX7_ofStar yX7_ofStar ∈ TB := tb_of 439 (by decide +kernel) (by decide +kernel)
theorem co_yX7_ofStar : Cond.code yX7_ofStar prog_1_method_13_code 3 (Option.some Jvm.ClassFile.FieldType.int) ∈ TB := tb_of 440 (by decide +kernel) (by decide +kernel)
theorem ml_RX7_103 : Cond.methodLink RX7 103 yX5_hasStar ∈ TB := tb_of 441 (by decide +kernel) (by decide +kernel)
theorem ml_RX7_108 : Cond.methodLink RX7 108 yX6_factOfStar ∈ TB := tb_of 442 (by decide +kernel) (by decide +kernel)
theorem im_yX6_factOfStar : Cond.instanceMethod yX6_factOfStar ∈ TB := tb_of 443 (by decide +kernel) (by decide +kernel)
theorem se_yX6_factOfStar : Cond.selects RX6 yX6_factOfStar yX6_factOfStar ∈ TB := tb_of 444 (by decide +kernel) (by decide +kernel)
theorem co_yX6_factOfStar : Cond.code yX6_factOfStar prog_8_method_17_code 3 (Option.some Jvm.ClassFile.FieldType.int) ∈ TB := tb_of 445 (by decide +kernel) (by decide +kernel)
theorem ml_RX6_184 : Cond.methodLink RX6 184 yX6_thoseWhoCanSight ∈ TB := tb_of 446 (by decide +kernel) (by decide +kernel)
theorem im_yX6_thoseWhoCanSight : Cond.instanceMethod yX6_thoseWhoCanSight ∈ TB := tb_of 448 (by decide +kernel) (by decide +kernel)
theorem co_yX6_thoseWhoCanSight : Cond.code yX6_thoseWhoCanSight prog_8_method_18_code 4 (Option.some Jvm.ClassFile.FieldType.int) ∈ TB := tb_of 449 (by decide +kernel) (by decide +kernel)
theorem ml_RL_65 : Cond.methodLink RL 65 yX7_log ∈ TB := tb_of 450 (by decide +kernel) (by decide +kernel)
theorem im_yX7_log : Cond.instanceMethod yX7_log ∈ TB := tb_of 451 (by decide +kernel) (by decide +kernel)
theorem se_yX7_log : Cond.selects RX7 yX7_log yX7_log ∈ TB := tb_of 452 (by decide +kernel) (by decide +kernel)
theorem co_yX7_log : Cond.code yX7_log prog_1_method_14_code 3 (Option.some Jvm.ClassFile.FieldType.int) ∈ TB := tb_of 453 (by decide +kernel) (by decide +kernel)
theorem ml_RX7_111 : Cond.methodLink RX7 111 yX6_factOfLog ∈ TB := tb_of 454 (by decide +kernel) (by decide +kernel)
theorem im_yX6_factOfLog : Cond.instanceMethod yX6_factOfLog ∈ TB := tb_of 455 (by decide +kernel) (by decide +kernel)
theorem se_yX6_factOfLog : Cond.selects RX6 yX6_factOfLog yX6_factOfLog ∈ TB := tb_of 456 (by decide +kernel) (by decide +kernel)
theorem co_yX6_factOfLog : Cond.code yX6_factOfLog prog_8_method_19_code 3 (Option.some Jvm.ClassFile.FieldType.int) ∈ TB := tb_of 457 (by decide +kernel) (by decide +kernel)
theorem ml_RX6_187 : Cond.methodLink RX6 187 Lib.Math.min.name ∈ TB := tb_of 458 (by decide +kernel) (by decide +kernel)
theorem ml_RX6_190 : Cond.methodLink RX6 190 yX3_read ∈ TB := tb_of 459 (by decide +kernel) (by decide +kernel)
theorem im_yX3_read : Cond.instanceMethod yX3_read ∈ TB := tb_of 460 (by decide +kernel) (by decide +kernel)
theorem se_yX3_read : Cond.selects RX3 yX3_read yX3_read ∈ TB := tb_of 461 (by decide +kernel) (by decide +kernel)
theorem co_yX3_read : Cond.code yX3_read prog_5_method_4_code 3 (Option.some Jvm.ClassFile.FieldType.int) ∈ TB := tb_of 462 (by decide +kernel) (by decide +kernel)
theorem ml_RL_69 : Cond.methodLink RL 69 yX7_count ∈ TB := tb_of 463 (by decide +kernel) (by decide +kernel)
theorem im_yX7_count : Cond.instanceMethod yX7_count ∈ TB := tb_of 464 (by decide +kernel) (by decide +kernel)
theorem se_yX7_count : Cond.selects RX7 yX7_count yX7_count ∈ TB := tb_of 465 (by decide +kernel) (by decide +kernel)
theorem co_yX7_count : Cond.code yX7_count prog_1_method_15_code 2 (Option.some Jvm.ClassFile.FieldType.int) ∈ TB := tb_of 466 (by decide +kernel) (by decide +kernel)
theorem ml_RX7_121 : Cond.methodLink RX7 121 yX6_numberOf ∈ TB := tb_of 467 (by decide +kernel) (by decide +kernel)
theorem im_yX6_numberOf : Cond.instanceMethod yX6_numberOf ∈ TB := tb_of 468 (by decide +kernel) (by decide +kernel)
theorem se_yX6_numberOf : Cond.selects RX6 yX6_numberOf yX6_numberOf ∈ TB := tb_of 469 (by decide +kernel) (by decide +kernel)
theorem co_yX6_numberOf : Cond.code yX6_numberOf prog_8_method_20_code 2 (Option.some Jvm.ClassFile.FieldType.int) ∈ TB := tb_of 470 (by decide +kernel) (by decide +kernel)
theorem ml_RX6_193 : Cond.methodLink RX6 193 yX1_sightsOfAll ∈ TB := tb_of 471 (by decide +kernel) (by decide +kernel)
theorem im_yX1_sightsOfAll : Cond.instanceMethod yX1_sightsOfAll ∈ TB := tb_of 472 (by decide +kernel) (by decide +kernel)
theorem se_yX1_sightsOfAll : Cond.selects RX1 yX1_sightsOfAll yX1_sightsOfAll ∈ TB := tb_of 473 (by decide +kernel) (by decide +kernel)
theorem co_yX1_sightsOfAll : Cond.code yX1_sightsOfAll prog_3_method_12_code 3 (Option.some Jvm.ClassFile.FieldType.int) ∈ TB := tb_of 474 (by decide +kernel) (by decide +kernel)
theorem ml_RX6_197 : Cond.methodLink RX6 197 yX1_thoseWithEstimate ∈ TB := tb_of 475 (by decide +kernel) (by decide +kernel)
theorem im_yX1_thoseWithEstimate : Cond.instanceMethod yX1_thoseWithEstimate ∈ TB := tb_of 476 (by decide +kernel) (by decide +kernel)
theorem se_yX1_thoseWithEstimate : Cond.selects RX1 yX1_thoseWithEstimate yX1_thoseWithEstimate ∈ TB := tb_of 477 (by decide +kernel) (by decide +kernel)
theorem co_yX1_thoseWithEstimate : Cond.code yX1_thoseWithEstimate prog_3_method_13_code 3 (Option.some Jvm.ClassFile.FieldType.int) ∈ TB := tb_of 478 (by decide +kernel) (by decide +kernel)
theorem ml_RX6_200 : Cond.methodLink RX6 200 yX1_thoseWhoSulk ∈ TB := tb_of 479 (by decide +kernel) (by decide +kernel)
theorem im_yX1_thoseWhoSulk : Cond.instanceMethod yX1_thoseWhoSulk ∈ TB := tb_of 480 (by decide +kernel) (by decide +kernel)
theorem se_yX1_thoseWhoSulk : Cond.selects RX1 yX1_thoseWhoSulk yX1_thoseWhoSulk ∈ TB := tb_of 481 (by decide +kernel) (by decide +kernel)
theorem co_yX1_thoseWhoSulk : Cond.code yX1_thoseWhoSulk prog_3_method_14_code 3 (Option.some Jvm.ClassFile.FieldType.int) ∈ TB := tb_of 482 (by decide +kernel) (by decide +kernel)
theorem ml_RX6_203 : Cond.methodLink RX6 203 yX0_mistake ∈ TB := tb_of 483 (by decide +kernel) (by decide +kernel)
theorem im_yX0_mistake : Cond.instanceMethod yX0_mistake ∈ TB := tb_of 484 (by decide +kernel) (by decide +kernel)
theorem se_yX0_mistake : Cond.selects RX0 yX0_mistake yX0_mistake ∈ TB := tb_of 485 (by decide +kernel) (by decide +kernel)
theorem co_yX0_mistake : Cond.code yX0_mistake prog_2_method_5_code 1 (Option.some Jvm.ClassFile.FieldType.int) ∈ TB := tb_of 486 (by decide +kernel) (by decide +kernel)
theorem ml_RX0_37 : Cond.methodLink RX0 37 Lib.Math.abs.name ∈ TB := tb_of 487 (by decide +kernel) (by decide +kernel)
theorem ml_RL_73 : Cond.methodLink RL 73 yX7_why ∈ TB := tb_of 488 (by decide +kernel) (by decide +kernel)
theorem im_yX7_why : Cond.instanceMethod yX7_why ∈ TB := tb_of 489 (by decide +kernel) (by decide +kernel)
theorem se_yX7_why : Cond.selects RX7 yX7_why yX7_why ∈ TB := tb_of 490 (by decide +kernel) (by decide +kernel)
theorem co_yX7_why : Cond.code yX7_why prog_1_method_16_code 3 (Option.some Jvm.ClassFile.FieldType.int) ∈ TB := tb_of 491 (by decide +kernel) (by decide +kernel)
theorem ml_RX7_124 : Cond.methodLink RX7 124 yX6_reasonAgainst ∈ TB := tb_of 492 (by decide +kernel) (by decide +kernel)
theorem ml_RL_77 : Cond.methodLink RL 77 yX7_ifSighted ∈ TB := tb_of 493 (by decide +kernel) (by decide +kernel)
theorem im_yX7_ifSighted : Cond.instanceMethod yX7_ifSighted ∈ TB := tb_of 494 (by decide +kernel) (by decide +kernel)
theorem se_yX7_ifSighted : Cond.selects RX7 yX7_ifSighted yX7_ifSighted ∈ TB := tb_of 495 (by decide +kernel) (by decide +kernel)
theorem co_yX7_ifSighted : Cond.code yX7_ifSighted prog_1_method_17_code 3 (Option.some Jvm.ClassFile.FieldType.int) ∈ TB := tb_of 496 (by decide +kernel) (by decide +kernel)
theorem ml_RX7_127 : Cond.methodLink RX7 127 yX6_tellSight ∈ TB := tb_of 497 (by decide +kernel) (by decide +kernel)
theorem ml_RL_81 : Cond.methodLink RL 81 yX7_median ∈ TB := tb_of 498 (by decide +kernel) (by decide +kernel)
theorem im_yX7_median : Cond.instanceMethod yX7_median ∈ TB := tb_of 499 (by decide +kernel) (by decide +kernel)
theorem se_yX7_median : Cond.selects RX7 yX7_median yX7_median ∈ TB := tb_of 500 (by decide +kernel) (by decide +kernel)
theorem co_yX7_median : Cond.code yX7_median prog_1_method_18_code 3 (Option.some Jvm.ClassFile.FieldType.int) ∈ TB := tb_of 501 (by decide +kernel) (by decide +kernel)
theorem ml_RX7_130 : Cond.methodLink RX7 130 yX1_middleWithout ∈ TB := tb_of 502 (by decide +kernel) (by decide +kernel)
theorem ml_RL_85 : Cond.methodLink RL 85 yX7_bestStar ∈ TB := tb_of 503 (by decide +kernel) (by decide +kernel)
theorem im_yX7_bestStar : Cond.instanceMethod yX7_bestStar ∈ TB := tb_of 504 (by decide +kernel) (by decide +kernel)
theorem se_yX7_bestStar : Cond.selects RX7 yX7_bestStar yX7_bestStar ∈ TB := tb_of 505 (by decide +kernel) (by decide +kernel)
theorem co_yX7_bestStar : Cond.code yX7_bestStar prog_1_method_19_code 1 (Option.some Jvm.ClassFile.FieldType.int) ∈ TB := tb_of 506 (by decide +kernel) (by decide +kernel)
theorem ml_RX7_133 : Cond.methodLink RX7 133 yX6_highestStar ∈ TB := tb_of 507 (by decide +kernel) (by decide +kernel)
theorem im_yX6_highestStar : Cond.instanceMethod yX6_highestStar ∈ TB := tb_of 508 (by decide +kernel) (by decide +kernel)
theorem se_yX6_highestStar : Cond.selects RX6 yX6_highestStar yX6_highestStar ∈ TB := tb_of 509 (by decide +kernel) (by decide +kernel)
theorem co_yX6_highestStar : Cond.code yX6_highestStar prog_8_method_21_code 4 (Option.some Jvm.ClassFile.FieldType.int) ∈ TB := tb_of 510 (by decide +kernel) (by decide +kernel)
theorem ml_RL_89 : Cond.methodLink RL 89 yX7_nearest ∈ TB := tb_of 511 (by decide +kernel) (by decide +kernel)
theorem im_yX7_nearest : Cond.instanceMethod yX7_nearest ∈ TB := tb_of 512 (by decide +kernel) (by decide +kernel)
theorem se_yX7_nearest : Cond.selects RX7 yX7_nearest yX7_nearest ∈ TB := tb_of 513 (by decide +kernel) (by decide +kernel)
theorem co_yX7_nearest : Cond.code yX7_nearest prog_1_method_20_code 2 (Option.some Jvm.ClassFile.FieldType.int) ∈ TB := tb_of 514 (by decide +kernel) (by decide +kernel)
theorem ml_RX7_136 : Cond.methodLink RX7 136 yX6_nearestNavigator ∈ TB := tb_of 515 (by decide +kernel) (by decide +kernel)
theorem im_yX6_nearestNavigator : Cond.instanceMethod yX6_nearestNavigator ∈ TB := tb_of 516 (by decide +kernel) (by decide +kernel)
theorem se_yX6_nearestNavigator : Cond.selects RX6 yX6_nearestNavigator yX6_nearestNavigator ∈ TB := tb_of 517 (by decide +kernel) (by decide +kernel)
theorem co_yX6_nearestNavigator : Cond.code yX6_nearestNavigator prog_8_method_22_code 6 (Option.some Jvm.ClassFile.FieldType.int) ∈ TB := tb_of 518 (by decide +kernel) (by decide +kernel)
theorem ml_RL_93 : Cond.methodLink RL 93 yX7_arrivesIn ∈ TB := tb_of 519 (by decide +kernel) (by decide +kernel)
theorem im_yX7_arrivesIn : Cond.instanceMethod yX7_arrivesIn ∈ TB := tb_of 520 (by decide +kernel) (by decide +kernel)
theorem se_yX7_arrivesIn : Cond.selects RX7 yX7_arrivesIn yX7_arrivesIn ∈ TB := tb_of 521 (by decide +kernel) (by decide +kernel)
theorem co_yX7_arrivesIn : Cond.code yX7_arrivesIn prog_1_method_21_code 2 (Option.some Jvm.ClassFile.FieldType.int) ∈ TB := tb_of 522 (by decide +kernel) (by decide +kernel)
theorem ml_RX7_139 : Cond.methodLink RX7 139 yX6_hoursToGoal ∈ TB := tb_of 523 (by decide +kernel) (by decide +kernel)
theorem im_yX6_hoursToGoal : Cond.instanceMethod yX6_hoursToGoal ∈ TB := tb_of 524 (by decide +kernel) (by decide +kernel)
theorem se_yX6_hoursToGoal : Cond.selects RX6 yX6_hoursToGoal yX6_hoursToGoal ∈ TB := tb_of 525 (by decide +kernel) (by decide +kernel)
theorem co_yX6_hoursToGoal : Cond.code yX6_hoursToGoal prog_8_method_23_code 4 (Option.some Jvm.ClassFile.FieldType.int) ∈ TB := tb_of 526 (by decide +kernel) (by decide +kernel)
theorem ml_RX6_206 : Cond.methodLink RX6 206 yX0_distanceToGoal ∈ TB := tb_of 527 (by decide +kernel) (by decide +kernel)
theorem im_yX0_distanceToGoal : Cond.instanceMethod yX0_distanceToGoal ∈ TB := tb_of 528 (by decide +kernel) (by decide +kernel)
theorem se_yX0_distanceToGoal : Cond.selects RX0 yX0_distanceToGoal yX0_distanceToGoal ∈ TB := tb_of 529 (by decide +kernel) (by decide +kernel)
theorem co_yX0_distanceToGoal : Cond.code yX0_distanceToGoal prog_2_method_4_code 1 (Option.some Jvm.ClassFile.FieldType.int) ∈ TB := tb_of 530 (by decide +kernel) (by decide +kernel)
theorem ml_RL_99 : Cond.methodLink RL 99 yX7_put ∈ TB := tb_of 531 (by decide +kernel) (by decide +kernel)
theorem im_yX7_put : Cond.instanceMethod yX7_put ∈ TB := tb_of 532 (by decide +kernel) (by decide +kernel)
theorem se_yX7_put : Cond.selects RX7 yX7_put yX7_put ∈ TB := tb_of 533 (by decide +kernel) (by decide +kernel)
theorem co_yX7_put : Cond.code yX7_put prog_1_method_22_code 3 (Option.some Jvm.ClassFile.FieldType.int) ∈ TB := tb_of 534 (by decide +kernel) (by decide +kernel)
theorem ml_RX7_143 : Cond.methodLink RX7 143 yX4_append ∈ TB := tb_of 535 (by decide +kernel) (by decide +kernel)
theorem im_yX4_append : Cond.instanceMethod yX4_append ∈ TB := tb_of 536 (by decide +kernel) (by decide +kernel)
theorem se_yX4_append : Cond.selects RX4 yX4_append yX4_append ∈ TB := tb_of 537 (by decide +kernel) (by decide +kernel)
theorem co_yX4_append : Cond.code yX4_append prog_6_method_2_code 5 (Option.some Jvm.ClassFile.FieldType.int) ∈ TB := tb_of 538 (by decide +kernel) (by decide +kernel)
theorem ml_RX4_31 : Cond.methodLink RX4 31 yX4_countSigns ∈ TB := tb_of 539 (by decide +kernel) (by decide +kernel)
theorem st_yX4_countSigns : Cond.static yX4_countSigns ∈ TB := tb_of 540 (by decide +kernel) (by decide +kernel)
theorem co_yX4_countSigns : Cond.code yX4_countSigns prog_6_method_3_code 7 (Option.some Jvm.ClassFile.FieldType.int) ∈ TB := tb_of 541 (by decide +kernel) (by decide +kernel)
theorem kl_RX4_35 : Cond.constantLong RX4 35 (255 : Int64) ∈ TB := tb_of 542 (by decide +kernel) (by decide +kernel)
theorem kl_RX4_37 : Cond.constantLong RX4 37 (33 : Int64) ∈ TB := tb_of 543 (by decide +kernel) (by decide +kernel)
theorem kl_RX4_39 : Cond.constantLong RX4 39 (126 : Int64) ∈ TB := tb_of 544 (by decide +kernel) (by decide +kernel)
theorem ml_RL_104 : Cond.methodLink RL 104 yX7_wipe ∈ TB := tb_of 545 (by decide +kernel) (by decide +kernel)
theorem im_yX7_wipe : Cond.instanceMethod yX7_wipe ∈ TB := tb_of 546 (by decide +kernel) (by decide +kernel)
theorem se_yX7_wipe : Cond.selects RX7 yX7_wipe yX7_wipe ∈ TB := tb_of 547 (by decide +kernel) (by decide +kernel)
theorem co_yX7_wipe : Cond.code yX7_wipe prog_1_method_23_code 1 (Option.some Jvm.ClassFile.FieldType.int) ∈ TB := tb_of 548 (by decide +kernel) (by decide +kernel)
theorem ml_RX7_147 : Cond.methodLink RX7 147 yX4_clear ∈ TB := tb_of 549 (by decide +kernel) (by decide +kernel)
theorem im_yX4_clear : Cond.instanceMethod yX4_clear ∈ TB := tb_of 550 (by decide +kernel) (by decide +kernel)
theorem se_yX4_clear : Cond.selects RX4 yX4_clear yX4_clear ∈ TB := tb_of 551 (by decide +kernel) (by decide +kernel)
theorem co_yX4_clear : Cond.code yX4_clear prog_6_method_4_code 2 (Option.some Jvm.ClassFile.FieldType.int) ∈ TB := tb_of 552 (by decide +kernel) (by decide +kernel)
theorem ml_RL_108 : Cond.methodLink RL 108 yX7_fault ∈ TB := tb_of 553 (by decide +kernel) (by decide +kernel)
theorem im_yX7_fault : Cond.instanceMethod yX7_fault ∈ TB := tb_of 554 (by decide +kernel) (by decide +kernel)
theorem se_yX7_fault : Cond.selects RX7 yX7_fault yX7_fault ∈ TB := tb_of 555 (by decide +kernel) (by decide +kernel)
theorem co_yX7_fault : Cond.code yX7_fault prog_1_method_24_code 1 (Option.some Jvm.ClassFile.FieldType.int) ∈ TB := tb_of 556 (by decide +kernel) (by decide +kernel)
theorem ml_RX7_150 : Cond.methodLink RX7 150 yX4_findFault ∈ TB := tb_of 557 (by decide +kernel) (by decide +kernel)
theorem im_yX4_findFault : Cond.instanceMethod yX4_findFault ∈ TB := tb_of 558 (by decide +kernel) (by decide +kernel)
theorem se_yX4_findFault : Cond.selects RX4 yX4_findFault yX4_findFault ∈ TB := tb_of 559 (by decide +kernel) (by decide +kernel)
theorem co_yX4_findFault : Cond.code yX4_findFault prog_6_method_5_code 2 (Option.some Jvm.ClassFile.FieldType.int) ∈ TB := tb_of 560 (by decide +kernel) (by decide +kernel)
theorem ml_RX4_41 : Cond.methodLink RX4 41 yX4_startReading ∈ TB := tb_of 561 (by decide +kernel) (by decide +kernel)
theorem im_yX4_startReading : Cond.instanceMethod yX4_startReading ∈ TB := tb_of 562 (by decide +kernel) (by decide +kernel)
theorem se_yX4_startReading : Cond.selects RX4 yX4_startReading yX4_startReading ∈ TB := tb_of 563 (by decide +kernel) (by decide +kernel)
theorem co_yX4_startReading : Cond.code yX4_startReading prog_6_method_6_code 1 (Option.none : Option Jvm.ClassFile.FieldType) ∈ TB := tb_of 564 (by decide +kernel) (by decide +kernel)
theorem ml_RX4_44 : Cond.methodLink RX4 44 yX4_readOrder ∈ TB := tb_of 565 (by decide +kernel) (by decide +kernel)
theorem im_yX4_readOrder : Cond.instanceMethod yX4_readOrder ∈ TB := tb_of 566 (by decide +kernel) (by decide +kernel)
theorem se_yX4_readOrder : Cond.selects RX4 yX4_readOrder yX4_readOrder ∈ TB := tb_of 567 (by decide +kernel) (by decide +kernel)
theorem co_yX4_readOrder : Cond.code yX4_readOrder prog_6_method_8_code 1 (Option.some Jvm.ClassFile.FieldType.boolean) ∈ TB := tb_of 568 (by decide +kernel) (by decide +kernel)
theorem ml_RX4_48 : Cond.methodLink RX4 48 yX4_nextSign ∈ TB := tb_of 569 (by decide +kernel) (by decide +kernel)
theorem im_yX4_nextSign : Cond.instanceMethod yX4_nextSign ∈ TB := tb_of 571 (by decide +kernel) (by decide +kernel)
theorem co_yX4_nextSign : Cond.code yX4_nextSign prog_6_method_14_code 1 (Option.some Jvm.ClassFile.FieldType.char) ∈ TB := tb_of 572 (by decide +kernel) (by decide +kernel)
theorem ml_RX4_52 : Cond.methodLink RX4 52 yX4_readDigit ∈ TB := tb_of 573 (by decide +kernel) (by decide +kernel)
theorem im_yX4_readDigit : Cond.instanceMethod yX4_readDigit ∈ TB := tb_of 575 (by decide +kernel) (by decide +kernel)
theorem co_yX4_readDigit : Cond.code yX4_readDigit prog_6_method_12_code 2 (Option.some Jvm.ClassFile.FieldType.int) ∈ TB := tb_of 576 (by decide +kernel) (by decide +kernel)
theorem ml_RX4_65 : Cond.methodLink RX4 65 yX4_isDigit ∈ TB := tb_of 577 (by decide +kernel) (by decide +kernel)
theorem st_yX4_isDigit : Cond.static yX4_isDigit ∈ TB := tb_of 578 (by decide +kernel) (by decide +kernel)
theorem co_yX4_isDigit : Cond.code yX4_isDigit prog_6_method_13_code 1 (Option.some Jvm.ClassFile.FieldType.boolean) ∈ TB := tb_of 579 (by decide +kernel) (by decide +kernel)
theorem ml_RX4_56 : Cond.methodLink RX4 56 yX4_readTwoDigits ∈ TB := tb_of 580 (by decide +kernel) (by decide +kernel)
theorem im_yX4_readTwoDigits : Cond.instanceMethod yX4_readTwoDigits ∈ TB := tb_of 582 (by decide +kernel) (by decide +kernel)
theorem co_yX4_readTwoDigits : Cond.code yX4_readTwoDigits prog_6_method_9_code 1 (Option.some Jvm.ClassFile.FieldType.boolean) ∈ TB := tb_of 583 (by decide +kernel) (by decide +kernel)
theorem ml_RX4_59 : Cond.methodLink RX4 59 yX4_readNumber ∈ TB := tb_of 584 (by decide +kernel) (by decide +kernel)
theorem im_yX4_readNumber : Cond.instanceMethod yX4_readNumber ∈ TB := tb_of 586 (by decide +kernel) (by decide +kernel)
theorem co_yX4_readNumber : Cond.code yX4_readNumber prog_6_method_11_code 3 (Option.some Jvm.ClassFile.FieldType.int) ∈ TB := tb_of 587 (by decide +kernel) (by decide +kernel)
theorem ml_RX4_62 : Cond.methodLink RX4 62 yX4_readSignedNumber ∈ TB := tb_of 588 (by decide +kernel) (by decide +kernel)
theorem im_yX4_readSignedNumber : Cond.instanceMethod yX4_readSignedNumber ∈ TB := tb_of 590 (by decide +kernel) (by decide +kernel)
theorem co_yX4_readSignedNumber : Cond.code yX4_readSignedNumber prog_6_method_10_code 3 (Option.some Jvm.ClassFile.FieldType.boolean) ∈ TB := tb_of 591 (by decide +kernel) (by decide +kernel)
theorem ml_RL_112 : Cond.methodLink RL 112 yX7_carryOut ∈ TB := tb_of 592 (by decide +kernel) (by decide +kernel)
theorem im_yX7_carryOut : Cond.instanceMethod yX7_carryOut ∈ TB := tb_of 593 (by decide +kernel) (by decide +kernel)
theorem se_yX7_carryOut : Cond.selects RX7 yX7_carryOut yX7_carryOut ∈ TB := tb_of 594 (by decide +kernel) (by decide +kernel)
theorem co_yX7_carryOut : Cond.code yX7_carryOut prog_1_method_25_code 2 (Option.some Jvm.ClassFile.FieldType.int) ∈ TB := tb_of 595 (by decide +kernel) (by decide +kernel)
theorem ml_RX7_153 : Cond.methodLink RX7 153 yX4_startReading ∈ TB := tb_of 596 (by decide +kernel) (by decide +kernel)
theorem ml_RX7_156 : Cond.methodLink RX7 156 yX4_readOrder ∈ TB := tb_of 597 (by decide +kernel) (by decide +kernel)
theorem ml_RX7_160 : Cond.methodLink RX7 160 yX7_obeyOrder ∈ TB := tb_of 598 (by decide +kernel) (by decide +kernel)
theorem im_yX7_obeyOrder : Cond.instanceMethod yX7_obeyOrder ∈ TB := tb_of 600 (by decide +kernel) (by decide +kernel)
theorem co_yX7_obeyOrder : Cond.code yX7_obeyOrder prog_1_method_29_code 1 (Option.some Jvm.ClassFile.FieldType.int) ∈ TB := tb_of 601 (by decide +kernel) (by decide +kernel)
theorem ml_RX7_163 : Cond.methodLink RX7 163 yX4_skipSemicolon ∈ TB := tb_of 602 (by decide +kernel) (by decide +kernel)
theorem im_yX4_skipSemicolon : Cond.instanceMethod yX4_skipSemicolon ∈ TB := tb_of 603 (by decide +kernel) (by decide +kernel)
theorem se_yX4_skipSemicolon : Cond.selects RX4 yX4_skipSemicolon yX4_skipSemicolon ∈ TB := tb_of 604 (by decide +kernel) (by decide +kernel)
theorem co_yX4_skipSemicolon : Cond.code yX4_skipSemicolon prog_6_method_7_code 1 (Option.none : Option Jvm.ClassFile.FieldType) ∈ TB := tb_of 605 (by decide +kernel) (by decide +kernel)
theorem ml_RL_116 : Cond.methodLink RL 116 yX7_undo ∈ TB := tb_of 606 (by decide +kernel) (by decide +kernel)
theorem im_yX7_undo : Cond.instanceMethod yX7_undo ∈ TB := tb_of 607 (by decide +kernel) (by decide +kernel)
theorem se_yX7_undo : Cond.selects RX7 yX7_undo yX7_undo ∈ TB := tb_of 608 (by decide +kernel) (by decide +kernel)
theorem co_yX7_undo : Cond.code yX7_undo prog_1_method_26_code 1 (Option.some Jvm.ClassFile.FieldType.int) ∈ TB := tb_of 609 (by decide +kernel) (by decide +kernel)
theorem ml_RX7_166 : Cond.methodLink RX7 166 yX2_takeBack ∈ TB := tb_of 610 (by decide +kernel) (by decide +kernel)
theorem im_yX2_takeBack : Cond.instanceMethod yX2_takeBack ∈ TB := tb_of 611 (by decide +kernel) (by decide +kernel)
theorem se_yX2_takeBack : Cond.selects RX2 yX2_takeBack yX2_takeBack ∈ TB := tb_of 612 (by decide +kernel) (by decide +kernel)
theorem co_yX2_takeBack : Cond.code yX2_takeBack prog_4_method_4_code 2 (Option.some Jvm.ClassFile.FieldType.int) ∈ TB := tb_of 613 (by decide +kernel) (by decide +kernel)
theorem ml_RL_120 : Cond.methodLink RL 120 yX7_save ∈ TB := tb_of 614 (by decide +kernel) (by decide +kernel)
theorem im_yX7_save : Cond.instanceMethod yX7_save ∈ TB := tb_of 615 (by decide +kernel) (by decide +kernel)
theorem se_yX7_save : Cond.selects RX7 yX7_save yX7_save ∈ TB := tb_of 616 (by decide +kernel) (by decide +kernel)
theorem co_yX7_save : Cond.code yX7_save prog_1_method_27_code 2 (Option.some Jvm.ClassFile.FieldType.int) ∈ TB := tb_of 617 (by decide +kernel) (by decide +kernel)
theorem ml_RX7_170 : Cond.methodLink RX7 170 yX7_isSlot ∈ TB := tb_of 618 (by decide +kernel) (by decide +kernel)
theorem st_yX7_isSlot : Cond.static yX7_isSlot ∈ TB := tb_of 619 (by decide +kernel) (by decide +kernel)
theorem co_yX7_isSlot : Cond.code yX7_isSlot prog_1_method_31_code 1 (Option.some Jvm.ClassFile.FieldType.boolean) ∈ TB := tb_of 620 (by decide +kernel) (by decide +kernel)
theorem ml_RX7_173 : Cond.methodLink RX7 173 yX6_copyFrom ∈ TB := tb_of 621 (by decide +kernel) (by decide +kernel)
theorem ml_RL_124 : Cond.methodLink RL 124 yX7_restore ∈ TB := tb_of 622 (by decide +kernel) (by decide +kernel)
theorem im_yX7_restore : Cond.instanceMethod yX7_restore ∈ TB := tb_of 623 (by decide +kernel) (by decide +kernel)
theorem se_yX7_restore : Cond.selects RX7 yX7_restore yX7_restore ∈ TB := tb_of 624 (by decide +kernel) (by decide +kernel)
theorem co_yX7_restore : Cond.code yX7_restore prog_1_method_28_code 2 (Option.some Jvm.ClassFile.FieldType.int) ∈ TB := tb_of 625 (by decide +kernel) (by decide +kernel)
theorem cl_RL_10 : Cond.classLink RL 10 RX8 ∈ TB := tb_of 626 (by decide +kernel) (by decide +kernel)
theorem ins_RX8 : Cond.instantiable RX8 12 ∈ TB := tb_of 627 (by decide +kernel) (by decide +kernel)
theorem ml_RL_12 : Cond.methodLink RL 12 yX8_init ∈ TB := tb_of 628 (by decide +kernel) (by decide +kernel)
theorem im_yX8_init : Cond.instanceMethod yX8_init ∈ TB := tb_of 629 (by decide +kernel) (by decide +kernel)
theorem co_yX8_init : Cond.code yX8_init prog_10_method_1_code 2 (Option.none : Option Jvm.ClassFile.FieldType) ∈ TB := tb_of 630 (by decide +kernel) (by decide +kernel)
theorem ml_RX8_1 : Cond.methodLink RX8 1 Lib.objectInit ∈ TB := tb_of 631 (by decide +kernel) (by decide +kernel)
theorem ml_RX8_28 : Cond.methodLink RX8 28 yX8_setOf ∈ TB := tb_of 632 (by decide +kernel) (by decide +kernel)
theorem im_yX8_setOf : Cond.instanceMethod yX8_setOf ∈ TB := tb_of 634 (by decide +kernel) (by decide +kernel)
theorem co_yX8_setOf : Cond.code yX8_setOf prog_10_method_9_code 4 (Option.none : Option Jvm.ClassFile.FieldType) ∈ TB := tb_of 635 (by decide +kernel) (by decide +kernel)
theorem fl_RX8_7 : Cond.fieldLink RX8 7 RX8 "state" "[I" ∈ TB := tb_of 636 (by decide +kernel) (by decide +kernel)
theorem fl_RX8_13 : Cond.fieldLink RX8 13 RX8 "spare" "[I" ∈ TB := tb_of 637 (by decide +kernel) (by decide +kernel)
theorem fl_RX8_16 : Cond.fieldLink RX8 16 RX8 "history" "[I" ∈ TB := tb_of 638 (by decide +kernel) (by decide +kernel)
theorem fl_RX8_36 : Cond.fieldLink RX8 36 RX8 "states" "I" ∈ TB := tb_of 639 (by decide +kernel) (by decide +kernel)
theorem fl_RX8_19 : Cond.fieldLink RX8 19 RX8 "slots" "[I" ∈ TB := tb_of 640 (by decide +kernel) (by decide +kernel)
theorem fl_RX8_22 : Cond.fieldLink RX8 22 RX8 "isSaved" "[I" ∈ TB := tb_of 641 (by decide +kernel) (by decide +kernel)
theorem fl_RX8_25 : Cond.fieldLink RX8 25 RX8 "pad" "[I" ∈ TB := tb_of 642 (by decide +kernel) (by decide +kernel)
theorem fl_RX8_158 : Cond.fieldLink RX8 158 RX8 "length" "I" ∈ TB := tb_of 643 (by decide +kernel) (by decide +kernel)
theorem fl_RX8_173 : Cond.fieldLink RX8 173 RX8 "at" "I" ∈ TB := tb_of 644 (by decide +kernel) (by decide +kernel)
theorem fl_RX8_195 : Cond.fieldLink RX8 195 RX8 "sign" "I" ∈ TB := tb_of 645 (by decide +kernel) (by decide +kernel)
theorem fl_RX8_182 : Cond.fieldLink RX8 182 RX8 "first" "I" ∈ TB := tb_of 646 (by decide +kernel) (by decide +kernel)
theorem fl_RX8_192 : Cond.fieldLink RX8 192 RX8 "second" "I" ∈ TB := tb_of 647 (by decide +kernel) (by decide +kernel)
theorem ml_RL_119 : Cond.methodLink RL 119 yX8_undo ∈ TB := tb_of 673 (by decide +kernel) (by decide +kernel)
theorem im_yX8_undo : Cond.instanceMethod yX8_undo ∈ TB := tb_of 674 (by decide +kernel) (by decide +kernel)
theorem se_yX8_undo : Cond.selects RX8 yX8_undo yX8_undo ∈ TB := tb_of 675 (by decide +kernel) (by decide +kernel)
theorem co_yX8_undo : Cond.code yX8_undo prog_10_method_14_code 2 (Option.some Jvm.ClassFile.FieldType.int) ∈ TB := tb_of 676 (by decide +kernel) (by decide +kernel)
theorem ml_RL_123 : Cond.methodLink RL 123 yX8_save ∈ TB := tb_of 677 (by decide +kernel) (by decide +kernel)
theorem im_yX8_save : Cond.instanceMethod yX8_save ∈ TB := tb_of 678 (by decide +kernel) (by decide +kernel)
theorem se_yX8_save : Cond.selects RX8 yX8_save yX8_save ∈ TB := tb_of 679 (by decide +kernel) (by decide +kernel)
theorem co_yX8_save : Cond.code yX8_save prog_10_method_16_code 3 (Option.some Jvm.ClassFile.FieldType.int) ∈ TB := tb_of 680 (by decide +kernel) (by decide +kernel)
theorem ml_RX8_43 : Cond.methodLink RX8 43 yX8_isSlot ∈ TB := tb_of 681 (by decide +kernel) (by decide +kernel)
theorem st_yX8_isSlot : Cond.static yX8_isSlot ∈ TB := tb_of 682 (by decide +kernel) (by decide +kernel)
theorem co_yX8_isSlot : Cond.code yX8_isSlot prog_10_method_15_code 1 (Option.some Jvm.ClassFile.FieldType.boolean) ∈ TB := tb_of 683 (by decide +kernel) (by decide +kernel)
theorem ml_RX8_32 : Cond.methodLink RX8 32 yX8_within ∈ TB := tb_of 684 (by decide +kernel) (by decide +kernel)
theorem st_yX8_within : Cond.static yX8_within ∈ TB := tb_of 685 (by decide +kernel) (by decide +kernel)
theorem co_yX8_within : Cond.code yX8_within prog_10_method_2_code 3 (Option.some Jvm.ClassFile.FieldType.boolean) ∈ TB := tb_of 686 (by decide +kernel) (by decide +kernel)
theorem ml_RL_127 : Cond.methodLink RL 127 yX8_restore ∈ TB := tb_of 687 (by decide +kernel) (by decide +kernel)
theorem im_yX8_restore : Cond.instanceMethod yX8_restore ∈ TB := tb_of 688 (by decide +kernel) (by decide +kernel)
theorem se_yX8_restore : Cond.selects RX8 yX8_restore yX8_restore ∈ TB := tb_of 689 (by decide +kernel) (by decide +kernel)
theorem co_yX8_restore : Cond.code yX8_restore prog_10_method_17_code 3 (Option.some Jvm.ClassFile.FieldType.int) ∈ TB := tb_of 690 (by decide +kernel) (by decide +kernel)
theorem ml_RX8_47 : Cond.methodLink RX8 47 yX8_putAside ∈ TB := tb_of 691 (by decide +kernel) (by decide +kernel)
theorem im_yX8_putAside : Cond.instanceMethod yX8_putAside ∈ TB := tb_of 693 (by decide +kernel) (by decide +kernel)
theorem co_yX8_putAside : Cond.code yX8_putAside prog_10_method_10_code 2 (Option.none : Option Jvm.ClassFile.FieldType) ∈ TB := tb_of 694 (by decide +kernel) (by decide +kernel)
theorem ml_RX8_40 : Cond.methodLink RX8 40 yX8_push ∈ TB := tb_of 695 (by decide +kernel) (by decide +kernel)
theorem im_yX8_push : Cond.instanceMethod yX8_push ∈ TB := tb_of 697 (by decide +kernel) (by decide +kernel)
theorem co_yX8_push : Cond.code yX8_push prog_10_method_12_code 2 (Option.none : Option Jvm.ClassFile.FieldType) ∈ TB := tb_of 698 (by decide +kernel) (by decide +kernel)
theorem ml_RL_17 : Cond.methodLink RL 17 yX8_set ∈ TB := tb_of 699 (by decide +kernel) (by decide +kernel)
theorem im_yX8_set : Cond.instanceMethod yX8_set ∈ TB := tb_of 700 (by decide +kernel) (by decide +kernel)
theorem se_yX8_set : Cond.selects RX8 yX8_set yX8_set ∈ TB := tb_of 701 (by decide +kernel) (by decide +kernel)
theorem co_yX8_set : Cond.code yX8_set prog_10_method_40_code 4 (Option.some Jvm.ClassFile.FieldType.int) ∈ TB := tb_of 702 (by decide +kernel) (by decide +kernel)
theorem ml_RX8_109 : Cond.methodLink RX8 109 yX8_leastOf ∈ TB := tb_of 703 (by decide +kernel) (by decide +kernel)
theorem st_yX8_leastOf : Cond.static yX8_leastOf ∈ TB := tb_of 704 (by decide +kernel) (by decide +kernel)
theorem co_yX8_leastOf : Cond.code yX8_leastOf prog_10_method_38_code 1 (Option.some Jvm.ClassFile.FieldType.int) ∈ TB := tb_of 705 (by decide +kernel) (by decide +kernel)
theorem ml_RX8_112 : Cond.methodLink RX8 112 yX8_mostOf ∈ TB := tb_of 706 (by decide +kernel) (by decide +kernel)
theorem st_yX8_mostOf : Cond.static yX8_mostOf ∈ TB := tb_of 707 (by decide +kernel) (by decide +kernel)
theorem co_yX8_mostOf : Cond.code yX8_mostOf prog_10_method_39_code 1 (Option.some Jvm.ClassFile.FieldType.int) ∈ TB := tb_of 708 (by decide +kernel) (by decide +kernel)
theorem ml_RX8_115 : Cond.methodLink RX8 115 yX8_recorded ∈ TB := tb_of 709 (by decide +kernel) (by decide +kernel)
theorem im_yX8_recorded : Cond.instanceMethod yX8_recorded ∈ TB := tb_of 711 (by decide +kernel) (by decide +kernel)
theorem co_yX8_recorded : Cond.code yX8_recorded prog_10_method_13_code 2 (Option.some Jvm.ClassFile.FieldType.int) ∈ TB := tb_of 712 (by decide +kernel) (by decide +kernel)
theorem ml_RL_22 : Cond.methodLink RL 22 yX8_star ∈ TB := tb_of 713 (by decide +kernel) (by decide +kernel)
theorem im_yX8_star : Cond.instanceMethod yX8_star ∈ TB := tb_of 714 (by decide +kernel) (by decide +kernel)
theorem se_yX8_star : Cond.selects RX8 yX8_star yX8_star ∈ TB := tb_of 715 (by decide +kernel) (by decide +kernel)
theorem co_yX8_star : Cond.code yX8_star prog_10_method_41_code 2 (Option.some Jvm.ClassFile.FieldType.int) ∈ TB := tb_of 716 (by decide +kernel) (by decide +kernel)
theorem ml_RX8_118 : Cond.methodLink RX8 118 yX8_comes ∈ TB := tb_of 717 (by decide +kernel) (by decide +kernel)
theorem im_yX8_comes : Cond.instanceMethod yX8_comes ∈ TB := tb_of 719 (by decide +kernel) (by decide +kernel)
theorem co_yX8_comes : Cond.code yX8_comes prog_10_method_34_code 2 (Option.some Jvm.ClassFile.FieldType.int) ∈ TB := tb_of 720 (by decide +kernel) (by decide +kernel)
theorem ml_RX8_106 : Cond.methodLink RX8 106 yX8_isLatitude ∈ TB := tb_of 721 (by decide +kernel) (by decide +kernel)
theorem st_yX8_isLatitude : Cond.static yX8_isLatitude ∈ TB := tb_of 722 (by decide +kernel) (by decide +kernel)
theorem co_yX8_isLatitude : Cond.code yX8_isLatitude prog_10_method_5_code 1 (Option.some Jvm.ClassFile.FieldType.boolean) ∈ TB := tb_of 723 (by decide +kernel) (by decide +kernel)
theorem ml_RL_26 : Cond.methodLink RL 26 yX8_cloud ∈ TB := tb_of 724 (by decide +kernel) (by decide +kernel)
theorem im_yX8_cloud : Cond.instanceMethod yX8_cloud ∈ TB := tb_of 725 (by decide +kernel) (by decide +kernel)
theorem se_yX8_cloud : Cond.selects RX8 yX8_cloud yX8_cloud ∈ TB := tb_of 726 (by decide +kernel) (by decide +kernel)
theorem co_yX8_cloud : Cond.code yX8_cloud prog_10_method_42_code 2 (Option.some Jvm.ClassFile.FieldType.int) ∈ TB := tb_of 727 (by decide +kernel) (by decide +kernel)
theorem ml_RX8_121 : Cond.methodLink RX8 121 yX8_clouds ∈ TB := tb_of 728 (by decide +kernel) (by decide +kernel)
theorem im_yX8_clouds : Cond.instanceMethod yX8_clouds ∈ TB := tb_of 730 (by decide +kernel) (by decide +kernel)
theorem co_yX8_clouds : Cond.code yX8_clouds prog_10_method_35_code 2 (Option.some Jvm.ClassFile.FieldType.int) ∈ TB := tb_of 731 (by decide +kernel) (by decide +kernel)
theorem ml_RX8_70 : Cond.methodLink RX8 70 yX8_isStar ∈ TB := tb_of 732 (by decide +kernel) (by decide +kernel)
theorem im_yX8_isStar : Cond.instanceMethod yX8_isStar ∈ TB := tb_of 734 (by decide +kernel) (by decide +kernel)
theorem co_yX8_isStar : Cond.code yX8_isStar prog_10_method_6_code 2 (Option.some Jvm.ClassFile.FieldType.boolean) ∈ TB := tb_of 735 (by decide +kernel) (by decide +kernel)
theorem ml_RL_31 : Cond.methodLink RL 31 yX8_navigator ∈ TB := tb_of 736 (by decide +kernel) (by decide +kernel)
theorem im_yX8_navigator : Cond.instanceMethod yX8_navigator ∈ TB := tb_of 737 (by decide +kernel) (by decide +kernel)
theorem se_yX8_navigator : Cond.selects RX8 yX8_navigator yX8_navigator ∈ TB := tb_of 738 (by decide +kernel) (by decide +kernel)
theorem co_yX8_navigator : Cond.code yX8_navigator prog_10_method_44_code 5 (Option.some Jvm.ClassFile.FieldType.int) ∈ TB := tb_of 739 (by decide +kernel) (by decide +kernel)
theorem ml_RX8_67 : Cond.methodLink RX8 67 yX8_isNavigator ∈ TB := tb_of 740 (by decide +kernel) (by decide +kernel)
theorem st_yX8_isNavigator : Cond.static yX8_isNavigator ∈ TB := tb_of 741 (by decide +kernel) (by decide +kernel)
theorem co_yX8_isNavigator : Cond.code yX8_isNavigator prog_10_method_7_code 1 (Option.some Jvm.ClassFile.FieldType.boolean) ∈ TB := tb_of 742 (by decide +kernel) (by decide +kernel)
theorem ml_RX8_124 : Cond.methodLink RX8 124 yX8_isValue ∈ TB := tb_of 743 (by decide +kernel) (by decide +kernel)
theorem st_yX8_isValue : Cond.static yX8_isValue ∈ TB := tb_of 744 (by decide +kernel) (by decide +kernel)
theorem co_yX8_isValue : Cond.code yX8_isValue prog_10_method_43_code 2 (Option.some Jvm.ClassFile.FieldType.boolean) ∈ TB := tb_of 745 (by decide +kernel) (by decide +kernel)
theorem ml_RX8_54 : Cond.methodLink RX8 54 yX8_number ∈ TB := tb_of 746 (by decide +kernel) (by decide +kernel)
theorem im_yX8_number : Cond.instanceMethod yX8_number ∈ TB := tb_of 748 (by decide +kernel) (by decide +kernel)
theorem co_yX8_number : Cond.code yX8_number prog_10_method_8_code 3 (Option.some Jvm.ClassFile.FieldType.int) ∈ TB := tb_of 749 (by decide +kernel) (by decide +kernel)
theorem ml_RL_35 : Cond.methodLink RL 35 yX8_sleep ∈ TB := tb_of 750 (by decide +kernel) (by decide +kernel)
theorem im_yX8_sleep : Cond.instanceMethod yX8_sleep ∈ TB := tb_of 751 (by decide +kernel) (by decide +kernel)
theorem se_yX8_sleep : Cond.selects RX8 yX8_sleep yX8_sleep ∈ TB := tb_of 752 (by decide +kernel) (by decide +kernel)
theorem co_yX8_sleep : Cond.code yX8_sleep prog_10_method_45_code 2 (Option.some Jvm.ClassFile.FieldType.int) ∈ TB := tb_of 753 (by decide +kernel) (by decide +kernel)
theorem ml_RX8_127 : Cond.methodLink RX8 127 yX8_sleeps ∈ TB := tb_of 754 (by decide +kernel) (by decide +kernel)
theorem im_yX8_sleeps : Cond.instanceMethod yX8_sleeps ∈ TB := tb_of 756 (by decide +kernel) (by decide +kernel)
theorem co_yX8_sleeps : Cond.code yX8_sleeps prog_10_method_36_code 2 (Option.some Jvm.ClassFile.FieldType.int) ∈ TB := tb_of 757 (by decide +kernel) (by decide +kernel)
theorem ml_RL_39 : Cond.methodLink RL 39 yX8_goal ∈ TB := tb_of 758 (by decide +kernel) (by decide +kernel)
theorem im_yX8_goal : Cond.instanceMethod yX8_goal ∈ TB := tb_of 759 (by decide +kernel) (by decide +kernel)
theorem se_yX8_goal : Cond.selects RX8 yX8_goal yX8_goal ∈ TB := tb_of 760 (by decide +kernel) (by decide +kernel)
theorem co_yX8_goal : Cond.code yX8_goal prog_10_method_46_code 2 (Option.some Jvm.ClassFile.FieldType.int) ∈ TB := tb_of 761 (by decide +kernel) (by decide +kernel)
theorem ml_RX8_130 : Cond.methodLink RX8 130 yX8_aims ∈ TB := tb_of 762 (by decide +kernel) (by decide +kernel)
theorem im_yX8_aims : Cond.instanceMethod yX8_aims ∈ TB := tb_of 764 (by decide +kernel) (by decide +kernel)
theorem co_yX8_aims : Cond.code yX8_aims prog_10_method_37_code 3 (Option.some Jvm.ClassFile.FieldType.int) ∈ TB := tb_of 765 (by decide +kernel) (by decide +kernel)
theorem ml_RL_43 : Cond.methodLink RL 43 yX8_sight ∈ TB := tb_of 766 (by decide +kernel) (by decide +kernel)
theorem im_yX8_sight : Cond.instanceMethod yX8_sight ∈ TB := tb_of 767 (by decide +kernel) (by decide +kernel)
theorem se_yX8_sight : Cond.selects RX8 yX8_sight yX8_sight ∈ TB := tb_of 768 (by decide +kernel) (by decide +kernel)
theorem co_yX8_sight : Cond.code yX8_sight prog_10_method_47_code 3 (Option.some Jvm.ClassFile.FieldType.int) ∈ TB := tb_of 769 (by decide +kernel) (by decide +kernel)
theorem ml_RX8_133 : Cond.methodLink RX8 133 yX8_sights ∈ TB := tb_of 770 (by decide +kernel) (by decide +kernel)
theorem im_yX8_sights : Cond.instanceMethod yX8_sights ∈ TB := tb_of 772 (by decide +kernel) (by decide +kernel)
theorem co_yX8_sights : Cond.code yX8_sights prog_10_method_23_code 4 (Option.some Jvm.ClassFile.FieldType.int) ∈ TB := tb_of 773 (by decide +kernel) (by decide +kernel)
theorem ml_RX8_76 : Cond.methodLink RX8 76 yX8_whyNot ∈ TB := tb_of 774 (by decide +kernel) (by decide +kernel)
theorem im_yX8_whyNot : Cond.instanceMethod yX8_whyNot ∈ TB := tb_of 776 (by decide +kernel) (by decide +kernel)
theorem co_yX8_whyNot : Cond.code yX8_whyNot prog_10_method_22_code 3 (Option.some Jvm.ClassFile.FieldType.int) ∈ TB := tb_of 777 (by decide +kernel) (by decide +kernel)
theorem ml_RX8_73 : Cond.methodLink RX8 73 yX8_reason ∈ TB := tb_of 778 (by decide +kernel) (by decide +kernel)
theorem im_yX8_reason : Cond.instanceMethod yX8_reason ∈ TB := tb_of 780 (by decide +kernel) (by decide +kernel)
theorem co_yX8_reason : Cond.code yX8_reason prog_10_method_19_code 3 (Option.some Jvm.ClassFile.FieldType.int) ∈ TB := tb_of 781 (by decide +kernel) (by decide +kernel)
theorem ml_RX8_58 : Cond.methodLink RX8 58 yX8_height ∈ TB := tb_of 782 (by decide +kernel) (by decide +kernel)
theorem im_yX8_height : Cond.instanceMethod yX8_height ∈ TB := tb_of 784 (by decide +kernel) (by decide +kernel)
theorem co_yX8_height : Cond.code yX8_height prog_10_method_18_code 2 (Option.some Jvm.ClassFile.FieldType.int) ∈ TB := tb_of 785 (by decide +kernel) (by decide +kernel)
theorem ml_RX8_50 : Cond.methodLink RX8 50 yX8_sizeOf ∈ TB := tb_of 786 (by decide +kernel) (by decide +kernel)
theorem st_yX8_sizeOf : Cond.static yX8_sizeOf ∈ TB := tb_of 787 (by decide +kernel) (by decide +kernel)
theorem co_yX8_sizeOf : Cond.code yX8_sizeOf prog_10_method_3_code 1 (Option.some Jvm.ClassFile.FieldType.int) ∈ TB := tb_of 788 (by decide +kernel) (by decide +kernel)
theorem ml_RX8_79 : Cond.methodLink RX8 79 yX8_wouldBelieve ∈ TB := tb_of 789 (by decide +kernel) (by decide +kernel)
theorem im_yX8_wouldBelieve : Cond.instanceMethod yX8_wouldBelieve ∈ TB := tb_of 791 (by decide +kernel) (by decide +kernel)
theorem co_yX8_wouldBelieve : Cond.code yX8_wouldBelieve prog_10_method_21_code 5 (Option.some Jvm.ClassFile.FieldType.int) ∈ TB := tb_of 792 (by decide +kernel) (by decide +kernel)
theorem ml_RX8_61 : Cond.methodLink RX8 61 yX8_error ∈ TB := tb_of 793 (by decide +kernel) (by decide +kernel)
theorem im_yX8_error : Cond.instanceMethod yX8_error ∈ TB := tb_of 795 (by decide +kernel) (by decide +kernel)
theorem co_yX8_error : Cond.code yX8_error prog_10_method_20_code 3 (Option.some Jvm.ClassFile.FieldType.int) ∈ TB := tb_of 796 (by decide +kernel) (by decide +kernel)
theorem ml_RX8_64 : Cond.methodLink RX8 64 yX8_bounded ∈ TB := tb_of 797 (by decide +kernel) (by decide +kernel)
theorem st_yX8_bounded : Cond.static yX8_bounded ∈ TB := tb_of 798 (by decide +kernel) (by decide +kernel)
theorem co_yX8_bounded : Cond.code yX8_bounded prog_10_method_4_code 1 (Option.some Jvm.ClassFile.FieldType.int) ∈ TB := tb_of 799 (by decide +kernel) (by decide +kernel)
theorem ml_RL_48 : Cond.methodLink RL 48 yX8_agree ∈ TB := tb_of 800 (by decide +kernel) (by decide +kernel)
theorem im_yX8_agree : Cond.instanceMethod yX8_agree ∈ TB := tb_of 801 (by decide +kernel) (by decide +kernel)
theorem se_yX8_agree : Cond.selects RX8 yX8_agree yX8_agree ∈ TB := tb_of 802 (by decide +kernel) (by decide +kernel)
theorem co_yX8_agree : Cond.code yX8_agree prog_10_method_48_code 1 (Option.some Jvm.ClassFile.FieldType.int) ∈ TB := tb_of 803 (by decide +kernel) (by decide +kernel)
theorem ml_RX8_136 : Cond.methodLink RX8 136 yX8_agrees ∈ TB := tb_of 804 (by decide +kernel) (by decide +kernel)
theorem im_yX8_agrees : Cond.instanceMethod yX8_agrees ∈ TB := tb_of 806 (by decide +kernel) (by decide +kernel)
theorem co_yX8_agrees : Cond.code yX8_agrees prog_10_method_29_code 3 (Option.some Jvm.ClassFile.FieldType.int) ∈ TB := tb_of 807 (by decide +kernel) (by decide +kernel)
theorem ml_RX8_86 : Cond.methodLink RX8 86 yX8_parts ∈ TB := tb_of 808 (by decide +kernel) (by decide +kernel)
theorem im_yX8_parts : Cond.instanceMethod yX8_parts ∈ TB := tb_of 810 (by decide +kernel) (by decide +kernel)
theorem co_yX8_parts : Cond.code yX8_parts prog_10_method_25_code 4 (Option.some Jvm.ClassFile.FieldType.int) ∈ TB := tb_of 811 (by decide +kernel) (by decide +kernel)
theorem ml_RX8_82 : Cond.methodLink RX8 82 yX8_takesPart ∈ TB := tb_of 812 (by decide +kernel) (by decide +kernel)
theorem im_yX8_takesPart : Cond.instanceMethod yX8_takesPart ∈ TB := tb_of 814 (by decide +kernel) (by decide +kernel)
theorem co_yX8_takesPart : Cond.code yX8_takesPart prog_10_method_24_code 3 (Option.some Jvm.ClassFile.FieldType.boolean) ∈ TB := tb_of 815 (by decide +kernel) (by decide +kernel)
theorem ml_RX8_92 : Cond.methodLink RX8 92 yX8_middle ∈ TB := tb_of 816 (by decide +kernel) (by decide +kernel)
theorem im_yX8_middle : Cond.instanceMethod yX8_middle ∈ TB := tb_of 818 (by decide +kernel) (by decide +kernel)
theorem co_yX8_middle : Cond.code yX8_middle prog_10_method_27_code 5 (Option.some Jvm.ClassFile.FieldType.int) ∈ TB := tb_of 819 (by decide +kernel) (by decide +kernel)
theorem ml_RX8_89 : Cond.methodLink RX8 89 yX8_lower ∈ TB := tb_of 820 (by decide +kernel) (by decide +kernel)
theorem im_yX8_lower : Cond.instanceMethod yX8_lower ∈ TB := tb_of 822 (by decide +kernel) (by decide +kernel)
theorem co_yX8_lower : Cond.code yX8_lower prog_10_method_26_code 7 (Option.some Jvm.ClassFile.FieldType.int) ∈ TB := tb_of 823 (by decide +kernel) (by decide +kernel)
theorem ml_RX8_95 : Cond.methodLink RX8 95 yX8_judge ∈ TB := tb_of 824 (by decide +kernel) (by decide +kernel)
theorem im_yX8_judge : Cond.instanceMethod yX8_judge ∈ TB := tb_of 826 (by decide +kernel) (by decide +kernel)
theorem co_yX8_judge : Cond.code yX8_judge prog_10_method_28_code 5 (Option.none : Option Jvm.ClassFile.FieldType) ∈ TB := tb_of 827 (by decide +kernel) (by decide +kernel)
theorem ml_RL_52 : Cond.methodLink RL 52 yX8_sail ∈ TB := tb_of 828 (by decide +kernel) (by decide +kernel)
theorem im_yX8_sail : Cond.instanceMethod yX8_sail ∈ TB := tb_of 829 (by decide +kernel) (by decide +kernel)
theorem se_yX8_sail : Cond.selects RX8 yX8_sail yX8_sail ∈ TB := tb_of 830 (by decide +kernel) (by decide +kernel)
theorem co_yX8_sail : Cond.code yX8_sail prog_10_method_49_code 2 (Option.some Jvm.ClassFile.FieldType.int) ∈ TB := tb_of 831 (by decide +kernel) (by decide +kernel)
theorem ml_RX8_139 : Cond.methodLink RX8 139 yX8_sails ∈ TB := tb_of 832 (by decide +kernel) (by decide +kernel)
theorem im_yX8_sails : Cond.instanceMethod yX8_sails ∈ TB := tb_of 834 (by decide +kernel) (by decide +kernel)
theorem co_yX8_sails : Cond.code yX8_sails prog_10_method_31_code 3 (Option.some Jvm.ClassFile.FieldType.int) ∈ TB := tb_of 835 (by decide +kernel) (by decide +kernel)
theorem ml_RX8_99 : Cond.methodLink RX8 99 yX8_passHour ∈ TB := tb_of 836 (by decide +kernel) (by decide +kernel)
theorem im_yX8_passHour : Cond.instanceMethod yX8_passHour ∈ TB := tb_of 838 (by decide +kernel) (by decide +kernel)
theorem co_yX8_passHour : Cond.code yX8_passHour prog_10_method_30_code 3 (Option.none : Option Jvm.ClassFile.FieldType) ∈ TB := tb_of 839 (by decide +kernel) (by decide +kernel)
theorem ml_RL_56 : Cond.methodLink RL 56 yX8_night ∈ TB := tb_of 840 (by decide +kernel) (by decide +kernel)
theorem im_yX8_night : Cond.instanceMethod yX8_night ∈ TB := tb_of 841 (by decide +kernel) (by decide +kernel)
theorem se_yX8_night : Cond.selects RX8 yX8_night yX8_night ∈ TB := tb_of 842 (by decide +kernel) (by decide +kernel)
theorem co_yX8_night : Cond.code yX8_night prog_10_method_50_code 1 (Option.some Jvm.ClassFile.FieldType.int) ∈ TB := tb_of 843 (by decide +kernel) (by decide +kernel)
theorem ml_RX8_142 : Cond.methodLink RX8 142 yX8_ends ∈ TB := tb_of 844 (by decide +kernel) (by decide +kernel)
theorem im_yX8_ends : Cond.instanceMethod yX8_ends ∈ TB := tb_of 846 (by decide +kernel) (by decide +kernel)
theorem co_yX8_ends : Cond.code yX8_ends prog_10_method_33_code 3 (Option.some Jvm.ClassFile.FieldType.int) ∈ TB := tb_of 847 (by decide +kernel) (by decide +kernel)
theorem ml_RX8_102 : Cond.methodLink RX8 102 yX8_belief ∈ TB := tb_of 848 (by decide +kernel) (by decide +kernel)
theorem im_yX8_belief : Cond.instanceMethod yX8_belief ∈ TB := tb_of 850 (by decide +kernel) (by decide +kernel)
theorem co_yX8_belief : Cond.code yX8_belief prog_10_method_32_code 1 (Option.some Jvm.ClassFile.FieldType.int) ∈ TB := tb_of 851 (by decide +kernel) (by decide +kernel)
theorem ml_RL_60 : Cond.methodLink RL 60 yX8_of ∈ TB := tb_of 852 (by decide +kernel) (by decide +kernel)
theorem im_yX8_of : Cond.instanceMethod yX8_of ∈ TB := tb_of 853 (by decide +kernel) (by decide +kernel)
theorem se_yX8_of : Cond.selects RX8 yX8_of yX8_of ∈ TB := tb_of 854 (by decide +kernel) (by decide +kernel)
theorem co_yX8_of : Cond.code yX8_of prog_10_method_52_code 3 (Option.some Jvm.ClassFile.FieldType.int) ∈ TB := tb_of 855 (by decide +kernel) (by decide +kernel)
theorem ml_RX8_145 : Cond.methodLink RX8 145 yX8_estimate ∈ TB := tb_of 856 (by decide +kernel) (by decide +kernel)
theorem im_yX8_estimate : Cond.instanceMethod yX8_estimate ∈ TB := tb_of 858 (by decide +kernel) (by decide +kernel)
theorem co_yX8_estimate : Cond.code yX8_estimate prog_10_method_51_code 2 (Option.some Jvm.ClassFile.FieldType.int) ∈ TB := tb_of 859 (by decide +kernel) (by decide +kernel)
theorem ml_RL_64 : Cond.methodLink RL 64 yX8_ofStar ∈ TB := tb_of 860 (by decide +kernel) (by decide +kernel)
theorem im_yX8_ofStar : Cond.instanceMethod yX8_ofStar ∈ TB := tb_of 861 (by decide +kernel) (by decide +kernel)
theorem se_yX8_ofStar : Cond.selects RX8 yX8_ofStar yX8_ofStar ∈ TB := tb_of 862 (by decide +kernel) (by decide +kernel)
theorem co_yX8_ofStar : Cond.code yX8_ofStar prog_10_method_54_code 3 (Option.some Jvm.ClassFile.FieldType.int) ∈ TB := tb_of 863 (by decide +kernel) (by decide +kernel)
theorem ml_RX8_148 : Cond.methodLink RX8 148 yX8_whoCan ∈ TB := tb_of 864 (by decide +kernel) (by decide +kernel)
theorem im_yX8_whoCan : Cond.instanceMethod yX8_whoCan ∈ TB := tb_of 866 (by decide +kernel) (by decide +kernel)
theorem co_yX8_whoCan : Cond.code yX8_whoCan prog_10_method_53_code 4 (Option.some Jvm.ClassFile.FieldType.int) ∈ TB := tb_of 867 (by decide +kernel) (by decide +kernel)
theorem ml_RL_68 : Cond.methodLink RL 68 yX8_log ∈ TB := tb_of 868 (by decide +kernel) (by decide +kernel)
theorem im_yX8_log : Cond.instanceMethod yX8_log ∈ TB := tb_of 869 (by decide +kernel) (by decide +kernel)
theorem se_yX8_log : Cond.selects RX8 yX8_log yX8_log ∈ TB := tb_of 870 (by decide +kernel) (by decide +kernel)
theorem co_yX8_log : Cond.code yX8_log prog_10_method_55_code 3 (Option.some Jvm.ClassFile.FieldType.int) ∈ TB := tb_of 871 (by decide +kernel) (by decide +kernel)
theorem ml_RL_72 : Cond.methodLink RL 72 yX8_count ∈ TB := tb_of 872 (by decide +kernel) (by decide +kernel)
theorem im_yX8_count : Cond.instanceMethod yX8_count ∈ TB := tb_of 873 (by decide +kernel) (by decide +kernel)
theorem se_yX8_count : Cond.selects RX8 yX8_count yX8_count ∈ TB := tb_of 874 (by decide +kernel) (by decide +kernel)
theorem co_yX8_count : Cond.code yX8_count prog_10_method_58_code 2 (Option.some Jvm.ClassFile.FieldType.int) ∈ TB := tb_of 875 (by decide +kernel) (by decide +kernel)
theorem ml_RX8_151 : Cond.methodLink RX8 151 yX8_those ∈ TB := tb_of 876 (by decide +kernel) (by decide +kernel)
theorem im_yX8_those : Cond.instanceMethod yX8_those ∈ TB := tb_of 878 (by decide +kernel) (by decide +kernel)
theorem co_yX8_those : Cond.code yX8_those prog_10_method_56_code 5 (Option.some Jvm.ClassFile.FieldType.int) ∈ TB := tb_of 879 (by decide +kernel) (by decide +kernel)
theorem ml_RX8_155 : Cond.methodLink RX8 155 yX8_mistake ∈ TB := tb_of 880 (by decide +kernel) (by decide +kernel)
theorem im_yX8_mistake : Cond.instanceMethod yX8_mistake ∈ TB := tb_of 882 (by decide +kernel) (by decide +kernel)
theorem co_yX8_mistake : Cond.code yX8_mistake prog_10_method_57_code 1 (Option.some Jvm.ClassFile.FieldType.int) ∈ TB := tb_of 883 (by decide +kernel) (by decide +kernel)
theorem ml_RL_76 : Cond.methodLink RL 76 yX8_why ∈ TB := tb_of 884 (by decide +kernel) (by decide +kernel)
theorem im_yX8_why : Cond.instanceMethod yX8_why ∈ TB := tb_of 885 (by decide +kernel) (by decide +kernel)
theorem se_yX8_why : Cond.selects RX8 yX8_why yX8_why ∈ TB := tb_of 886 (by decide +kernel) (by decide +kernel)
theorem co_yX8_why : Cond.code yX8_why prog_10_method_59_code 3 (Option.some Jvm.ClassFile.FieldType.int) ∈ TB := tb_of 887 (by decide +kernel) (by decide +kernel)
theorem ml_RL_80 : Cond.methodLink RL 80 yX8_ifSighted ∈ TB := tb_of 888 (by decide +kernel) (by decide +kernel)
theorem im_yX8_ifSighted : Cond.instanceMethod yX8_ifSighted ∈ TB := tb_of 889 (by decide +kernel) (by decide +kernel)
theorem se_yX8_ifSighted : Cond.selects RX8 yX8_ifSighted yX8_ifSighted ∈ TB := tb_of 890 (by decide +kernel) (by decide +kernel)
theorem co_yX8_ifSighted : Cond.code yX8_ifSighted prog_10_method_60_code 4 (Option.some Jvm.ClassFile.FieldType.int) ∈ TB := tb_of 891 (by decide +kernel) (by decide +kernel)
theorem ml_RL_84 : Cond.methodLink RL 84 yX8_median ∈ TB := tb_of 892 (by decide +kernel) (by decide +kernel)
theorem im_yX8_median : Cond.instanceMethod yX8_median ∈ TB := tb_of 893 (by decide +kernel) (by decide +kernel)
theorem se_yX8_median : Cond.selects RX8 yX8_median yX8_median ∈ TB := tb_of 894 (by decide +kernel) (by decide +kernel)
theorem co_yX8_median : Cond.code yX8_median prog_10_method_61_code 2 (Option.some Jvm.ClassFile.FieldType.int) ∈ TB := tb_of 895 (by decide +kernel) (by decide +kernel)
theorem ml_RL_88 : Cond.methodLink RL 88 yX8_bestStar ∈ TB := tb_of 896 (by decide +kernel) (by decide +kernel)
theorem im_yX8_bestStar : Cond.instanceMethod yX8_bestStar ∈ TB := tb_of 897 (by decide +kernel) (by decide +kernel)
theorem se_yX8_bestStar : Cond.selects RX8 yX8_bestStar yX8_bestStar ∈ TB := tb_of 898 (by decide +kernel) (by decide +kernel)
theorem co_yX8_bestStar : Cond.code yX8_bestStar prog_10_method_62_code 4 (Option.some Jvm.ClassFile.FieldType.int) ∈ TB := tb_of 899 (by decide +kernel) (by decide +kernel)
theorem ml_RL_92 : Cond.methodLink RL 92 yX8_nearest ∈ TB := tb_of 900 (by decide +kernel) (by decide +kernel)
theorem im_yX8_nearest : Cond.instanceMethod yX8_nearest ∈ TB := tb_of 901 (by decide +kernel) (by decide +kernel)
theorem se_yX8_nearest : Cond.selects RX8 yX8_nearest yX8_nearest ∈ TB := tb_of 902 (by decide +kernel) (by decide +kernel)
theorem co_yX8_nearest : Cond.code yX8_nearest prog_10_method_63_code 7 (Option.some Jvm.ClassFile.FieldType.int) ∈ TB := tb_of 903 (by decide +kernel) (by decide +kernel)
theorem ml_RL_96 : Cond.methodLink RL 96 yX8_arrivesIn ∈ TB := tb_of 904 (by decide +kernel) (by decide +kernel)
theorem im_yX8_arrivesIn : Cond.instanceMethod yX8_arrivesIn ∈ TB := tb_of 905 (by decide +kernel) (by decide +kernel)
theorem se_yX8_arrivesIn : Cond.selects RX8 yX8_arrivesIn yX8_arrivesIn ∈ TB := tb_of 906 (by decide +kernel) (by decide +kernel)
theorem co_yX8_arrivesIn : Cond.code yX8_arrivesIn prog_10_method_64_code 3 (Option.some Jvm.ClassFile.FieldType.int) ∈ TB := tb_of 907 (by decide +kernel) (by decide +kernel)
theorem ml_RX8_161 : Cond.methodLink RX8 161 yX8_takeBack ∈ TB := tb_of 908 (by decide +kernel) (by decide +kernel)
theorem im_yX8_takeBack : Cond.instanceMethod yX8_takeBack ∈ TB := tb_of 910 (by decide +kernel) (by decide +kernel)
theorem co_yX8_takeBack : Cond.code yX8_takeBack prog_10_method_11_code 2 (Option.none : Option Jvm.ClassFile.FieldType) ∈ TB := tb_of 911 (by decide +kernel) (by decide +kernel)
theorem ml_RL_103 : Cond.methodLink RL 103 yX8_put ∈ TB := tb_of 912 (by decide +kernel) (by decide +kernel)
theorem im_yX8_put : Cond.instanceMethod yX8_put ∈ TB := tb_of 913 (by decide +kernel) (by decide +kernel)
theorem se_yX8_put : Cond.selects RX8 yX8_put yX8_put ∈ TB := tb_of 914 (by decide +kernel) (by decide +kernel)
theorem co_yX8_put : Cond.code yX8_put prog_10_method_67_code 5 (Option.some Jvm.ClassFile.FieldType.int) ∈ TB := tb_of 915 (by decide +kernel) (by decide +kernel)
theorem ml_RX8_169 : Cond.methodLink RX8 169 yX8_charactersIn ∈ TB := tb_of 916 (by decide +kernel) (by decide +kernel)
theorem st_yX8_charactersIn : Cond.static yX8_charactersIn ∈ TB := tb_of 917 (by decide +kernel) (by decide +kernel)
theorem co_yX8_charactersIn : Cond.code yX8_charactersIn prog_10_method_66_code 5 (Option.some Jvm.ClassFile.FieldType.int) ∈ TB := tb_of 918 (by decide +kernel) (by decide +kernel)
theorem kl_RX8_164 : Cond.constantLong RX8 164 (255 : Int64) ∈ TB := tb_of 919 (by decide +kernel) (by decide +kernel)
theorem ml_RX8_166 : Cond.methodLink RX8 166 yX8_isCharacter ∈ TB := tb_of 920 (by decide +kernel) (by decide +kernel)
theorem st_yX8_isCharacter : Cond.static yX8_isCharacter ∈ TB := tb_of 921 (by decide +kernel) (by decide +kernel)
theorem co_yX8_isCharacter : Cond.code yX8_isCharacter prog_10_method_65_code 1 (Option.some Jvm.ClassFile.FieldType.boolean) ∈ TB := tb_of 922 (by decide +kernel) (by decide +kernel)
theorem ml_RL_107 : Cond.methodLink RL 107 yX8_wipe ∈ TB := tb_of 923 (by decide +kernel) (by decide +kernel)
theorem im_yX8_wipe : Cond.instanceMethod yX8_wipe ∈ TB := tb_of 924 (by decide +kernel) (by decide +kernel)
theorem se_yX8_wipe : Cond.selects RX8 yX8_wipe yX8_wipe ∈ TB := tb_of 925 (by decide +kernel) (by decide +kernel)
theorem co_yX8_wipe : Cond.code yX8_wipe prog_10_method_68_code 2 (Option.some Jvm.ClassFile.FieldType.int) ∈ TB := tb_of 926 (by decide +kernel) (by decide +kernel)
theorem ml_RL_111 : Cond.methodLink RL 111 yX8_fault ∈ TB := tb_of 927 (by decide +kernel) (by decide +kernel)
theorem im_yX8_fault : Cond.instanceMethod yX8_fault ∈ TB := tb_of 928 (by decide +kernel) (by decide +kernel)
theorem se_yX8_fault : Cond.selects RX8 yX8_fault yX8_fault ∈ TB := tb_of 929 (by decide +kernel) (by decide +kernel)
theorem co_yX8_fault : Cond.code yX8_fault prog_10_method_77_code 1 (Option.some Jvm.ClassFile.FieldType.int) ∈ TB := tb_of 930 (by decide +kernel) (by decide +kernel)
theorem ml_RX8_208 : Cond.methodLink RX8 208 yX8_findFault ∈ TB := tb_of 931 (by decide +kernel) (by decide +kernel)
theorem im_yX8_findFault : Cond.instanceMethod yX8_findFault ∈ TB := tb_of 933 (by decide +kernel) (by decide +kernel)
theorem co_yX8_findFault : Cond.code yX8_findFault prog_10_method_76_code 1 (Option.some Jvm.ClassFile.FieldType.int) ∈ TB := tb_of 934 (by decide +kernel) (by decide +kernel)
theorem ml_RX8_205 : Cond.methodLink RX8 205 yX8_readsOrder ∈ TB := tb_of 935 (by decide +kernel) (by decide +kernel)
theorem im_yX8_readsOrder : Cond.instanceMethod yX8_readsOrder ∈ TB := tb_of 937 (by decide +kernel) (by decide +kernel)
theorem co_yX8_readsOrder : Cond.code yX8_readsOrder prog_10_method_75_code 1 (Option.some Jvm.ClassFile.FieldType.boolean) ∈ TB := tb_of 938 (by decide +kernel) (by decide +kernel)
theorem ml_RX8_176 : Cond.methodLink RX8 176 yX8_code ∈ TB := tb_of 939 (by decide +kernel) (by decide +kernel)
theorem im_yX8_code : Cond.instanceMethod yX8_code ∈ TB := tb_of 941 (by decide +kernel) (by decide +kernel)
theorem co_yX8_code : Cond.code yX8_code prog_10_method_69_code 1 (Option.some Jvm.ClassFile.FieldType.int) ∈ TB := tb_of 942 (by decide +kernel) (by decide +kernel)
theorem ml_RX8_198 : Cond.methodLink RX8 198 yX8_readsSigned ∈ TB := tb_of 943 (by decide +kernel) (by decide +kernel)
theorem im_yX8_readsSigned : Cond.instanceMethod yX8_readsSigned ∈ TB := tb_of 945 (by decide +kernel) (by decide +kernel)
theorem co_yX8_readsSigned : Cond.code yX8_readsSigned prog_10_method_73_code 3 (Option.some Jvm.ClassFile.FieldType.boolean) ∈ TB := tb_of 946 (by decide +kernel) (by decide +kernel)
theorem ml_RX8_185 : Cond.methodLink RX8 185 yX8_takes ∈ TB := tb_of 947 (by decide +kernel) (by decide +kernel)
theorem im_yX8_takes : Cond.instanceMethod yX8_takes ∈ TB := tb_of 949 (by decide +kernel) (by decide +kernel)
theorem co_yX8_takes : Cond.code yX8_takes prog_10_method_70_code 3 (Option.some Jvm.ClassFile.FieldType.boolean) ∈ TB := tb_of 950 (by decide +kernel) (by decide +kernel)
theorem ml_RX8_188 : Cond.methodLink RX8 188 yX8_readsNumber ∈ TB := tb_of 951 (by decide +kernel) (by decide +kernel)
theorem im_yX8_readsNumber : Cond.instanceMethod yX8_readsNumber ∈ TB := tb_of 953 (by decide +kernel) (by decide +kernel)
theorem co_yX8_readsNumber : Cond.code yX8_readsNumber prog_10_method_72_code 1 (Option.some Jvm.ClassFile.FieldType.boolean) ∈ TB := tb_of 954 (by decide +kernel) (by decide +kernel)
theorem ml_RX8_179 : Cond.methodLink RX8 179 yX8_takeDigit ∈ TB := tb_of 955 (by decide +kernel) (by decide +kernel)
theorem im_yX8_takeDigit : Cond.instanceMethod yX8_takeDigit ∈ TB := tb_of 957 (by decide +kernel) (by decide +kernel)
theorem co_yX8_takeDigit : Cond.code yX8_takeDigit prog_10_method_71_code 3 (Option.some Jvm.ClassFile.FieldType.int) ∈ TB := tb_of 958 (by decide +kernel) (by decide +kernel)
theorem ml_RX8_201 : Cond.methodLink RX8 201 yX8_readsDigits ∈ TB := tb_of 959 (by decide +kernel) (by decide +kernel)
theorem im_yX8_readsDigits : Cond.instanceMethod yX8_readsDigits ∈ TB := tb_of 961 (by decide +kernel) (by decide +kernel)
theorem co_yX8_readsDigits : Cond.code yX8_readsDigits prog_10_method_74_code 2 (Option.some Jvm.ClassFile.FieldType.boolean) ∈ TB := tb_of 962 (by decide +kernel) (by decide +kernel)
theorem ml_RL_115 : Cond.methodLink RL 115 yX8_carryOut ∈ TB := tb_of 963 (by decide +kernel) (by decide +kernel)
theorem im_yX8_carryOut : Cond.instanceMethod yX8_carryOut ∈ TB := tb_of 964 (by decide +kernel) (by decide +kernel)
theorem se_yX8_carryOut : Cond.selects RX8 yX8_carryOut yX8_carryOut ∈ TB := tb_of 965 (by decide +kernel) (by decide +kernel)
theorem co_yX8_carryOut : Cond.code yX8_carryOut prog_10_method_79_code 3 (Option.some Jvm.ClassFile.FieldType.int) ∈ TB := tb_of 966 (by decide +kernel) (by decide +kernel)
theorem ml_RX8_211 : Cond.methodLink RX8 211 yX8_doesOrder ∈ TB := tb_of 967 (by decide +kernel) (by decide +kernel)
theorem im_yX8_doesOrder : Cond.instanceMethod yX8_doesOrder ∈ TB := tb_of 969 (by decide +kernel) (by decide +kernel)
theorem co_yX8_doesOrder : Cond.code yX8_doesOrder prog_10_method_78_code 1 (Option.some Jvm.ClassFile.FieldType.int) ∈ TB := tb_of 970 (by decide +kernel) (by decide +kernel)
theorem kl_RL_97 : Cond.constantLong RL 97 (4294967295 : Int64) ∈ TB := tb_of 971 (by decide +kernel) (by decide +kernel)
theorem se_yX6_heightOf : Cond.selects RX6 yX6_heightOf yX6_heightOf ∈ TB := tb_sel (q := (yX6_heightOf, 8)) (lw_priv_in 0 (by decide +kernel))
theorem se_yX6_reckon : Cond.selects RX6 yX6_reckon yX6_reckon ∈ TB := tb_sel (q := (yX6_reckon, 8)) (lw_priv_in 1 (by decide +kernel))
theorem se_yX1_takesPart : Cond.selects RX1 yX1_takesPart yX1_takesPart ∈ TB := tb_sel (q := (yX1_takesPart, 7)) (lw_priv_in 2 (by decide +kernel))
theorem se_yX1_rankWithout : Cond.selects RX1 yX1_rankWithout yX1_rankWithout ∈ TB := tb_sel (q := (yX1_rankWithout, 7)) (lw_priv_in 3 (by decide +kernel))
theorem se_yX1_standsBefore : Cond.selects RX1 yX1_standsBefore yX1_standsBefore ∈ TB := tb_sel (q := (yX1_standsBefore, 7)) (lw_priv_in 4 (by decide +kernel))
theorem se_yX1_makeAngrier : Cond.selects RX1 yX1_makeAngrier yX1_makeAngrier ∈ TB := tb_sel (q := (yX1_makeAngrier, 7)) (lw_priv_in 5 (by decide +kernel))
theorem se_yX6_thoseWhoCanSight : Cond.selects RX6 yX6_thoseWhoCanSight yX6_thoseWhoCanSight ∈ TB := tb_sel (q := (yX6_thoseWhoCanSight, 8)) (lw_priv_in 6 (by decide +kernel))
theorem se_yX4_nextSign : Cond.selects RX4 yX4_nextSign yX4_nextSign ∈ TB := tb_sel (q := (yX4_nextSign, 6)) (lw_priv_in 7 (by decide +kernel))
theorem se_yX4_readDigit : Cond.selects RX4 yX4_readDigit yX4_readDigit ∈ TB := tb_sel (q := (yX4_readDigit, 6)) (lw_priv_in 8 (by decide +kernel))
theorem se_yX4_readTwoDigits : Cond.selects RX4 yX4_readTwoDigits yX4_readTwoDigits ∈ TB := tb_sel (q := (yX4_readTwoDigits, 6)) (lw_priv_in 9 (by decide +kernel))
theorem se_yX4_readNumber : Cond.selects RX4 yX4_readNumber yX4_readNumber ∈ TB := tb_sel (q := (yX4_readNumber, 6)) (lw_priv_in 10 (by decide +kernel))
theorem se_yX4_readSignedNumber : Cond.selects RX4 yX4_readSignedNumber yX4_readSignedNumber ∈ TB := tb_sel (q := (yX4_readSignedNumber, 6)) (lw_priv_in 11 (by decide +kernel))
theorem se_yX7_obeyOrder : Cond.selects RX7 yX7_obeyOrder yX7_obeyOrder ∈ TB := tb_sel (q := (yX7_obeyOrder, 6)) (lw_priv_in 12 (by decide +kernel))
theorem se_yX8_setOf : Cond.selects RX8 yX8_setOf yX8_setOf ∈ TB := tb_sel (q := (yX8_setOf, 12)) (lw_priv_in 13 (by decide +kernel))
theorem se_yX8_putAside : Cond.selects RX8 yX8_putAside yX8_putAside ∈ TB := tb_sel (q := (yX8_putAside, 12)) (lw_priv_in 14 (by decide +kernel))
theorem se_yX8_push : Cond.selects RX8 yX8_push yX8_push ∈ TB := tb_sel (q := (yX8_push, 12)) (lw_priv_in 15 (by decide +kernel))
theorem se_yX8_recorded : Cond.selects RX8 yX8_recorded yX8_recorded ∈ TB := tb_sel (q := (yX8_recorded, 12)) (lw_priv_in 16 (by decide +kernel))
theorem se_yX8_comes : Cond.selects RX8 yX8_comes yX8_comes ∈ TB := tb_sel (q := (yX8_comes, 12)) (lw_priv_in 17 (by decide +kernel))
theorem se_yX8_clouds : Cond.selects RX8 yX8_clouds yX8_clouds ∈ TB := tb_sel (q := (yX8_clouds, 12)) (lw_priv_in 18 (by decide +kernel))
theorem se_yX8_isStar : Cond.selects RX8 yX8_isStar yX8_isStar ∈ TB := tb_sel (q := (yX8_isStar, 12)) (lw_priv_in 19 (by decide +kernel))
theorem se_yX8_number : Cond.selects RX8 yX8_number yX8_number ∈ TB := tb_sel (q := (yX8_number, 12)) (lw_priv_in 20 (by decide +kernel))
theorem se_yX8_sleeps : Cond.selects RX8 yX8_sleeps yX8_sleeps ∈ TB := tb_sel (q := (yX8_sleeps, 12)) (lw_priv_in 21 (by decide +kernel))
theorem se_yX8_aims : Cond.selects RX8 yX8_aims yX8_aims ∈ TB := tb_sel (q := (yX8_aims, 12)) (lw_priv_in 22 (by decide +kernel))
theorem se_yX8_sights : Cond.selects RX8 yX8_sights yX8_sights ∈ TB := tb_sel (q := (yX8_sights, 12)) (lw_priv_in 23 (by decide +kernel))
theorem se_yX8_whyNot : Cond.selects RX8 yX8_whyNot yX8_whyNot ∈ TB := tb_sel (q := (yX8_whyNot, 12)) (lw_priv_in 24 (by decide +kernel))
theorem se_yX8_reason : Cond.selects RX8 yX8_reason yX8_reason ∈ TB := tb_sel (q := (yX8_reason, 12)) (lw_priv_in 25 (by decide +kernel))
theorem se_yX8_height : Cond.selects RX8 yX8_height yX8_height ∈ TB := tb_sel (q := (yX8_height, 12)) (lw_priv_in 26 (by decide +kernel))
theorem se_yX8_wouldBelieve : Cond.selects RX8 yX8_wouldBelieve yX8_wouldBelieve ∈ TB := tb_sel (q := (yX8_wouldBelieve, 12)) (lw_priv_in 27 (by decide +kernel))
theorem se_yX8_error : Cond.selects RX8 yX8_error yX8_error ∈ TB := tb_sel (q := (yX8_error, 12)) (lw_priv_in 28 (by decide +kernel))
theorem se_yX8_agrees : Cond.selects RX8 yX8_agrees yX8_agrees ∈ TB := tb_sel (q := (yX8_agrees, 12)) (lw_priv_in 29 (by decide +kernel))
theorem se_yX8_parts : Cond.selects RX8 yX8_parts yX8_parts ∈ TB := tb_sel (q := (yX8_parts, 12)) (lw_priv_in 30 (by decide +kernel))
theorem se_yX8_takesPart : Cond.selects RX8 yX8_takesPart yX8_takesPart ∈ TB := tb_sel (q := (yX8_takesPart, 12)) (lw_priv_in 31 (by decide +kernel))
theorem se_yX8_middle : Cond.selects RX8 yX8_middle yX8_middle ∈ TB := tb_sel (q := (yX8_middle, 12)) (lw_priv_in 32 (by decide +kernel))
theorem se_yX8_lower : Cond.selects RX8 yX8_lower yX8_lower ∈ TB := tb_sel (q := (yX8_lower, 12)) (lw_priv_in 33 (by decide +kernel))
theorem se_yX8_judge : Cond.selects RX8 yX8_judge yX8_judge ∈ TB := tb_sel (q := (yX8_judge, 12)) (lw_priv_in 34 (by decide +kernel))
theorem se_yX8_sails : Cond.selects RX8 yX8_sails yX8_sails ∈ TB := tb_sel (q := (yX8_sails, 12)) (lw_priv_in 35 (by decide +kernel))
theorem se_yX8_passHour : Cond.selects RX8 yX8_passHour yX8_passHour ∈ TB := tb_sel (q := (yX8_passHour, 12)) (lw_priv_in 36 (by decide +kernel))
theorem se_yX8_ends : Cond.selects RX8 yX8_ends yX8_ends ∈ TB := tb_sel (q := (yX8_ends, 12)) (lw_priv_in 37 (by decide +kernel))
theorem se_yX8_belief : Cond.selects RX8 yX8_belief yX8_belief ∈ TB := tb_sel (q := (yX8_belief, 12)) (lw_priv_in 38 (by decide +kernel))
theorem se_yX8_estimate : Cond.selects RX8 yX8_estimate yX8_estimate ∈ TB := tb_sel (q := (yX8_estimate, 12)) (lw_priv_in 39 (by decide +kernel))
theorem se_yX8_whoCan : Cond.selects RX8 yX8_whoCan yX8_whoCan ∈ TB := tb_sel (q := (yX8_whoCan, 12)) (lw_priv_in 40 (by decide +kernel))
theorem se_yX8_those : Cond.selects RX8 yX8_those yX8_those ∈ TB := tb_sel (q := (yX8_those, 12)) (lw_priv_in 41 (by decide +kernel))
theorem se_yX8_mistake : Cond.selects RX8 yX8_mistake yX8_mistake ∈ TB := tb_sel (q := (yX8_mistake, 12)) (lw_priv_in 42 (by decide +kernel))
theorem se_yX8_takeBack : Cond.selects RX8 yX8_takeBack yX8_takeBack ∈ TB := tb_sel (q := (yX8_takeBack, 12)) (lw_priv_in 43 (by decide +kernel))
theorem se_yX8_findFault : Cond.selects RX8 yX8_findFault yX8_findFault ∈ TB := tb_sel (q := (yX8_findFault, 12)) (lw_priv_in 44 (by decide +kernel))
theorem se_yX8_readsOrder : Cond.selects RX8 yX8_readsOrder yX8_readsOrder ∈ TB := tb_sel (q := (yX8_readsOrder, 12)) (lw_priv_in 45 (by decide +kernel))
theorem se_yX8_code : Cond.selects RX8 yX8_code yX8_code ∈ TB := tb_sel (q := (yX8_code, 12)) (lw_priv_in 46 (by decide +kernel))
theorem se_yX8_readsSigned : Cond.selects RX8 yX8_readsSigned yX8_readsSigned ∈ TB := tb_sel (q := (yX8_readsSigned, 12)) (lw_priv_in 47 (by decide +kernel))
theorem se_yX8_takes : Cond.selects RX8 yX8_takes yX8_takes ∈ TB := tb_sel (q := (yX8_takes, 12)) (lw_priv_in 48 (by decide +kernel))
theorem se_yX8_readsNumber : Cond.selects RX8 yX8_readsNumber yX8_readsNumber ∈ TB := tb_sel (q := (yX8_readsNumber, 12)) (lw_priv_in 49 (by decide +kernel))
theorem se_yX8_takeDigit : Cond.selects RX8 yX8_takeDigit yX8_takeDigit ∈ TB := tb_sel (q := (yX8_takeDigit, 12)) (lw_priv_in 50 (by decide +kernel))
theorem se_yX8_readsDigits : Cond.selects RX8 yX8_readsDigits yX8_readsDigits ∈ TB := tb_sel (q := (yX8_readsDigits, 12)) (lw_priv_in 51 (by decide +kernel))
theorem se_yX8_doesOrder : Cond.selects RX8 yX8_doesOrder yX8_doesOrder ∈ TB := tb_sel (q := (yX8_doesOrder, 12)) (lw_priv_in 52 (by decide +kernel))
theorem in_RX0 : ∀ w ∈ u_ws RX0 TX0 4, w ∈ TB := tb_all [95, 97, 99, 101] (by decide +kernel) (by decide +kernel)
theorem in_RX1 : ∀ w ∈ u_ws RX1 TX1 7, w ∈ TB := tb_all [66, 68, 70, 72, 74, 76, 78] (by decide +kernel) (by decide +kernel)
theorem in_RX2 : ∀ w ∈ u_ws RX2 TX2 3, w ∈ TB := tb_all [159, 161, 163] (by decide +kernel) (by decide +kernel)
theorem in_RX3 : ∀ w ∈ u_ws RX3 TX3 1, w ∈ TB := tb_all [111] (by decide +kernel) (by decide +kernel)
theorem in_RX4 : ∀ w ∈ u_ws RX4 TX4 6, w ∈ TB := tb_all [182, 184, 186, 188, 190, 192] (by decide +kernel) (by decide +kernel)
theorem in_RX5 : ∀ w ∈ u_ws RX5 TX5 3, w ∈ TB := tb_all [39, 41, 43] (by decide +kernel) (by decide +kernel)
theorem in_RX6 : ∀ w ∈ u_ws RX6 TX6 8, w ∈ TB := tb_all [129, 131, 133, 135, 137, 139, 141, 143] (by decide +kernel) (by decide +kernel)
theorem in_RX7 : ∀ w ∈ u_ws RX7 TX7 6, w ∈ TB := tb_all [204, 206, 208, 210, 212, 214] (by decide +kernel) (by decide +kernel)
theorem in_RX8 : ∀ w ∈ u_ws RX8 TX8 12, w ∈ TB := tb_all [648, 650, 652, 654, 656, 658, 660, 662, 664, 666, 668, 670] (by decide +kernel) (by decide +kernel)
theorem nl_RX6_17 : Cond.methodLinkNest RX6 17 yX5_init RX7 ∈ NB := nb_of 28 (by decide +kernel) rfl
theorem nl_RX6_31 : Cond.methodLinkNest RX6 31 yX0_init RX7 ∈ NB := nb_of 83 (by decide +kernel) rfl
theorem nl_RX6_38 : Cond.methodLinkNest RX6 38 yX3_init RX7 ∈ NB := nb_of 106 (by decide +kernel) rfl
theorem nl_RX7_25 : Cond.methodLinkNest RX7 25 yX4_init RX7 ∈ NB := nb_of 168 (by decide +kernel) rfl
theorem nl_RX7_40 : Cond.methodLinkNest RX7 40 yX0_init RX7 ∈ NB := nb_of 197 (by decide +kernel) rfl
theorem nl_RX6_81 : Cond.methodLinkNest RX6 81 yX7_isOnEarth RX7 ∈ NB := nb_of 269 (by decide +kernel) rfl
theorem nl_RX6_101 : Cond.methodLinkNest RX6 101 yX7_isNavigator RX7 ∈ NB := nb_of 296 (by decide +kernel) rfl
theorem nl_RX6_152 : Cond.methodLinkNest RX6 152 yX7_keptOnEarth RX7 ∈ NB := nb_of 350 (by decide +kernel) rfl
theorem nl_RX0_33 : Cond.methodLinkNest RX0 33 yX7_keptOnEarth RX7 ∈ NB := nb_of 406 (by decide +kernel) rfl
theorem nl_RX6_174 : Cond.methodLinkNest RX6 174 yX7_toldLatitude RX7 ∈ NB := nb_of 415 (by decide +kernel) rfl
theorem nl_RX1_39 : Cond.methodLinkNest RX1 39 yX7_toldLatitude RX7 ∈ NB := nb_of 435 (by decide +kernel) rfl
end
section
theorem dX0_init_0 : decode cX0_init 0 = .ok (.aload_n 0, 1) := by decide +kernel
theorem dX0_init_1 : decode cX0_init 1 = .ok (.invokespecial 3, 3) := by decide +kernel
theorem dX0_init_4 : decode cX0_init 4 = .ok (.aload_n 0, 1) := by decide +kernel
theorem dX0_init_5 : decode cX0_init 5 = .ok (.iconst 0, 1) := by decide +kernel
theorem dX0_init_6 : decode cX0_init 6 = .ok (.putfield 9, 3) := by decide +kernel
theorem dX0_init_9 : decode cX0_init 9 = .ok (.aload_n 0, 1) := by decide +kernel
theorem dX0_init_10 : decode cX0_init 10 = .ok (.sipush 9999, 3) := by decide +kernel
theorem dX0_init_13 : decode cX0_init 13 = .ok (.putfield 15, 3) := by decide +kernel
theorem dX0_init_16 : decode cX0_init 16 = .ok (.aload_n 0, 1) := by decide +kernel
theorem dX0_init_17 : decode cX0_init 17 = .ok (.iconst 0, 1) := by decide +kernel
theorem dX0_init_18 : decode cX0_init 18 = .ok (.putfield 18, 3) := by decide +kernel
theorem dX0_init_21 : decode cX0_init 21 = .ok (.aload_n 0, 1) := by decide +kernel
theorem dX0_init_22 : decode cX0_init 22 = .ok (.iconst 0, 1) := by decide +kernel
theorem dX0_init_23 : decode cX0_init 23 = .ok (.putfield 21, 3) := by decide +kernel
theorem dX0_init_26 : decode cX0_init 26 = .ok (.return_, 1) := by decide +kernel
theorem dX0_copyFrom_0 : decode cX0_copyFrom 0 = .ok (.aload_n 0, 1) := by decide +kernel
theorem dX0_copyFrom_1 : decode cX0_copyFrom 1 = .ok (.aload_n 1, 1) := by decide +kernel
theorem dX0_copyFrom_2 : decode cX0_copyFrom 2 = .ok (.getfield 9, 3) := by decide +kernel
theorem dX0_copyFrom_5 : decode cX0_copyFrom 5 = .ok (.putfield 9, 3) := by decide +kernel
theorem dX0_copyFrom_8 : decode cX0_copyFrom 8 = .ok (.aload_n 0, 1) := by decide +kernel
theorem dX0_copyFrom_9 : decode cX0_copyFrom 9 = .ok (.aload_n 1, 1) := by decide +kernel
theorem dX0_copyFrom_10 : decode cX0_copyFrom 10 = .ok (.getfield 15, 3) := by decide +kernel
theorem dX0_copyFrom_13 : decode cX0_copyFrom 13 = .ok (.putfield 15, 3) := by decide +kernel
theorem dX0_copyFrom_16 : decode cX0_copyFrom 16 = .ok (.aload_n 0, 1) := by decide +kernel
theorem dX0_copyFrom_17 : decode cX0_copyFrom 17 = .ok (.aload_n 1, 1) := by decide +kernel
theorem dX0_copyFrom_18 : decode cX0_copyFrom 18 = .ok (.getfield 18, 3) := by decide +kernel
theorem dX0_copyFrom_21 : decode cX0_copyFrom 21 = .ok (.putfield 18, 3) := by decide +kernel
theorem dX0_copyFrom_24 : decode cX0_copyFrom 24 = .ok (.aload_n 0, 1) := by decide +kernel
theorem dX0_copyFrom_25 : decode cX0_copyFrom 25 = .ok (.aload_n 1, 1) := by decide +kernel
theorem dX0_copyFrom_26 : decode cX0_copyFrom 26 = .ok (.getfield 21, 3) := by decide +kernel
theorem dX0_copyFrom_29 : decode cX0_copyFrom 29 = .ok (.putfield 21, 3) := by decide +kernel
theorem dX0_copyFrom_32 : decode cX0_copyFrom 32 = .ok (.return_, 1) := by decide +kernel
theorem dX0_sailOneHour_0 : decode cX0_sailOneHour 0 = .ok (.aload_n 0, 1) := by decide +kernel
theorem dX0_sailOneHour_1 : decode cX0_sailOneHour 1 = .ok (.getfield 15, 3) := by decide +kernel
theorem dX0_sailOneHour_4 : decode cX0_sailOneHour 4 = .ok (.sipush 9999, 3) := by decide +kernel
theorem dX0_sailOneHour_7 : decode cX0_sailOneHour 7 = .ok (.if_icmp .eq 48, 3) := by decide +kernel
theorem dX0_sailOneHour_10 : decode cX0_sailOneHour 10 = .ok (.iload_n 2, 1) := by decide +kernel
theorem dX0_sailOneHour_11 : decode cX0_sailOneHour 11 = .ok (.ineg, 1) := by decide +kernel
theorem dX0_sailOneHour_12 : decode cX0_sailOneHour 12 = .ok (.iload_n 2, 1) := by decide +kernel
theorem dX0_sailOneHour_13 : decode cX0_sailOneHour 13 = .ok (.aload_n 0, 1) := by decide +kernel
theorem dX0_sailOneHour_14 : decode cX0_sailOneHour 14 = .ok (.getfield 18, 3) := by decide +kernel
theorem dX0_sailOneHour_17 : decode cX0_sailOneHour 17 = .ok (.aload_n 0, 1) := by decide +kernel
theorem dX0_sailOneHour_18 : decode cX0_sailOneHour 18 = .ok (.getfield 15, 3) := by decide +kernel
theorem dX0_sailOneHour_21 : decode cX0_sailOneHour 21 = .ok (.isub, 1) := by decide +kernel
theorem dX0_sailOneHour_22 : decode cX0_sailOneHour 22 = .ok (.invokestatic 24, 3) := by decide +kernel
theorem dX0_sailOneHour_25 : decode cX0_sailOneHour 25 = .ok (.invokestatic 30, 3) := by decide +kernel
theorem dX0_sailOneHour_28 : decode cX0_sailOneHour 28 = .ok (.istore_n 3, 1) := by decide +kernel
theorem dX0_sailOneHour_29 : decode cX0_sailOneHour 29 = .ok (.aload_n 0, 1) := by decide +kernel
theorem dX0_sailOneHour_30 : decode cX0_sailOneHour 30 = .ok (.aload_n 0, 1) := by decide +kernel
theorem dX0_sailOneHour_31 : decode cX0_sailOneHour 31 = .ok (.getfield 9, 3) := by decide +kernel
theorem dX0_sailOneHour_34 : decode cX0_sailOneHour 34 = .ok (.iload_n 3, 1) := by decide +kernel
theorem dX0_sailOneHour_35 : decode cX0_sailOneHour 35 = .ok (.iadd, 1) := by decide +kernel
theorem dX0_sailOneHour_36 : decode cX0_sailOneHour 36 = .ok (.invokestatic 33, 3) := by decide +kernel
theorem dX0_sailOneHour_39 : decode cX0_sailOneHour 39 = .ok (.putfield 9, 3) := by decide +kernel
theorem dX0_sailOneHour_42 : decode cX0_sailOneHour 42 = .ok (.aload_n 0, 1) := by decide +kernel
theorem dX0_sailOneHour_43 : decode cX0_sailOneHour 43 = .ok (.aload_n 0, 1) := by decide +kernel
theorem dX0_sailOneHour_44 : decode cX0_sailOneHour 44 = .ok (.getfield 15, 3) := by decide +kernel
theorem dX0_sailOneHour_47 : decode cX0_sailOneHour 47 = .ok (.iload_n 3, 1) := by decide +kernel
theorem dX0_sailOneHour_48 : decode cX0_sailOneHour 48 = .ok (.iadd, 1) := by decide +kernel
theorem dX0_sailOneHour_49 : decode cX0_sailOneHour 49 = .ok (.invokestatic 33, 3) := by decide +kernel
theorem dX0_sailOneHour_52 : decode cX0_sailOneHour 52 = .ok (.putfield 15, 3) := by decide +kernel
theorem dX0_sailOneHour_55 : decode cX0_sailOneHour 55 = .ok (.aload_n 0, 1) := by decide +kernel
theorem dX0_sailOneHour_56 : decode cX0_sailOneHour 56 = .ok (.aload_n 0, 1) := by decide +kernel
theorem dX0_sailOneHour_57 : decode cX0_sailOneHour 57 = .ok (.getfield 9, 3) := by decide +kernel
theorem dX0_sailOneHour_60 : decode cX0_sailOneHour 60 = .ok (.iload_n 1, 1) := by decide +kernel
theorem dX0_sailOneHour_61 : decode cX0_sailOneHour 61 = .ok (.iadd, 1) := by decide +kernel
theorem dX0_sailOneHour_62 : decode cX0_sailOneHour 62 = .ok (.invokestatic 33, 3) := by decide +kernel
theorem dX0_sailOneHour_65 : decode cX0_sailOneHour 65 = .ok (.putfield 9, 3) := by decide +kernel
theorem dX0_sailOneHour_68 : decode cX0_sailOneHour 68 = .ok (.aload_n 0, 1) := by decide +kernel
theorem dX0_sailOneHour_69 : decode cX0_sailOneHour 69 = .ok (.dup, 1) := by decide +kernel
theorem dX0_sailOneHour_70 : decode cX0_sailOneHour 70 = .ok (.getfield 21, 3) := by decide +kernel
theorem dX0_sailOneHour_73 : decode cX0_sailOneHour 73 = .ok (.iconst 1, 1) := by decide +kernel
theorem dX0_sailOneHour_74 : decode cX0_sailOneHour 74 = .ok (.iadd, 1) := by decide +kernel
theorem dX0_sailOneHour_75 : decode cX0_sailOneHour 75 = .ok (.putfield 21, 3) := by decide +kernel
theorem dX0_sailOneHour_78 : decode cX0_sailOneHour 78 = .ok (.return_, 1) := by decide +kernel
theorem dX0_distanceToGoal_0 : decode cX0_distanceToGoal 0 = .ok (.aload_n 0, 1) := by decide +kernel
theorem dX0_distanceToGoal_1 : decode cX0_distanceToGoal 1 = .ok (.getfield 18, 3) := by decide +kernel
theorem dX0_distanceToGoal_4 : decode cX0_distanceToGoal 4 = .ok (.aload_n 0, 1) := by decide +kernel
theorem dX0_distanceToGoal_5 : decode cX0_distanceToGoal 5 = .ok (.getfield 9, 3) := by decide +kernel
theorem dX0_distanceToGoal_8 : decode cX0_distanceToGoal 8 = .ok (.isub, 1) := by decide +kernel
theorem dX0_distanceToGoal_9 : decode cX0_distanceToGoal 9 = .ok (.invokestatic 37, 3) := by decide +kernel
theorem dX0_distanceToGoal_12 : decode cX0_distanceToGoal 12 = .ok (.ireturn, 1) := by decide +kernel
theorem dX0_mistake_0 : decode cX0_mistake 0 = .ok (.aload_n 0, 1) := by decide +kernel
theorem dX0_mistake_1 : decode cX0_mistake 1 = .ok (.getfield 15, 3) := by decide +kernel
theorem dX0_mistake_4 : decode cX0_mistake 4 = .ok (.sipush 9999, 3) := by decide +kernel
theorem dX0_mistake_7 : decode cX0_mistake 7 = .ok (.if_icmp .ne 8, 3) := by decide +kernel
theorem dX0_mistake_10 : decode cX0_mistake 10 = .ok (.bipush (-6), 2) := by decide +kernel
theorem dX0_mistake_12 : decode cX0_mistake 12 = .ok (.goto 15, 3) := by decide +kernel
theorem dX0_mistake_15 : decode cX0_mistake 15 = .ok (.aload_n 0, 1) := by decide +kernel
theorem dX0_mistake_16 : decode cX0_mistake 16 = .ok (.getfield 15, 3) := by decide +kernel
theorem dX0_mistake_19 : decode cX0_mistake 19 = .ok (.aload_n 0, 1) := by decide +kernel
theorem dX0_mistake_20 : decode cX0_mistake 20 = .ok (.getfield 9, 3) := by decide +kernel
theorem dX0_mistake_23 : decode cX0_mistake 23 = .ok (.isub, 1) := by decide +kernel
theorem dX0_mistake_24 : decode cX0_mistake 24 = .ok (.invokestatic 37, 3) := by decide +kernel
theorem dX0_mistake_27 : decode cX0_mistake 27 = .ok (.ireturn, 1) := by decide +kernel
theorem dX1_init_0 : decode cX1_init 0 = .ok (.aload_n 0, 1) := by decide +kernel
theorem dX1_init_1 : decode cX1_init 1 = .ok (.invokespecial 3, 3) := by decide +kernel
theorem dX1_init_4 : decode cX1_init 4 = .ok (.aload_n 0, 1) := by decide +kernel
theorem dX1_init_5 : decode cX1_init 5 = .ok (.bipush 7, 2) := by decide +kernel
theorem dX1_init_7 : decode cX1_init 7 = .ok (.newarray .int, 2) := by decide +kernel
theorem dX1_init_9 : decode cX1_init 9 = .ok (.putfield 9, 3) := by decide +kernel
theorem dX1_init_12 : decode cX1_init 12 = .ok (.aload_n 0, 1) := by decide +kernel
theorem dX1_init_13 : decode cX1_init 13 = .ok (.bipush 7, 2) := by decide +kernel
theorem dX1_init_15 : decode cX1_init 15 = .ok (.newarray .int, 2) := by decide +kernel
theorem dX1_init_17 : decode cX1_init 17 = .ok (.putfield 15, 3) := by decide +kernel
theorem dX1_init_20 : decode cX1_init 20 = .ok (.aload_n 0, 1) := by decide +kernel
theorem dX1_init_21 : decode cX1_init 21 = .ok (.bipush 7, 2) := by decide +kernel
theorem dX1_init_23 : decode cX1_init 23 = .ok (.newarray .int, 2) := by decide +kernel
theorem dX1_init_25 : decode cX1_init 25 = .ok (.putfield 18, 3) := by decide +kernel
theorem dX1_init_28 : decode cX1_init 28 = .ok (.aload_n 0, 1) := by decide +kernel
theorem dX1_init_29 : decode cX1_init 29 = .ok (.bipush 7, 2) := by decide +kernel
theorem dX1_init_31 : decode cX1_init 31 = .ok (.newarray .int, 2) := by decide +kernel
theorem dX1_init_33 : decode cX1_init 33 = .ok (.putfield 21, 3) := by decide +kernel
theorem dX1_init_36 : decode cX1_init 36 = .ok (.aload_n 0, 1) := by decide +kernel
theorem dX1_init_37 : decode cX1_init 37 = .ok (.bipush 7, 2) := by decide +kernel
theorem dX1_init_39 : decode cX1_init 39 = .ok (.newarray .int, 2) := by decide +kernel
theorem dX1_init_41 : decode cX1_init 41 = .ok (.putfield 24, 3) := by decide +kernel
theorem dX1_init_44 : decode cX1_init 44 = .ok (.aload_n 0, 1) := by decide +kernel
theorem dX1_init_45 : decode cX1_init 45 = .ok (.bipush 7, 2) := by decide +kernel
theorem dX1_init_47 : decode cX1_init 47 = .ok (.newarray .int, 2) := by decide +kernel
theorem dX1_init_49 : decode cX1_init 49 = .ok (.putfield 27, 3) := by decide +kernel
theorem dX1_init_52 : decode cX1_init 52 = .ok (.aload_n 0, 1) := by decide +kernel
theorem dX1_init_53 : decode cX1_init 53 = .ok (.bipush 7, 2) := by decide +kernel
theorem dX1_init_55 : decode cX1_init 55 = .ok (.newarray .int, 2) := by decide +kernel
theorem dX1_init_57 : decode cX1_init 57 = .ok (.putfield 30, 3) := by decide +kernel
theorem dX1_init_60 : decode cX1_init 60 = .ok (.iconst 0, 1) := by decide +kernel
theorem dX1_init_61 : decode cX1_init 61 = .ok (.istore_n 1, 1) := by decide +kernel
theorem dX1_init_62 : decode cX1_init 62 = .ok (.iload_n 1, 1) := by decide +kernel
theorem dX1_init_63 : decode cX1_init 63 = .ok (.bipush 7, 2) := by decide +kernel
theorem dX1_init_65 : decode cX1_init 65 = .ok (.if_icmp .ge 32, 3) := by decide +kernel
theorem dX1_init_68 : decode cX1_init 68 = .ok (.aload_n 0, 1) := by decide +kernel
theorem dX1_init_69 : decode cX1_init 69 = .ok (.getfield 9, 3) := by decide +kernel
theorem dX1_init_72 : decode cX1_init 72 = .ok (.iload_n 1, 1) := by decide +kernel
theorem dX1_init_73 : decode cX1_init 73 = .ok (.iconst 5, 1) := by decide +kernel
theorem dX1_init_74 : decode cX1_init 74 = .ok (.iastore, 1) := by decide +kernel
theorem dX1_init_75 : decode cX1_init 75 = .ok (.aload_n 0, 1) := by decide +kernel
theorem dX1_init_76 : decode cX1_init 76 = .ok (.getfield 18, 3) := by decide +kernel
theorem dX1_init_79 : decode cX1_init 79 = .ok (.iload_n 1, 1) := by decide +kernel
theorem dX1_init_80 : decode cX1_init 80 = .ok (.iconst 1, 1) := by decide +kernel
theorem dX1_init_81 : decode cX1_init 81 = .ok (.iastore, 1) := by decide +kernel
theorem dX1_init_82 : decode cX1_init 82 = .ok (.aload_n 0, 1) := by decide +kernel
theorem dX1_init_83 : decode cX1_init 83 = .ok (.getfield 27, 3) := by decide +kernel
theorem dX1_init_86 : decode cX1_init 86 = .ok (.iload_n 1, 1) := by decide +kernel
theorem dX1_init_87 : decode cX1_init 87 = .ok (.sipush 9999, 3) := by decide +kernel
theorem dX1_init_90 : decode cX1_init 90 = .ok (.iastore, 1) := by decide +kernel
theorem dX1_init_91 : decode cX1_init 91 = .ok (.iinc 1 1, 3) := by decide +kernel
theorem dX1_init_94 : decode cX1_init 94 = .ok (.goto (-32), 3) := by decide +kernel
theorem dX1_init_97 : decode cX1_init 97 = .ok (.return_, 1) := by decide +kernel
theorem dX1_copyFrom_0 : decode cX1_copyFrom 0 = .ok (.aload_n 1, 1) := by decide +kernel
theorem dX1_copyFrom_1 : decode cX1_copyFrom 1 = .ok (.getfield 9, 3) := by decide +kernel
theorem dX1_copyFrom_4 : decode cX1_copyFrom 4 = .ok (.iconst 0, 1) := by decide +kernel
theorem dX1_copyFrom_5 : decode cX1_copyFrom 5 = .ok (.aload_n 0, 1) := by decide +kernel
theorem dX1_copyFrom_6 : decode cX1_copyFrom 6 = .ok (.getfield 9, 3) := by decide +kernel
theorem dX1_copyFrom_9 : decode cX1_copyFrom 9 = .ok (.iconst 0, 1) := by decide +kernel
theorem dX1_copyFrom_10 : decode cX1_copyFrom 10 = .ok (.bipush 7, 2) := by decide +kernel
theorem dX1_copyFrom_12 : decode cX1_copyFrom 12 = .ok (.invokestatic 33, 3) := by decide +kernel
theorem dX1_copyFrom_15 : decode cX1_copyFrom 15 = .ok (.aload_n 1, 1) := by decide +kernel
theorem dX1_copyFrom_16 : decode cX1_copyFrom 16 = .ok (.getfield 15, 3) := by decide +kernel
theorem dX1_copyFrom_19 : decode cX1_copyFrom 19 = .ok (.iconst 0, 1) := by decide +kernel
theorem dX1_copyFrom_20 : decode cX1_copyFrom 20 = .ok (.aload_n 0, 1) := by decide +kernel
theorem dX1_copyFrom_21 : decode cX1_copyFrom 21 = .ok (.getfield 15, 3) := by decide +kernel
theorem dX1_copyFrom_24 : decode cX1_copyFrom 24 = .ok (.iconst 0, 1) := by decide +kernel
theorem dX1_copyFrom_25 : decode cX1_copyFrom 25 = .ok (.bipush 7, 2) := by decide +kernel
theorem dX1_copyFrom_27 : decode cX1_copyFrom 27 = .ok (.invokestatic 33, 3) := by decide +kernel
theorem dX1_copyFrom_30 : decode cX1_copyFrom 30 = .ok (.aload_n 1, 1) := by decide +kernel
theorem dX1_copyFrom_31 : decode cX1_copyFrom 31 = .ok (.getfield 18, 3) := by decide +kernel
theorem dX1_copyFrom_34 : decode cX1_copyFrom 34 = .ok (.iconst 0, 1) := by decide +kernel
theorem dX1_copyFrom_35 : decode cX1_copyFrom 35 = .ok (.aload_n 0, 1) := by decide +kernel
theorem dX1_copyFrom_36 : decode cX1_copyFrom 36 = .ok (.getfield 18, 3) := by decide +kernel
theorem dX1_copyFrom_39 : decode cX1_copyFrom 39 = .ok (.iconst 0, 1) := by decide +kernel
theorem dX1_copyFrom_40 : decode cX1_copyFrom 40 = .ok (.bipush 7, 2) := by decide +kernel
theorem dX1_copyFrom_42 : decode cX1_copyFrom 42 = .ok (.invokestatic 33, 3) := by decide +kernel
theorem dX1_copyFrom_45 : decode cX1_copyFrom 45 = .ok (.aload_n 1, 1) := by decide +kernel
theorem dX1_copyFrom_46 : decode cX1_copyFrom 46 = .ok (.getfield 21, 3) := by decide +kernel
theorem dX1_copyFrom_49 : decode cX1_copyFrom 49 = .ok (.iconst 0, 1) := by decide +kernel
theorem dX1_copyFrom_50 : decode cX1_copyFrom 50 = .ok (.aload_n 0, 1) := by decide +kernel
theorem dX1_copyFrom_51 : decode cX1_copyFrom 51 = .ok (.getfield 21, 3) := by decide +kernel
theorem dX1_copyFrom_54 : decode cX1_copyFrom 54 = .ok (.iconst 0, 1) := by decide +kernel
theorem dX1_copyFrom_55 : decode cX1_copyFrom 55 = .ok (.bipush 7, 2) := by decide +kernel
theorem dX1_copyFrom_57 : decode cX1_copyFrom 57 = .ok (.invokestatic 33, 3) := by decide +kernel
theorem dX1_copyFrom_60 : decode cX1_copyFrom 60 = .ok (.aload_n 1, 1) := by decide +kernel
theorem dX1_copyFrom_61 : decode cX1_copyFrom 61 = .ok (.getfield 24, 3) := by decide +kernel
theorem dX1_copyFrom_64 : decode cX1_copyFrom 64 = .ok (.iconst 0, 1) := by decide +kernel
theorem dX1_copyFrom_65 : decode cX1_copyFrom 65 = .ok (.aload_n 0, 1) := by decide +kernel
theorem dX1_copyFrom_66 : decode cX1_copyFrom 66 = .ok (.getfield 24, 3) := by decide +kernel
theorem dX1_copyFrom_69 : decode cX1_copyFrom 69 = .ok (.iconst 0, 1) := by decide +kernel
theorem dX1_copyFrom_70 : decode cX1_copyFrom 70 = .ok (.bipush 7, 2) := by decide +kernel
theorem dX1_copyFrom_72 : decode cX1_copyFrom 72 = .ok (.invokestatic 33, 3) := by decide +kernel
theorem dX1_copyFrom_75 : decode cX1_copyFrom 75 = .ok (.aload_n 1, 1) := by decide +kernel
theorem dX1_copyFrom_76 : decode cX1_copyFrom 76 = .ok (.getfield 27, 3) := by decide +kernel
theorem dX1_copyFrom_79 : decode cX1_copyFrom 79 = .ok (.iconst 0, 1) := by decide +kernel
theorem dX1_copyFrom_80 : decode cX1_copyFrom 80 = .ok (.aload_n 0, 1) := by decide +kernel
theorem dX1_copyFrom_81 : decode cX1_copyFrom 81 = .ok (.getfield 27, 3) := by decide +kernel
theorem dX1_copyFrom_84 : decode cX1_copyFrom 84 = .ok (.iconst 0, 1) := by decide +kernel
theorem dX1_copyFrom_85 : decode cX1_copyFrom 85 = .ok (.bipush 7, 2) := by decide +kernel
theorem dX1_copyFrom_87 : decode cX1_copyFrom 87 = .ok (.invokestatic 33, 3) := by decide +kernel
theorem dX1_copyFrom_90 : decode cX1_copyFrom 90 = .ok (.aload_n 1, 1) := by decide +kernel
theorem dX1_copyFrom_91 : decode cX1_copyFrom 91 = .ok (.getfield 30, 3) := by decide +kernel
theorem dX1_copyFrom_94 : decode cX1_copyFrom 94 = .ok (.iconst 0, 1) := by decide +kernel
theorem dX1_copyFrom_95 : decode cX1_copyFrom 95 = .ok (.aload_n 0, 1) := by decide +kernel
theorem dX1_copyFrom_96 : decode cX1_copyFrom 96 = .ok (.getfield 30, 3) := by decide +kernel
theorem dX1_copyFrom_99 : decode cX1_copyFrom 99 = .ok (.iconst 0, 1) := by decide +kernel
theorem dX1_copyFrom_100 : decode cX1_copyFrom 100 = .ok (.bipush 7, 2) := by decide +kernel
theorem dX1_copyFrom_102 : decode cX1_copyFrom 102 = .ok (.invokestatic 33, 3) := by decide +kernel
theorem dX1_copyFrom_105 : decode cX1_copyFrom 105 = .ok (.return_, 1) := by decide +kernel
theorem dX1_factOf_0 : decode cX1_factOf 0 = .ok (.iload_n 2, 1) := by decide +kernel
theorem dX1_factOf_1 : decode cX1_factOf 1 = .ok (.tableswitch 112 0 7 #[47, 54, 64, 71, 78, 85, 95, 102], 47) := by decide +kernel
theorem dX1_factOf_48 : decode cX1_factOf 48 = .ok (.aload_n 0, 1) := by decide +kernel
theorem dX1_factOf_49 : decode cX1_factOf 49 = .ok (.getfield 9, 3) := by decide +kernel
theorem dX1_factOf_52 : decode cX1_factOf 52 = .ok (.iload_n 1, 1) := by decide +kernel
theorem dX1_factOf_53 : decode cX1_factOf 53 = .ok (.iaload, 1) := by decide +kernel
theorem dX1_factOf_54 : decode cX1_factOf 54 = .ok (.ireturn, 1) := by decide +kernel
theorem dX1_factOf_55 : decode cX1_factOf 55 = .ok (.aload_n 0, 1) := by decide +kernel
theorem dX1_factOf_56 : decode cX1_factOf 56 = .ok (.getfield 15, 3) := by decide +kernel
theorem dX1_factOf_59 : decode cX1_factOf 59 = .ok (.iload_n 1, 1) := by decide +kernel
theorem dX1_factOf_60 : decode cX1_factOf 60 = .ok (.iaload, 1) := by decide +kernel
theorem dX1_factOf_61 : decode cX1_factOf 61 = .ok (.bipush 60, 2) := by decide +kernel
theorem dX1_factOf_63 : decode cX1_factOf 63 = .ok (.iadd, 1) := by decide +kernel
theorem dX1_factOf_64 : decode cX1_factOf 64 = .ok (.ireturn, 1) := by decide +kernel
theorem dX1_factOf_65 : decode cX1_factOf 65 = .ok (.aload_n 0, 1) := by decide +kernel
theorem dX1_factOf_66 : decode cX1_factOf 66 = .ok (.getfield 18, 3) := by decide +kernel
theorem dX1_factOf_69 : decode cX1_factOf 69 = .ok (.iload_n 1, 1) := by decide +kernel
theorem dX1_factOf_70 : decode cX1_factOf 70 = .ok (.iaload, 1) := by decide +kernel
theorem dX1_factOf_71 : decode cX1_factOf 71 = .ok (.ireturn, 1) := by decide +kernel
theorem dX1_factOf_72 : decode cX1_factOf 72 = .ok (.aload_n 0, 1) := by decide +kernel
theorem dX1_factOf_73 : decode cX1_factOf 73 = .ok (.getfield 21, 3) := by decide +kernel
theorem dX1_factOf_76 : decode cX1_factOf 76 = .ok (.iload_n 1, 1) := by decide +kernel
theorem dX1_factOf_77 : decode cX1_factOf 77 = .ok (.iaload, 1) := by decide +kernel
theorem dX1_factOf_78 : decode cX1_factOf 78 = .ok (.ireturn, 1) := by decide +kernel
theorem dX1_factOf_79 : decode cX1_factOf 79 = .ok (.aload_n 0, 1) := by decide +kernel
theorem dX1_factOf_80 : decode cX1_factOf 80 = .ok (.getfield 24, 3) := by decide +kernel
theorem dX1_factOf_83 : decode cX1_factOf 83 = .ok (.iload_n 1, 1) := by decide +kernel
theorem dX1_factOf_84 : decode cX1_factOf 84 = .ok (.iaload, 1) := by decide +kernel
theorem dX1_factOf_85 : decode cX1_factOf 85 = .ok (.ireturn, 1) := by decide +kernel
theorem dX1_factOf_86 : decode cX1_factOf 86 = .ok (.aload_n 0, 1) := by decide +kernel
theorem dX1_factOf_87 : decode cX1_factOf 87 = .ok (.getfield 27, 3) := by decide +kernel
theorem dX1_factOf_90 : decode cX1_factOf 90 = .ok (.iload_n 1, 1) := by decide +kernel
theorem dX1_factOf_91 : decode cX1_factOf 91 = .ok (.iaload, 1) := by decide +kernel
theorem dX1_factOf_92 : decode cX1_factOf 92 = .ok (.invokestatic 39, 3) := by decide +kernel
theorem dX1_factOf_95 : decode cX1_factOf 95 = .ok (.ireturn, 1) := by decide +kernel
theorem dX1_factOf_96 : decode cX1_factOf 96 = .ok (.aload_n 0, 1) := by decide +kernel
theorem dX1_factOf_97 : decode cX1_factOf 97 = .ok (.getfield 30, 3) := by decide +kernel
theorem dX1_factOf_100 : decode cX1_factOf 100 = .ok (.iload_n 1, 1) := by decide +kernel
theorem dX1_factOf_101 : decode cX1_factOf 101 = .ok (.iaload, 1) := by decide +kernel
theorem dX1_factOf_102 : decode cX1_factOf 102 = .ok (.ireturn, 1) := by decide +kernel
theorem dX1_factOf_103 : decode cX1_factOf 103 = .ok (.aload_n 0, 1) := by decide +kernel
theorem dX1_factOf_104 : decode cX1_factOf 104 = .ok (.iload_n 1, 1) := by decide +kernel
theorem dX1_factOf_105 : decode cX1_factOf 105 = .ok (.invokevirtual 43, 3) := by decide +kernel
theorem dX1_factOf_108 : decode cX1_factOf 108 = .ok (.sipush 999, 3) := by decide +kernel
theorem dX1_factOf_111 : decode cX1_factOf 111 = .ok (.iadd, 1) := by decide +kernel
theorem dX1_factOf_112 : decode cX1_factOf 112 = .ok (.ireturn, 1) := by decide +kernel
theorem dX1_factOf_113 : decode cX1_factOf 113 = .ok (.bipush (-2), 2) := by decide +kernel
theorem dX1_factOf_115 : decode cX1_factOf 115 = .ok (.ireturn, 1) := by decide +kernel
theorem dX1_errorOfNextSight_0 : decode cX1_errorOfNextSight 0 = .ok (.iconst 3, 1) := by decide +kernel
theorem dX1_errorOfNextSight_1 : decode cX1_errorOfNextSight 1 = .ok (.iload_n 1, 1) := by decide +kernel
theorem dX1_errorOfNextSight_2 : decode cX1_errorOfNextSight 2 = .ok (.imul, 1) := by decide +kernel
theorem dX1_errorOfNextSight_3 : decode cX1_errorOfNextSight 3 = .ok (.bipush 7, 2) := by decide +kernel
theorem dX1_errorOfNextSight_5 : decode cX1_errorOfNextSight 5 = .ok (.aload_n 0, 1) := by decide +kernel
theorem dX1_errorOfNextSight_6 : decode cX1_errorOfNextSight 6 = .ok (.getfield 24, 3) := by decide +kernel
theorem dX1_errorOfNextSight_9 : decode cX1_errorOfNextSight 9 = .ok (.iload_n 1, 1) := by decide +kernel
theorem dX1_errorOfNextSight_10 : decode cX1_errorOfNextSight 10 = .ok (.iaload, 1) := by decide +kernel
theorem dX1_errorOfNextSight_11 : decode cX1_errorOfNextSight 11 = .ok (.imul, 1) := by decide +kernel
theorem dX1_errorOfNextSight_12 : decode cX1_errorOfNextSight 12 = .ok (.iadd, 1) := by decide +kernel
theorem dX1_errorOfNextSight_13 : decode cX1_errorOfNextSight 13 = .ok (.bipush 11, 2) := by decide +kernel
theorem dX1_errorOfNextSight_15 : decode cX1_errorOfNextSight 15 = .ok (.irem, 1) := by decide +kernel
theorem dX1_errorOfNextSight_16 : decode cX1_errorOfNextSight 16 = .ok (.iconst 5, 1) := by decide +kernel
theorem dX1_errorOfNextSight_17 : decode cX1_errorOfNextSight 17 = .ok (.isub, 1) := by decide +kernel
theorem dX1_errorOfNextSight_18 : decode cX1_errorOfNextSight 18 = .ok (.istore_n 2, 1) := by decide +kernel
theorem dX1_errorOfNextSight_19 : decode cX1_errorOfNextSight 19 = .ok (.aload_n 0, 1) := by decide +kernel
theorem dX1_errorOfNextSight_20 : decode cX1_errorOfNextSight 20 = .ok (.getfield 15, 3) := by decide +kernel
theorem dX1_errorOfNextSight_23 : decode cX1_errorOfNextSight 23 = .ok (.iload_n 1, 1) := by decide +kernel
theorem dX1_errorOfNextSight_24 : decode cX1_errorOfNextSight 24 = .ok (.iaload, 1) := by decide +kernel
theorem dX1_errorOfNextSight_25 : decode cX1_errorOfNextSight 25 = .ok (.bipush 9, 2) := by decide +kernel
theorem dX1_errorOfNextSight_27 : decode cX1_errorOfNextSight 27 = .ok (.aload_n 0, 1) := by decide +kernel
theorem dX1_errorOfNextSight_28 : decode cX1_errorOfNextSight 28 = .ok (.getfield 9, 3) := by decide +kernel
theorem dX1_errorOfNextSight_31 : decode cX1_errorOfNextSight 31 = .ok (.iload_n 1, 1) := by decide +kernel
theorem dX1_errorOfNextSight_32 : decode cX1_errorOfNextSight 32 = .ok (.iaload, 1) := by decide +kernel
theorem dX1_errorOfNextSight_33 : decode cX1_errorOfNextSight 33 = .ok (.isub, 1) := by decide +kernel
theorem dX1_errorOfNextSight_34 : decode cX1_errorOfNextSight 34 = .ok (.iload_n 2, 1) := by decide +kernel
theorem dX1_errorOfNextSight_35 : decode cX1_errorOfNextSight 35 = .ok (.imul, 1) := by decide +kernel
theorem dX1_errorOfNextSight_36 : decode cX1_errorOfNextSight 36 = .ok (.iadd, 1) := by decide +kernel
theorem dX1_errorOfNextSight_37 : decode cX1_errorOfNextSight 37 = .ok (.ireturn, 1) := by decide +kernel
theorem dX1_middleWithout_0 : decode cX1_middleWithout 0 = .ok (.iconst 0, 1) := by decide +kernel
theorem dX1_middleWithout_1 : decode cX1_middleWithout 1 = .ok (.istore_n 2, 1) := by decide +kernel
theorem dX1_middleWithout_2 : decode cX1_middleWithout 2 = .ok (.iconst 0, 1) := by decide +kernel
theorem dX1_middleWithout_3 : decode cX1_middleWithout 3 = .ok (.istore_n 3, 1) := by decide +kernel
theorem dX1_middleWithout_4 : decode cX1_middleWithout 4 = .ok (.iload_n 3, 1) := by decide +kernel
theorem dX1_middleWithout_5 : decode cX1_middleWithout 5 = .ok (.bipush 7, 2) := by decide +kernel
theorem dX1_middleWithout_7 : decode cX1_middleWithout 7 = .ok (.if_icmp .ge 25, 3) := by decide +kernel
theorem dX1_middleWithout_10 : decode cX1_middleWithout 10 = .ok (.iload_n 3, 1) := by decide +kernel
theorem dX1_middleWithout_11 : decode cX1_middleWithout 11 = .ok (.iload_n 1, 1) := by decide +kernel
theorem dX1_middleWithout_12 : decode cX1_middleWithout 12 = .ok (.if_icmp .eq 14, 3) := by decide +kernel
theorem dX1_middleWithout_15 : decode cX1_middleWithout 15 = .ok (.aload_n 0, 1) := by decide +kernel
theorem dX1_middleWithout_16 : decode cX1_middleWithout 16 = .ok (.iload_n 3, 1) := by decide +kernel
theorem dX1_middleWithout_17 : decode cX1_middleWithout 17 = .ok (.invokevirtual 46, 3) := by decide +kernel
theorem dX1_middleWithout_20 : decode cX1_middleWithout 20 = .ok (.ifCond .eq 6, 3) := by decide +kernel
theorem dX1_middleWithout_23 : decode cX1_middleWithout 23 = .ok (.iinc 2 1, 3) := by decide +kernel
theorem dX1_middleWithout_26 : decode cX1_middleWithout 26 = .ok (.iinc 3 1, 3) := by decide +kernel
theorem dX1_middleWithout_29 : decode cX1_middleWithout 29 = .ok (.goto (-25), 3) := by decide +kernel
theorem dX1_middleWithout_32 : decode cX1_middleWithout 32 = .ok (.iload_n 2, 1) := by decide +kernel
theorem dX1_middleWithout_33 : decode cX1_middleWithout 33 = .ok (.iconst 3, 1) := by decide +kernel
theorem dX1_middleWithout_34 : decode cX1_middleWithout 34 = .ok (.if_icmp .ge 7, 3) := by decide +kernel
theorem dX1_middleWithout_37 : decode cX1_middleWithout 37 = .ok (.sipush 9999, 3) := by decide +kernel
theorem dX1_middleWithout_40 : decode cX1_middleWithout 40 = .ok (.ireturn, 1) := by decide +kernel
theorem dX1_middleWithout_41 : decode cX1_middleWithout 41 = .ok (.iconst 0, 1) := by decide +kernel
theorem dX1_middleWithout_42 : decode cX1_middleWithout 42 = .ok (.istore_n 3, 1) := by decide +kernel
theorem dX1_middleWithout_43 : decode cX1_middleWithout 43 = .ok (.iload_n 3, 1) := by decide +kernel
theorem dX1_middleWithout_44 : decode cX1_middleWithout 44 = .ok (.bipush 7, 2) := by decide +kernel
theorem dX1_middleWithout_46 : decode cX1_middleWithout 46 = .ok (.if_icmp .ge 43, 3) := by decide +kernel
theorem dX1_middleWithout_49 : decode cX1_middleWithout 49 = .ok (.iload_n 3, 1) := by decide +kernel
theorem dX1_middleWithout_50 : decode cX1_middleWithout 50 = .ok (.iload_n 1, 1) := by decide +kernel
theorem dX1_middleWithout_51 : decode cX1_middleWithout 51 = .ok (.if_icmp .eq 32, 3) := by decide +kernel
theorem dX1_middleWithout_54 : decode cX1_middleWithout 54 = .ok (.aload_n 0, 1) := by decide +kernel
theorem dX1_middleWithout_55 : decode cX1_middleWithout 55 = .ok (.iload_n 3, 1) := by decide +kernel
theorem dX1_middleWithout_56 : decode cX1_middleWithout 56 = .ok (.invokevirtual 46, 3) := by decide +kernel
theorem dX1_middleWithout_59 : decode cX1_middleWithout 59 = .ok (.ifCond .eq 24, 3) := by decide +kernel
theorem dX1_middleWithout_62 : decode cX1_middleWithout 62 = .ok (.aload_n 0, 1) := by decide +kernel
theorem dX1_middleWithout_63 : decode cX1_middleWithout 63 = .ok (.iload_n 3, 1) := by decide +kernel
theorem dX1_middleWithout_64 : decode cX1_middleWithout 64 = .ok (.iload_n 1, 1) := by decide +kernel
theorem dX1_middleWithout_65 : decode cX1_middleWithout 65 = .ok (.invokevirtual 50, 3) := by decide +kernel
theorem dX1_middleWithout_68 : decode cX1_middleWithout 68 = .ok (.iload_n 2, 1) := by decide +kernel
theorem dX1_middleWithout_69 : decode cX1_middleWithout 69 = .ok (.iconst 1, 1) := by decide +kernel
theorem dX1_middleWithout_70 : decode cX1_middleWithout 70 = .ok (.isub, 1) := by decide +kernel
theorem dX1_middleWithout_71 : decode cX1_middleWithout 71 = .ok (.iconst 2, 1) := by decide +kernel
theorem dX1_middleWithout_72 : decode cX1_middleWithout 72 = .ok (.idiv, 1) := by decide +kernel
theorem dX1_middleWithout_73 : decode cX1_middleWithout 73 = .ok (.if_icmp .ne 10, 3) := by decide +kernel
theorem dX1_middleWithout_76 : decode cX1_middleWithout 76 = .ok (.aload_n 0, 1) := by decide +kernel
theorem dX1_middleWithout_77 : decode cX1_middleWithout 77 = .ok (.getfield 27, 3) := by decide +kernel
theorem dX1_middleWithout_80 : decode cX1_middleWithout 80 = .ok (.iload_n 3, 1) := by decide +kernel
theorem dX1_middleWithout_81 : decode cX1_middleWithout 81 = .ok (.iaload, 1) := by decide +kernel
theorem dX1_middleWithout_82 : decode cX1_middleWithout 82 = .ok (.ireturn, 1) := by decide +kernel
theorem dX1_middleWithout_83 : decode cX1_middleWithout 83 = .ok (.iinc 3 1, 3) := by decide +kernel
theorem dX1_middleWithout_86 : decode cX1_middleWithout 86 = .ok (.goto (-43), 3) := by decide +kernel
theorem dX1_middleWithout_89 : decode cX1_middleWithout 89 = .ok (.sipush 9999, 3) := by decide +kernel
theorem dX1_middleWithout_92 : decode cX1_middleWithout 92 = .ok (.ireturn, 1) := by decide +kernel
theorem dX1_rankWithout_0 : decode cX1_rankWithout 0 = .ok (.iconst 0, 1) := by decide +kernel
theorem dX1_rankWithout_1 : decode cX1_rankWithout 1 = .ok (.istore_n 3, 1) := by decide +kernel
theorem dX1_rankWithout_2 : decode cX1_rankWithout 2 = .ok (.iconst 0, 1) := by decide +kernel
theorem dX1_rankWithout_3 : decode cX1_rankWithout 3 = .ok (.istore 4, 2) := by decide +kernel
theorem dX1_rankWithout_5 : decode cX1_rankWithout 5 = .ok (.iload 4, 2) := by decide +kernel
theorem dX1_rankWithout_7 : decode cX1_rankWithout 7 = .ok (.bipush 7, 2) := by decide +kernel
theorem dX1_rankWithout_9 : decode cX1_rankWithout 9 = .ok (.if_icmp .ge 37, 3) := by decide +kernel
theorem dX1_rankWithout_12 : decode cX1_rankWithout 12 = .ok (.iload 4, 2) := by decide +kernel
theorem dX1_rankWithout_14 : decode cX1_rankWithout 14 = .ok (.iload_n 2, 1) := by decide +kernel
theorem dX1_rankWithout_15 : decode cX1_rankWithout 15 = .ok (.if_icmp .eq 25, 3) := by decide +kernel
theorem dX1_rankWithout_18 : decode cX1_rankWithout 18 = .ok (.aload_n 0, 1) := by decide +kernel
theorem dX1_rankWithout_19 : decode cX1_rankWithout 19 = .ok (.iload 4, 2) := by decide +kernel
theorem dX1_rankWithout_21 : decode cX1_rankWithout 21 = .ok (.invokevirtual 46, 3) := by decide +kernel
theorem dX1_rankWithout_24 : decode cX1_rankWithout 24 = .ok (.ifCond .eq 16, 3) := by decide +kernel
theorem dX1_rankWithout_27 : decode cX1_rankWithout 27 = .ok (.aload_n 0, 1) := by decide +kernel
theorem dX1_rankWithout_28 : decode cX1_rankWithout 28 = .ok (.iload 4, 2) := by decide +kernel
theorem dX1_rankWithout_30 : decode cX1_rankWithout 30 = .ok (.iload_n 1, 1) := by decide +kernel
theorem dX1_rankWithout_31 : decode cX1_rankWithout 31 = .ok (.invokevirtual 54, 3) := by decide +kernel
theorem dX1_rankWithout_34 : decode cX1_rankWithout 34 = .ok (.ifCond .eq 6, 3) := by decide +kernel
theorem dX1_rankWithout_37 : decode cX1_rankWithout 37 = .ok (.iinc 3 1, 3) := by decide +kernel
theorem dX1_rankWithout_40 : decode cX1_rankWithout 40 = .ok (.iinc 4 1, 3) := by decide +kernel
theorem dX1_rankWithout_43 : decode cX1_rankWithout 43 = .ok (.goto (-38), 3) := by decide +kernel
theorem dX1_rankWithout_46 : decode cX1_rankWithout 46 = .ok (.iload_n 3, 1) := by decide +kernel
theorem dX1_rankWithout_47 : decode cX1_rankWithout 47 = .ok (.ireturn, 1) := by decide +kernel
theorem dX1_standsBefore_0 : decode cX1_standsBefore 0 = .ok (.aload_n 0, 1) := by decide +kernel
theorem dX1_standsBefore_1 : decode cX1_standsBefore 1 = .ok (.getfield 27, 3) := by decide +kernel
theorem dX1_standsBefore_4 : decode cX1_standsBefore 4 = .ok (.iload_n 1, 1) := by decide +kernel
theorem dX1_standsBefore_5 : decode cX1_standsBefore 5 = .ok (.iaload, 1) := by decide +kernel
theorem dX1_standsBefore_6 : decode cX1_standsBefore 6 = .ok (.aload_n 0, 1) := by decide +kernel
theorem dX1_standsBefore_7 : decode cX1_standsBefore 7 = .ok (.getfield 27, 3) := by decide +kernel
theorem dX1_standsBefore_10 : decode cX1_standsBefore 10 = .ok (.iload_n 2, 1) := by decide +kernel
theorem dX1_standsBefore_11 : decode cX1_standsBefore 11 = .ok (.iaload, 1) := by decide +kernel
theorem dX1_standsBefore_12 : decode cX1_standsBefore 12 = .ok (.if_icmp .lt 23, 3) := by decide +kernel
theorem dX1_standsBefore_15 : decode cX1_standsBefore 15 = .ok (.aload_n 0, 1) := by decide +kernel
theorem dX1_standsBefore_16 : decode cX1_standsBefore 16 = .ok (.getfield 27, 3) := by decide +kernel
theorem dX1_standsBefore_19 : decode cX1_standsBefore 19 = .ok (.iload_n 1, 1) := by decide +kernel
theorem dX1_standsBefore_20 : decode cX1_standsBefore 20 = .ok (.iaload, 1) := by decide +kernel
theorem dX1_standsBefore_21 : decode cX1_standsBefore 21 = .ok (.aload_n 0, 1) := by decide +kernel
theorem dX1_standsBefore_22 : decode cX1_standsBefore 22 = .ok (.getfield 27, 3) := by decide +kernel
theorem dX1_standsBefore_25 : decode cX1_standsBefore 25 = .ok (.iload_n 2, 1) := by decide +kernel
theorem dX1_standsBefore_26 : decode cX1_standsBefore 26 = .ok (.iaload, 1) := by decide +kernel
theorem dX1_standsBefore_27 : decode cX1_standsBefore 27 = .ok (.if_icmp .ne 12, 3) := by decide +kernel
theorem dX1_standsBefore_30 : decode cX1_standsBefore 30 = .ok (.iload_n 1, 1) := by decide +kernel
theorem dX1_standsBefore_31 : decode cX1_standsBefore 31 = .ok (.iload_n 2, 1) := by decide +kernel
theorem dX1_standsBefore_32 : decode cX1_standsBefore 32 = .ok (.if_icmp .ge 7, 3) := by decide +kernel
theorem dX1_standsBefore_35 : decode cX1_standsBefore 35 = .ok (.iconst 1, 1) := by decide +kernel
theorem dX1_standsBefore_36 : decode cX1_standsBefore 36 = .ok (.goto 4, 3) := by decide +kernel
theorem dX1_standsBefore_39 : decode cX1_standsBefore 39 = .ok (.iconst 0, 1) := by decide +kernel
theorem dX1_standsBefore_40 : decode cX1_standsBefore 40 = .ok (.ireturn, 1) := by decide +kernel
theorem dX1_takesPart_0 : decode cX1_takesPart 0 = .ok (.aload_n 0, 1) := by decide +kernel
theorem dX1_takesPart_1 : decode cX1_takesPart 1 = .ok (.getfield 30, 3) := by decide +kernel
theorem dX1_takesPart_4 : decode cX1_takesPart 4 = .ok (.iload_n 1, 1) := by decide +kernel
theorem dX1_takesPart_5 : decode cX1_takesPart 5 = .ok (.iaload, 1) := by decide +kernel
theorem dX1_takesPart_6 : decode cX1_takesPart 6 = .ok (.ifCond .ne 19, 3) := by decide +kernel
theorem dX1_takesPart_9 : decode cX1_takesPart 9 = .ok (.aload_n 0, 1) := by decide +kernel
theorem dX1_takesPart_10 : decode cX1_takesPart 10 = .ok (.getfield 27, 3) := by decide +kernel
theorem dX1_takesPart_13 : decode cX1_takesPart 13 = .ok (.iload_n 1, 1) := by decide +kernel
theorem dX1_takesPart_14 : decode cX1_takesPart 14 = .ok (.iaload, 1) := by decide +kernel
theorem dX1_takesPart_15 : decode cX1_takesPart 15 = .ok (.sipush 9999, 3) := by decide +kernel
theorem dX1_takesPart_18 : decode cX1_takesPart 18 = .ok (.if_icmp .eq 7, 3) := by decide +kernel
theorem dX1_takesPart_21 : decode cX1_takesPart 21 = .ok (.iconst 1, 1) := by decide +kernel
theorem dX1_takesPart_22 : decode cX1_takesPart 22 = .ok (.goto 4, 3) := by decide +kernel
theorem dX1_takesPart_25 : decode cX1_takesPart 25 = .ok (.iconst 0, 1) := by decide +kernel
theorem dX1_takesPart_26 : decode cX1_takesPart 26 = .ok (.ireturn, 1) := by decide +kernel
theorem dX1_quarrelOver_0 : decode cX1_quarrelOver 0 = .ok (.iconst 0, 1) := by decide +kernel
theorem dX1_quarrelOver_1 : decode cX1_quarrelOver 1 = .ok (.istore_n 3, 1) := by decide +kernel
theorem dX1_quarrelOver_2 : decode cX1_quarrelOver 2 = .ok (.iconst 0, 1) := by decide +kernel
theorem dX1_quarrelOver_3 : decode cX1_quarrelOver 3 = .ok (.istore 4, 2) := by decide +kernel
theorem dX1_quarrelOver_5 : decode cX1_quarrelOver 5 = .ok (.iload 4, 2) := by decide +kernel
theorem dX1_quarrelOver_7 : decode cX1_quarrelOver 7 = .ok (.bipush 7, 2) := by decide +kernel
theorem dX1_quarrelOver_9 : decode cX1_quarrelOver 9 = .ok (.if_icmp .ge 64, 3) := by decide +kernel
theorem dX1_quarrelOver_12 : decode cX1_quarrelOver 12 = .ok (.aload_n 0, 1) := by decide +kernel
theorem dX1_quarrelOver_13 : decode cX1_quarrelOver 13 = .ok (.iload 4, 2) := by decide +kernel
theorem dX1_quarrelOver_15 : decode cX1_quarrelOver 15 = .ok (.invokevirtual 46, 3) := by decide +kernel
theorem dX1_quarrelOver_18 : decode cX1_quarrelOver 18 = .ok (.ifCond .eq 49, 3) := by decide +kernel
theorem dX1_quarrelOver_21 : decode cX1_quarrelOver 21 = .ok (.aload_n 0, 1) := by decide +kernel
theorem dX1_quarrelOver_22 : decode cX1_quarrelOver 22 = .ok (.getfield 27, 3) := by decide +kernel
theorem dX1_quarrelOver_25 : decode cX1_quarrelOver 25 = .ok (.iload 4, 2) := by decide +kernel
theorem dX1_quarrelOver_27 : decode cX1_quarrelOver 27 = .ok (.iaload, 1) := by decide +kernel
theorem dX1_quarrelOver_28 : decode cX1_quarrelOver 28 = .ok (.iload_n 1, 1) := by decide +kernel
theorem dX1_quarrelOver_29 : decode cX1_quarrelOver 29 = .ok (.isub, 1) := by decide +kernel
theorem dX1_quarrelOver_30 : decode cX1_quarrelOver 30 = .ok (.invokestatic 58, 3) := by decide +kernel
theorem dX1_quarrelOver_33 : decode cX1_quarrelOver 33 = .ok (.iload_n 2, 1) := by decide +kernel
theorem dX1_quarrelOver_34 : decode cX1_quarrelOver 34 = .ok (.if_icmp .le 15, 3) := by decide +kernel
theorem dX1_quarrelOver_37 : decode cX1_quarrelOver 37 = .ok (.aload_n 0, 1) := by decide +kernel
theorem dX1_quarrelOver_38 : decode cX1_quarrelOver 38 = .ok (.iload 4, 2) := by decide +kernel
theorem dX1_quarrelOver_40 : decode cX1_quarrelOver 40 = .ok (.invokevirtual 63, 3) := by decide +kernel
theorem dX1_quarrelOver_43 : decode cX1_quarrelOver 43 = .ok (.iinc 3 1, 3) := by decide +kernel
theorem dX1_quarrelOver_46 : decode cX1_quarrelOver 46 = .ok (.goto 11, 3) := by decide +kernel
theorem dX1_quarrelOver_49 : decode cX1_quarrelOver 49 = .ok (.aload_n 0, 1) := by decide +kernel
theorem dX1_quarrelOver_50 : decode cX1_quarrelOver 50 = .ok (.getfield 21, 3) := by decide +kernel
theorem dX1_quarrelOver_53 : decode cX1_quarrelOver 53 = .ok (.iload 4, 2) := by decide +kernel
theorem dX1_quarrelOver_55 : decode cX1_quarrelOver 55 = .ok (.iconst 0, 1) := by decide +kernel
theorem dX1_quarrelOver_56 : decode cX1_quarrelOver 56 = .ok (.iastore, 1) := by decide +kernel
theorem dX1_quarrelOver_57 : decode cX1_quarrelOver 57 = .ok (.aload_n 0, 1) := by decide +kernel
theorem dX1_quarrelOver_58 : decode cX1_quarrelOver 58 = .ok (.getfield 27, 3) := by decide +kernel
theorem dX1_quarrelOver_61 : decode cX1_quarrelOver 61 = .ok (.iload 4, 2) := by decide +kernel
theorem dX1_quarrelOver_63 : decode cX1_quarrelOver 63 = .ok (.sipush 9999, 3) := by decide +kernel
theorem dX1_quarrelOver_66 : decode cX1_quarrelOver 66 = .ok (.iastore, 1) := by decide +kernel
theorem dX1_quarrelOver_67 : decode cX1_quarrelOver 67 = .ok (.iinc 4 1, 3) := by decide +kernel
theorem dX1_quarrelOver_70 : decode cX1_quarrelOver 70 = .ok (.goto (-65), 3) := by decide +kernel
theorem dX1_quarrelOver_73 : decode cX1_quarrelOver 73 = .ok (.iload_n 3, 1) := by decide +kernel
theorem dX1_quarrelOver_74 : decode cX1_quarrelOver 74 = .ok (.ireturn, 1) := by decide +kernel
theorem dX1_makeAngrier_0 : decode cX1_makeAngrier 0 = .ok (.aload_n 0, 1) := by decide +kernel
theorem dX1_makeAngrier_1 : decode cX1_makeAngrier 1 = .ok (.getfield 21, 3) := by decide +kernel
theorem dX1_makeAngrier_4 : decode cX1_makeAngrier 4 = .ok (.iload_n 1, 1) := by decide +kernel
theorem dX1_makeAngrier_5 : decode cX1_makeAngrier 5 = .ok (.dup2, 1) := by decide +kernel
theorem dX1_makeAngrier_6 : decode cX1_makeAngrier 6 = .ok (.iaload, 1) := by decide +kernel
theorem dX1_makeAngrier_7 : decode cX1_makeAngrier 7 = .ok (.iconst 1, 1) := by decide +kernel
theorem dX1_makeAngrier_8 : decode cX1_makeAngrier 8 = .ok (.iadd, 1) := by decide +kernel
theorem dX1_makeAngrier_9 : decode cX1_makeAngrier 9 = .ok (.iastore, 1) := by decide +kernel
theorem dX1_makeAngrier_10 : decode cX1_makeAngrier 10 = .ok (.aload_n 0, 1) := by decide +kernel
theorem dX1_makeAngrier_11 : decode cX1_makeAngrier 11 = .ok (.getfield 21, 3) := by decide +kernel
theorem dX1_makeAngrier_14 : decode cX1_makeAngrier 14 = .ok (.iload_n 1, 1) := by decide +kernel
theorem dX1_makeAngrier_15 : decode cX1_makeAngrier 15 = .ok (.iaload, 1) := by decide +kernel
theorem dX1_makeAngrier_16 : decode cX1_makeAngrier 16 = .ok (.iconst 3, 1) := by decide +kernel
theorem dX1_makeAngrier_17 : decode cX1_makeAngrier 17 = .ok (.if_icmp .lt 10, 3) := by decide +kernel
theorem dX1_makeAngrier_20 : decode cX1_makeAngrier 20 = .ok (.aload_n 0, 1) := by decide +kernel
theorem dX1_makeAngrier_21 : decode cX1_makeAngrier 21 = .ok (.getfield 30, 3) := by decide +kernel
theorem dX1_makeAngrier_24 : decode cX1_makeAngrier 24 = .ok (.iload_n 1, 1) := by decide +kernel
theorem dX1_makeAngrier_25 : decode cX1_makeAngrier 25 = .ok (.iconst 2, 1) := by decide +kernel
theorem dX1_makeAngrier_26 : decode cX1_makeAngrier 26 = .ok (.iastore, 1) := by decide +kernel
theorem dX1_makeAngrier_27 : decode cX1_makeAngrier 27 = .ok (.return_, 1) := by decide +kernel
theorem dX1_endNight_0 : decode cX1_endNight 0 = .ok (.iconst 0, 1) := by decide +kernel
theorem dX1_endNight_1 : decode cX1_endNight 1 = .ok (.istore_n 1, 1) := by decide +kernel
theorem dX1_endNight_2 : decode cX1_endNight 2 = .ok (.iload_n 1, 1) := by decide +kernel
theorem dX1_endNight_3 : decode cX1_endNight 3 = .ok (.bipush 7, 2) := by decide +kernel
theorem dX1_endNight_5 : decode cX1_endNight 5 = .ok (.if_icmp .ge 42, 3) := by decide +kernel
theorem dX1_endNight_8 : decode cX1_endNight 8 = .ok (.aload_n 0, 1) := by decide +kernel
theorem dX1_endNight_9 : decode cX1_endNight 9 = .ok (.getfield 27, 3) := by decide +kernel
theorem dX1_endNight_12 : decode cX1_endNight 12 = .ok (.iload_n 1, 1) := by decide +kernel
theorem dX1_endNight_13 : decode cX1_endNight 13 = .ok (.sipush 9999, 3) := by decide +kernel
theorem dX1_endNight_16 : decode cX1_endNight 16 = .ok (.iastore, 1) := by decide +kernel
theorem dX1_endNight_17 : decode cX1_endNight 17 = .ok (.aload_n 0, 1) := by decide +kernel
theorem dX1_endNight_18 : decode cX1_endNight 18 = .ok (.getfield 30, 3) := by decide +kernel
theorem dX1_endNight_21 : decode cX1_endNight 21 = .ok (.iload_n 1, 1) := by decide +kernel
theorem dX1_endNight_22 : decode cX1_endNight 22 = .ok (.iaload, 1) := by decide +kernel
theorem dX1_endNight_23 : decode cX1_endNight 23 = .ok (.iconst 2, 1) := by decide +kernel
theorem dX1_endNight_24 : decode cX1_endNight 24 = .ok (.if_icmp .ne 17, 3) := by decide +kernel
theorem dX1_endNight_27 : decode cX1_endNight 27 = .ok (.aload_n 0, 1) := by decide +kernel
theorem dX1_endNight_28 : decode cX1_endNight 28 = .ok (.getfield 30, 3) := by decide +kernel
theorem dX1_endNight_31 : decode cX1_endNight 31 = .ok (.iload_n 1, 1) := by decide +kernel
theorem dX1_endNight_32 : decode cX1_endNight 32 = .ok (.iconst 0, 1) := by decide +kernel
theorem dX1_endNight_33 : decode cX1_endNight 33 = .ok (.iastore, 1) := by decide +kernel
theorem dX1_endNight_34 : decode cX1_endNight 34 = .ok (.aload_n 0, 1) := by decide +kernel
theorem dX1_endNight_35 : decode cX1_endNight 35 = .ok (.getfield 21, 3) := by decide +kernel
theorem dX1_endNight_38 : decode cX1_endNight 38 = .ok (.iload_n 1, 1) := by decide +kernel
theorem dX1_endNight_39 : decode cX1_endNight 39 = .ok (.iconst 0, 1) := by decide +kernel
theorem dX1_endNight_40 : decode cX1_endNight 40 = .ok (.iastore, 1) := by decide +kernel
theorem dX1_endNight_41 : decode cX1_endNight 41 = .ok (.iinc 1 1, 3) := by decide +kernel
theorem dX1_endNight_44 : decode cX1_endNight 44 = .ok (.goto (-42), 3) := by decide +kernel
theorem dX1_endNight_47 : decode cX1_endNight 47 = .ok (.return_, 1) := by decide +kernel
theorem dX1_sightsOfAll_0 : decode cX1_sightsOfAll 0 = .ok (.iconst 0, 1) := by decide +kernel
theorem dX1_sightsOfAll_1 : decode cX1_sightsOfAll 1 = .ok (.istore_n 1, 1) := by decide +kernel
theorem dX1_sightsOfAll_2 : decode cX1_sightsOfAll 2 = .ok (.iconst 0, 1) := by decide +kernel
theorem dX1_sightsOfAll_3 : decode cX1_sightsOfAll 3 = .ok (.istore_n 2, 1) := by decide +kernel
theorem dX1_sightsOfAll_4 : decode cX1_sightsOfAll 4 = .ok (.iload_n 2, 1) := by decide +kernel
theorem dX1_sightsOfAll_5 : decode cX1_sightsOfAll 5 = .ok (.bipush 7, 2) := by decide +kernel
theorem dX1_sightsOfAll_7 : decode cX1_sightsOfAll 7 = .ok (.if_icmp .ge 18, 3) := by decide +kernel
theorem dX1_sightsOfAll_10 : decode cX1_sightsOfAll 10 = .ok (.iload_n 1, 1) := by decide +kernel
theorem dX1_sightsOfAll_11 : decode cX1_sightsOfAll 11 = .ok (.aload_n 0, 1) := by decide +kernel
theorem dX1_sightsOfAll_12 : decode cX1_sightsOfAll 12 = .ok (.getfield 24, 3) := by decide +kernel
theorem dX1_sightsOfAll_15 : decode cX1_sightsOfAll 15 = .ok (.iload_n 2, 1) := by decide +kernel
theorem dX1_sightsOfAll_16 : decode cX1_sightsOfAll 16 = .ok (.iaload, 1) := by decide +kernel
theorem dX1_sightsOfAll_17 : decode cX1_sightsOfAll 17 = .ok (.iadd, 1) := by decide +kernel
theorem dX1_sightsOfAll_18 : decode cX1_sightsOfAll 18 = .ok (.istore_n 1, 1) := by decide +kernel
theorem dX1_sightsOfAll_19 : decode cX1_sightsOfAll 19 = .ok (.iinc 2 1, 3) := by decide +kernel
theorem dX1_sightsOfAll_22 : decode cX1_sightsOfAll 22 = .ok (.goto (-18), 3) := by decide +kernel
theorem dX1_sightsOfAll_25 : decode cX1_sightsOfAll 25 = .ok (.iload_n 1, 1) := by decide +kernel
theorem dX1_sightsOfAll_26 : decode cX1_sightsOfAll 26 = .ok (.ireturn, 1) := by decide +kernel
theorem dX1_thoseWithEstimate_0 : decode cX1_thoseWithEstimate 0 = .ok (.iconst 0, 1) := by decide +kernel
theorem dX1_thoseWithEstimate_1 : decode cX1_thoseWithEstimate 1 = .ok (.istore_n 1, 1) := by decide +kernel
theorem dX1_thoseWithEstimate_2 : decode cX1_thoseWithEstimate 2 = .ok (.iconst 0, 1) := by decide +kernel
theorem dX1_thoseWithEstimate_3 : decode cX1_thoseWithEstimate 3 = .ok (.istore_n 2, 1) := by decide +kernel
theorem dX1_thoseWithEstimate_4 : decode cX1_thoseWithEstimate 4 = .ok (.iload_n 2, 1) := by decide +kernel
theorem dX1_thoseWithEstimate_5 : decode cX1_thoseWithEstimate 5 = .ok (.bipush 7, 2) := by decide +kernel
theorem dX1_thoseWithEstimate_7 : decode cX1_thoseWithEstimate 7 = .ok (.if_icmp .ge 27, 3) := by decide +kernel
theorem dX1_thoseWithEstimate_10 : decode cX1_thoseWithEstimate 10 = .ok (.aload_n 0, 1) := by decide +kernel
theorem dX1_thoseWithEstimate_11 : decode cX1_thoseWithEstimate 11 = .ok (.getfield 27, 3) := by decide +kernel
theorem dX1_thoseWithEstimate_14 : decode cX1_thoseWithEstimate 14 = .ok (.iload_n 2, 1) := by decide +kernel
theorem dX1_thoseWithEstimate_15 : decode cX1_thoseWithEstimate 15 = .ok (.iaload, 1) := by decide +kernel
theorem dX1_thoseWithEstimate_16 : decode cX1_thoseWithEstimate 16 = .ok (.sipush 9999, 3) := by decide +kernel
theorem dX1_thoseWithEstimate_19 : decode cX1_thoseWithEstimate 19 = .ok (.if_icmp .eq 9, 3) := by decide +kernel
theorem dX1_thoseWithEstimate_22 : decode cX1_thoseWithEstimate 22 = .ok (.iload_n 1, 1) := by decide +kernel
theorem dX1_thoseWithEstimate_23 : decode cX1_thoseWithEstimate 23 = .ok (.iconst 1, 1) := by decide +kernel
theorem dX1_thoseWithEstimate_24 : decode cX1_thoseWithEstimate 24 = .ok (.iload_n 2, 1) := by decide +kernel
theorem dX1_thoseWithEstimate_25 : decode cX1_thoseWithEstimate 25 = .ok (.ishl, 1) := by decide +kernel
theorem dX1_thoseWithEstimate_26 : decode cX1_thoseWithEstimate 26 = .ok (.ior, 1) := by decide +kernel
theorem dX1_thoseWithEstimate_27 : decode cX1_thoseWithEstimate 27 = .ok (.istore_n 1, 1) := by decide +kernel
theorem dX1_thoseWithEstimate_28 : decode cX1_thoseWithEstimate 28 = .ok (.iinc 2 1, 3) := by decide +kernel
theorem dX1_thoseWithEstimate_31 : decode cX1_thoseWithEstimate 31 = .ok (.goto (-27), 3) := by decide +kernel
theorem dX1_thoseWithEstimate_34 : decode cX1_thoseWithEstimate 34 = .ok (.iload_n 1, 1) := by decide +kernel
theorem dX1_thoseWithEstimate_35 : decode cX1_thoseWithEstimate 35 = .ok (.ireturn, 1) := by decide +kernel
theorem dX1_thoseWhoSulk_0 : decode cX1_thoseWhoSulk 0 = .ok (.iconst 0, 1) := by decide +kernel
theorem dX1_thoseWhoSulk_1 : decode cX1_thoseWhoSulk 1 = .ok (.istore_n 1, 1) := by decide +kernel
theorem dX1_thoseWhoSulk_2 : decode cX1_thoseWhoSulk 2 = .ok (.iconst 0, 1) := by decide +kernel
theorem dX1_thoseWhoSulk_3 : decode cX1_thoseWhoSulk 3 = .ok (.istore_n 2, 1) := by decide +kernel
theorem dX1_thoseWhoSulk_4 : decode cX1_thoseWhoSulk 4 = .ok (.iload_n 2, 1) := by decide +kernel
theorem dX1_thoseWhoSulk_5 : decode cX1_thoseWhoSulk 5 = .ok (.bipush 7, 2) := by decide +kernel
theorem dX1_thoseWhoSulk_7 : decode cX1_thoseWhoSulk 7 = .ok (.if_icmp .ge 25, 3) := by decide +kernel
theorem dX1_thoseWhoSulk_10 : decode cX1_thoseWhoSulk 10 = .ok (.aload_n 0, 1) := by decide +kernel
theorem dX1_thoseWhoSulk_11 : decode cX1_thoseWhoSulk 11 = .ok (.getfield 30, 3) := by decide +kernel
theorem dX1_thoseWhoSulk_14 : decode cX1_thoseWhoSulk 14 = .ok (.iload_n 2, 1) := by decide +kernel
theorem dX1_thoseWhoSulk_15 : decode cX1_thoseWhoSulk 15 = .ok (.iaload, 1) := by decide +kernel
theorem dX1_thoseWhoSulk_16 : decode cX1_thoseWhoSulk 16 = .ok (.iconst 2, 1) := by decide +kernel
theorem dX1_thoseWhoSulk_17 : decode cX1_thoseWhoSulk 17 = .ok (.if_icmp .ne 9, 3) := by decide +kernel
theorem dX1_thoseWhoSulk_20 : decode cX1_thoseWhoSulk 20 = .ok (.iload_n 1, 1) := by decide +kernel
theorem dX1_thoseWhoSulk_21 : decode cX1_thoseWhoSulk 21 = .ok (.iconst 1, 1) := by decide +kernel
theorem dX1_thoseWhoSulk_22 : decode cX1_thoseWhoSulk 22 = .ok (.iload_n 2, 1) := by decide +kernel
theorem dX1_thoseWhoSulk_23 : decode cX1_thoseWhoSulk 23 = .ok (.ishl, 1) := by decide +kernel
theorem dX1_thoseWhoSulk_24 : decode cX1_thoseWhoSulk 24 = .ok (.ior, 1) := by decide +kernel
theorem dX1_thoseWhoSulk_25 : decode cX1_thoseWhoSulk 25 = .ok (.istore_n 1, 1) := by decide +kernel
theorem dX1_thoseWhoSulk_26 : decode cX1_thoseWhoSulk 26 = .ok (.iinc 2 1, 3) := by decide +kernel
theorem dX1_thoseWhoSulk_29 : decode cX1_thoseWhoSulk 29 = .ok (.goto (-25), 3) := by decide +kernel
theorem dX1_thoseWhoSulk_32 : decode cX1_thoseWhoSulk 32 = .ok (.iload_n 1, 1) := by decide +kernel
theorem dX1_thoseWhoSulk_33 : decode cX1_thoseWhoSulk 33 = .ok (.ireturn, 1) := by decide +kernel
theorem dX2_init_0 : decode cX2_init 0 = .ok (.aload_n 0, 1) := by decide +kernel
theorem dX2_init_1 : decode cX2_init 1 = .ok (.invokespecial 5, 3) := by decide +kernel
theorem dX2_init_4 : decode cX2_init 4 = .ok (.aload_n 0, 1) := by decide +kernel
theorem dX2_init_5 : decode cX2_init 5 = .ok (.bipush 7, 2) := by decide +kernel
theorem dX2_init_7 : decode cX2_init 7 = .ok (.anewarray 11, 3) := by decide +kernel
theorem dX2_init_10 : decode cX2_init 10 = .ok (.putfield 13, 3) := by decide +kernel
theorem dX2_init_13 : decode cX2_init 13 = .ok (.aload_n 0, 1) := by decide +kernel
theorem dX2_init_14 : decode cX2_init 14 = .ok (.iconst 0, 1) := by decide +kernel
theorem dX2_init_15 : decode cX2_init 15 = .ok (.putfield 17, 3) := by decide +kernel
theorem dX2_init_18 : decode cX2_init 18 = .ok (.aload_n 0, 1) := by decide +kernel
theorem dX2_init_19 : decode cX2_init 19 = .ok (.iconst 0, 1) := by decide +kernel
theorem dX2_init_20 : decode cX2_init 20 = .ok (.putfield 21, 3) := by decide +kernel
theorem dX2_init_23 : decode cX2_init 23 = .ok (.iconst 0, 1) := by decide +kernel
theorem dX2_init_24 : decode cX2_init 24 = .ok (.istore_n 1, 1) := by decide +kernel
theorem dX2_init_25 : decode cX2_init 25 = .ok (.iload_n 1, 1) := by decide +kernel
theorem dX2_init_26 : decode cX2_init 26 = .ok (.bipush 7, 2) := by decide +kernel
theorem dX2_init_28 : decode cX2_init 28 = .ok (.if_icmp .ge 22, 3) := by decide +kernel
theorem dX2_init_31 : decode cX2_init 31 = .ok (.aload_n 0, 1) := by decide +kernel
theorem dX2_init_32 : decode cX2_init 32 = .ok (.getfield 13, 3) := by decide +kernel
theorem dX2_init_35 : decode cX2_init 35 = .ok (.iload_n 1, 1) := by decide +kernel
theorem dX2_init_36 : decode cX2_init 36 = .ok (.new 11, 3) := by decide +kernel
theorem dX2_init_39 : decode cX2_init 39 = .ok (.dup, 1) := by decide +kernel
theorem dX2_init_40 : decode cX2_init 40 = .ok (.invokespecial 24, 3) := by decide +kernel
theorem dX2_init_43 : decode cX2_init 43 = .ok (.aastore, 1) := by decide +kernel
theorem dX2_init_44 : decode cX2_init 44 = .ok (.iinc 1 1, 3) := by decide +kernel
theorem dX2_init_47 : decode cX2_init 47 = .ok (.goto (-22), 3) := by decide +kernel
theorem dX2_init_50 : decode cX2_init 50 = .ok (.return_, 1) := by decide +kernel
theorem dX2_hold_0 : decode cX2_hold 0 = .ok (.aload_n 0, 1) := by decide +kernel
theorem dX2_hold_1 : decode cX2_hold 1 = .ok (.getfield 13, 3) := by decide +kernel
theorem dX2_hold_4 : decode cX2_hold 4 = .ok (.aload_n 0, 1) := by decide +kernel
theorem dX2_hold_5 : decode cX2_hold 5 = .ok (.getfield 17, 3) := by decide +kernel
theorem dX2_hold_8 : decode cX2_hold 8 = .ok (.aload_n 0, 1) := by decide +kernel
theorem dX2_hold_9 : decode cX2_hold 9 = .ok (.getfield 21, 3) := by decide +kernel
theorem dX2_hold_12 : decode cX2_hold 12 = .ok (.iadd, 1) := by decide +kernel
theorem dX2_hold_13 : decode cX2_hold 13 = .ok (.bipush 7, 2) := by decide +kernel
theorem dX2_hold_15 : decode cX2_hold 15 = .ok (.irem, 1) := by decide +kernel
theorem dX2_hold_16 : decode cX2_hold 16 = .ok (.aaload, 1) := by decide +kernel
theorem dX2_hold_17 : decode cX2_hold 17 = .ok (.aload_n 1, 1) := by decide +kernel
theorem dX2_hold_18 : decode cX2_hold 18 = .ok (.invokevirtual 25, 3) := by decide +kernel
theorem dX2_hold_21 : decode cX2_hold 21 = .ok (.return_, 1) := by decide +kernel
theorem dX2_keepUnlessError_0 : decode cX2_keepUnlessError 0 = .ok (.iload_n 1, 1) := by decide +kernel
theorem dX2_keepUnlessError_1 : decode cX2_keepUnlessError 1 = .ok (.ifCond .lt 38, 3) := by decide +kernel
theorem dX2_keepUnlessError_4 : decode cX2_keepUnlessError 4 = .ok (.aload_n 0, 1) := by decide +kernel
theorem dX2_keepUnlessError_5 : decode cX2_keepUnlessError 5 = .ok (.getfield 21, 3) := by decide +kernel
theorem dX2_keepUnlessError_8 : decode cX2_keepUnlessError 8 = .ok (.bipush 6, 2) := by decide +kernel
theorem dX2_keepUnlessError_10 : decode cX2_keepUnlessError 10 = .ok (.if_icmp .ge 16, 3) := by decide +kernel
theorem dX2_keepUnlessError_13 : decode cX2_keepUnlessError 13 = .ok (.aload_n 0, 1) := by decide +kernel
theorem dX2_keepUnlessError_14 : decode cX2_keepUnlessError 14 = .ok (.dup, 1) := by decide +kernel
theorem dX2_keepUnlessError_15 : decode cX2_keepUnlessError 15 = .ok (.getfield 21, 3) := by decide +kernel
theorem dX2_keepUnlessError_18 : decode cX2_keepUnlessError 18 = .ok (.iconst 1, 1) := by decide +kernel
theorem dX2_keepUnlessError_19 : decode cX2_keepUnlessError 19 = .ok (.iadd, 1) := by decide +kernel
theorem dX2_keepUnlessError_20 : decode cX2_keepUnlessError 20 = .ok (.putfield 21, 3) := by decide +kernel
theorem dX2_keepUnlessError_23 : decode cX2_keepUnlessError 23 = .ok (.goto 16, 3) := by decide +kernel
theorem dX2_keepUnlessError_26 : decode cX2_keepUnlessError 26 = .ok (.aload_n 0, 1) := by decide +kernel
theorem dX2_keepUnlessError_27 : decode cX2_keepUnlessError 27 = .ok (.aload_n 0, 1) := by decide +kernel
theorem dX2_keepUnlessError_28 : decode cX2_keepUnlessError 28 = .ok (.getfield 17, 3) := by decide +kernel
theorem dX2_keepUnlessError_31 : decode cX2_keepUnlessError 31 = .ok (.iconst 1, 1) := by decide +kernel
theorem dX2_keepUnlessError_32 : decode cX2_keepUnlessError 32 = .ok (.iadd, 1) := by decide +kernel
theorem dX2_keepUnlessError_33 : decode cX2_keepUnlessError 33 = .ok (.bipush 7, 2) := by decide +kernel
theorem dX2_keepUnlessError_35 : decode cX2_keepUnlessError 35 = .ok (.irem, 1) := by decide +kernel
theorem dX2_keepUnlessError_36 : decode cX2_keepUnlessError 36 = .ok (.putfield 17, 3) := by decide +kernel
theorem dX2_keepUnlessError_39 : decode cX2_keepUnlessError 39 = .ok (.iload_n 1, 1) := by decide +kernel
theorem dX2_keepUnlessError_40 : decode cX2_keepUnlessError 40 = .ok (.ireturn, 1) := by decide +kernel
theorem dX2_takeBack_0 : decode cX2_takeBack 0 = .ok (.aload_n 0, 1) := by decide +kernel
theorem dX2_takeBack_1 : decode cX2_takeBack 1 = .ok (.getfield 21, 3) := by decide +kernel
theorem dX2_takeBack_4 : decode cX2_takeBack 4 = .ok (.ifCond .ne 6, 3) := by decide +kernel
theorem dX2_takeBack_7 : decode cX2_takeBack 7 = .ok (.bipush (-5), 2) := by decide +kernel
theorem dX2_takeBack_9 : decode cX2_takeBack 9 = .ok (.ireturn, 1) := by decide +kernel
theorem dX2_takeBack_10 : decode cX2_takeBack 10 = .ok (.aload_n 0, 1) := by decide +kernel
theorem dX2_takeBack_11 : decode cX2_takeBack 11 = .ok (.dup, 1) := by decide +kernel
theorem dX2_takeBack_12 : decode cX2_takeBack 12 = .ok (.getfield 21, 3) := by decide +kernel
theorem dX2_takeBack_15 : decode cX2_takeBack 15 = .ok (.iconst 1, 1) := by decide +kernel
theorem dX2_takeBack_16 : decode cX2_takeBack 16 = .ok (.isub, 1) := by decide +kernel
theorem dX2_takeBack_17 : decode cX2_takeBack 17 = .ok (.putfield 21, 3) := by decide +kernel
theorem dX2_takeBack_20 : decode cX2_takeBack 20 = .ok (.aload_n 1, 1) := by decide +kernel
theorem dX2_takeBack_21 : decode cX2_takeBack 21 = .ok (.aload_n 0, 1) := by decide +kernel
theorem dX2_takeBack_22 : decode cX2_takeBack 22 = .ok (.getfield 13, 3) := by decide +kernel
theorem dX2_takeBack_25 : decode cX2_takeBack 25 = .ok (.aload_n 0, 1) := by decide +kernel
theorem dX2_takeBack_26 : decode cX2_takeBack 26 = .ok (.getfield 17, 3) := by decide +kernel
theorem dX2_takeBack_29 : decode cX2_takeBack 29 = .ok (.aload_n 0, 1) := by decide +kernel
theorem dX2_takeBack_30 : decode cX2_takeBack 30 = .ok (.getfield 21, 3) := by decide +kernel
theorem dX2_takeBack_33 : decode cX2_takeBack 33 = .ok (.iadd, 1) := by decide +kernel
theorem dX2_takeBack_34 : decode cX2_takeBack 34 = .ok (.bipush 7, 2) := by decide +kernel
theorem dX2_takeBack_36 : decode cX2_takeBack 36 = .ok (.irem, 1) := by decide +kernel
theorem dX2_takeBack_37 : decode cX2_takeBack 37 = .ok (.aaload, 1) := by decide +kernel
theorem dX2_takeBack_38 : decode cX2_takeBack 38 = .ok (.invokevirtual 25, 3) := by decide +kernel
theorem dX2_takeBack_41 : decode cX2_takeBack 41 = .ok (.aload_n 0, 1) := by decide +kernel
theorem dX2_takeBack_42 : decode cX2_takeBack 42 = .ok (.getfield 21, 3) := by decide +kernel
theorem dX2_takeBack_45 : decode cX2_takeBack 45 = .ok (.ireturn, 1) := by decide +kernel
theorem dX3_init_0 : decode cX3_init 0 = .ok (.aload_n 0, 1) := by decide +kernel
theorem dX3_init_1 : decode cX3_init 1 = .ok (.invokespecial 1, 3) := by decide +kernel
theorem dX3_init_4 : decode cX3_init 4 = .ok (.aload_n 0, 1) := by decide +kernel
theorem dX3_init_5 : decode cX3_init 5 = .ok (.bipush 32, 2) := by decide +kernel
theorem dX3_init_7 : decode cX3_init 7 = .ok (.newarray .int, 2) := by decide +kernel
theorem dX3_init_9 : decode cX3_init 9 = .ok (.putfield 9, 3) := by decide +kernel
theorem dX3_init_12 : decode cX3_init 12 = .ok (.return_, 1) := by decide +kernel
theorem dX3_copyFrom_0 : decode cX3_copyFrom 0 = .ok (.aload_n 1, 1) := by decide +kernel
theorem dX3_copyFrom_1 : decode cX3_copyFrom 1 = .ok (.getfield 9, 3) := by decide +kernel
theorem dX3_copyFrom_4 : decode cX3_copyFrom 4 = .ok (.iconst 0, 1) := by decide +kernel
theorem dX3_copyFrom_5 : decode cX3_copyFrom 5 = .ok (.aload_n 0, 1) := by decide +kernel
theorem dX3_copyFrom_6 : decode cX3_copyFrom 6 = .ok (.getfield 9, 3) := by decide +kernel
theorem dX3_copyFrom_9 : decode cX3_copyFrom 9 = .ok (.iconst 0, 1) := by decide +kernel
theorem dX3_copyFrom_10 : decode cX3_copyFrom 10 = .ok (.bipush 32, 2) := by decide +kernel
theorem dX3_copyFrom_12 : decode cX3_copyFrom 12 = .ok (.invokestatic 13, 3) := by decide +kernel
theorem dX3_copyFrom_15 : decode cX3_copyFrom 15 = .ok (.return_, 1) := by decide +kernel
theorem dX3_write_0 : decode cX3_write 0 = .ok (.iload_n 1, 1) := by decide +kernel
theorem dX3_write_1 : decode cX3_write 1 = .ok (.bipush 8, 2) := by decide +kernel
theorem dX3_write_3 : decode cX3_write 3 = .ok (.irem, 1) := by decide +kernel
theorem dX3_write_4 : decode cX3_write 4 = .ok (.iconst 4, 1) := by decide +kernel
theorem dX3_write_5 : decode cX3_write 5 = .ok (.imul, 1) := by decide +kernel
theorem dX3_write_6 : decode cX3_write 6 = .ok (.istore 5, 2) := by decide +kernel
theorem dX3_write_8 : decode cX3_write 8 = .ok (.aload_n 0, 1) := by decide +kernel
theorem dX3_write_9 : decode cX3_write 9 = .ok (.getfield 9, 3) := by decide +kernel
theorem dX3_write_12 : decode cX3_write 12 = .ok (.iload 5, 2) := by decide +kernel
theorem dX3_write_14 : decode cX3_write 14 = .ok (.iload_n 1, 1) := by decide +kernel
theorem dX3_write_15 : decode cX3_write 15 = .ok (.iastore, 1) := by decide +kernel
theorem dX3_write_16 : decode cX3_write 16 = .ok (.aload_n 0, 1) := by decide +kernel
theorem dX3_write_17 : decode cX3_write 17 = .ok (.getfield 9, 3) := by decide +kernel
theorem dX3_write_20 : decode cX3_write 20 = .ok (.iload 5, 2) := by decide +kernel
theorem dX3_write_22 : decode cX3_write 22 = .ok (.iconst 1, 1) := by decide +kernel
theorem dX3_write_23 : decode cX3_write 23 = .ok (.iadd, 1) := by decide +kernel
theorem dX3_write_24 : decode cX3_write 24 = .ok (.iload_n 2, 1) := by decide +kernel
theorem dX3_write_25 : decode cX3_write 25 = .ok (.iastore, 1) := by decide +kernel
theorem dX3_write_26 : decode cX3_write 26 = .ok (.aload_n 0, 1) := by decide +kernel
theorem dX3_write_27 : decode cX3_write 27 = .ok (.getfield 9, 3) := by decide +kernel
theorem dX3_write_30 : decode cX3_write 30 = .ok (.iload 5, 2) := by decide +kernel
theorem dX3_write_32 : decode cX3_write 32 = .ok (.iconst 2, 1) := by decide +kernel
theorem dX3_write_33 : decode cX3_write 33 = .ok (.iadd, 1) := by decide +kernel
theorem dX3_write_34 : decode cX3_write 34 = .ok (.iload_n 3, 1) := by decide +kernel
theorem dX3_write_35 : decode cX3_write 35 = .ok (.iastore, 1) := by decide +kernel
theorem dX3_write_36 : decode cX3_write 36 = .ok (.aload_n 0, 1) := by decide +kernel
theorem dX3_write_37 : decode cX3_write 37 = .ok (.getfield 9, 3) := by decide +kernel
theorem dX3_write_40 : decode cX3_write 40 = .ok (.iload 5, 2) := by decide +kernel
theorem dX3_write_42 : decode cX3_write 42 = .ok (.iconst 3, 1) := by decide +kernel
theorem dX3_write_43 : decode cX3_write 43 = .ok (.iadd, 1) := by decide +kernel
theorem dX3_write_44 : decode cX3_write 44 = .ok (.iload 4, 2) := by decide +kernel
theorem dX3_write_46 : decode cX3_write 46 = .ok (.iastore, 1) := by decide +kernel
theorem dX3_write_47 : decode cX3_write 47 = .ok (.return_, 1) := by decide +kernel
theorem dX3_read_0 : decode cX3_read 0 = .ok (.aload_n 0, 1) := by decide +kernel
theorem dX3_read_1 : decode cX3_read 1 = .ok (.getfield 9, 3) := by decide +kernel
theorem dX3_read_4 : decode cX3_read 4 = .ok (.iload_n 1, 1) := by decide +kernel
theorem dX3_read_5 : decode cX3_read 5 = .ok (.bipush 8, 2) := by decide +kernel
theorem dX3_read_7 : decode cX3_read 7 = .ok (.irem, 1) := by decide +kernel
theorem dX3_read_8 : decode cX3_read 8 = .ok (.iconst 4, 1) := by decide +kernel
theorem dX3_read_9 : decode cX3_read 9 = .ok (.imul, 1) := by decide +kernel
theorem dX3_read_10 : decode cX3_read 10 = .ok (.iload_n 2, 1) := by decide +kernel
theorem dX3_read_11 : decode cX3_read 11 = .ok (.iadd, 1) := by decide +kernel
theorem dX3_read_12 : decode cX3_read 12 = .ok (.iaload, 1) := by decide +kernel
theorem dX3_read_13 : decode cX3_read 13 = .ok (.ireturn, 1) := by decide +kernel
end
section
theorem dX4_init_0 : decode cX4_init 0 = .ok (.aload_n 0, 1) := by decide +kernel
theorem dX4_init_1 : decode cX4_init 1 = .ok (.invokespecial 3, 3) := by decide +kernel
theorem dX4_init_4 : decode cX4_init 4 = .ok (.aload_n 0, 1) := by decide +kernel
theorem dX4_init_5 : decode cX4_init 5 = .ok (.bipush 80, 2) := by decide +kernel
theorem dX4_init_7 : decode cX4_init 7 = .ok (.newarray .char, 2) := by decide +kernel
theorem dX4_init_9 : decode cX4_init 9 = .ok (.putfield 11, 3) := by decide +kernel
theorem dX4_init_12 : decode cX4_init 12 = .ok (.aload_n 0, 1) := by decide +kernel
theorem dX4_init_13 : decode cX4_init 13 = .ok (.iconst 0, 1) := by decide +kernel
theorem dX4_init_14 : decode cX4_init 14 = .ok (.putfield 15, 3) := by decide +kernel
theorem dX4_init_17 : decode cX4_init 17 = .ok (.aload_n 0, 1) := by decide +kernel
theorem dX4_init_18 : decode cX4_init 18 = .ok (.iconst 0, 1) := by decide +kernel
theorem dX4_init_19 : decode cX4_init 19 = .ok (.putfield 19, 3) := by decide +kernel
theorem dX4_init_22 : decode cX4_init 22 = .ok (.aload_n 0, 1) := by decide +kernel
theorem dX4_init_23 : decode cX4_init 23 = .ok (.iconst 0, 1) := by decide +kernel
theorem dX4_init_24 : decode cX4_init 24 = .ok (.putfield 22, 3) := by decide +kernel
theorem dX4_init_27 : decode cX4_init 27 = .ok (.aload_n 0, 1) := by decide +kernel
theorem dX4_init_28 : decode cX4_init 28 = .ok (.iconst 0, 1) := by decide +kernel
theorem dX4_init_29 : decode cX4_init 29 = .ok (.putfield 25, 3) := by decide +kernel
theorem dX4_init_32 : decode cX4_init 32 = .ok (.aload_n 0, 1) := by decide +kernel
theorem dX4_init_33 : decode cX4_init 33 = .ok (.iconst 0, 1) := by decide +kernel
theorem dX4_init_34 : decode cX4_init 34 = .ok (.putfield 28, 3) := by decide +kernel
theorem dX4_init_37 : decode cX4_init 37 = .ok (.return_, 1) := by decide +kernel
theorem dX4_append_0 : decode cX4_append 0 = .ok (.lload_n 1, 1) := by decide +kernel
theorem dX4_append_1 : decode cX4_append 1 = .ok (.invokestatic 31, 3) := by decide +kernel
theorem dX4_append_4 : decode cX4_append 4 = .ok (.istore_n 3, 1) := by decide +kernel
theorem dX4_append_5 : decode cX4_append 5 = .ok (.iload_n 3, 1) := by decide +kernel
theorem dX4_append_6 : decode cX4_append 6 = .ok (.ifCond .ne 6, 3) := by decide +kernel
theorem dX4_append_9 : decode cX4_append 9 = .ok (.bipush (-2), 2) := by decide +kernel
theorem dX4_append_11 : decode cX4_append 11 = .ok (.ireturn, 1) := by decide +kernel
theorem dX4_append_12 : decode cX4_append 12 = .ok (.aload_n 0, 1) := by decide +kernel
theorem dX4_append_13 : decode cX4_append 13 = .ok (.getfield 15, 3) := by decide +kernel
theorem dX4_append_16 : decode cX4_append 16 = .ok (.iload_n 3, 1) := by decide +kernel
theorem dX4_append_17 : decode cX4_append 17 = .ok (.iadd, 1) := by decide +kernel
theorem dX4_append_18 : decode cX4_append 18 = .ok (.bipush 80, 2) := by decide +kernel
theorem dX4_append_20 : decode cX4_append 20 = .ok (.if_icmp .le 6, 3) := by decide +kernel
theorem dX4_append_23 : decode cX4_append 23 = .ok (.bipush (-4), 2) := by decide +kernel
theorem dX4_append_25 : decode cX4_append 25 = .ok (.ireturn, 1) := by decide +kernel
theorem dX4_append_26 : decode cX4_append 26 = .ok (.iconst 0, 1) := by decide +kernel
theorem dX4_append_27 : decode cX4_append 27 = .ok (.istore 4, 2) := by decide +kernel
theorem dX4_append_29 : decode cX4_append 29 = .ok (.iload 4, 2) := by decide +kernel
theorem dX4_append_31 : decode cX4_append 31 = .ok (.iload_n 3, 1) := by decide +kernel
theorem dX4_append_32 : decode cX4_append 32 = .ok (.if_icmp .ge 38, 3) := by decide +kernel
theorem dX4_append_35 : decode cX4_append 35 = .ok (.aload_n 0, 1) := by decide +kernel
theorem dX4_append_36 : decode cX4_append 36 = .ok (.getfield 11, 3) := by decide +kernel
theorem dX4_append_39 : decode cX4_append 39 = .ok (.aload_n 0, 1) := by decide +kernel
theorem dX4_append_40 : decode cX4_append 40 = .ok (.getfield 15, 3) := by decide +kernel
theorem dX4_append_43 : decode cX4_append 43 = .ok (.iload 4, 2) := by decide +kernel
theorem dX4_append_45 : decode cX4_append 45 = .ok (.iadd, 1) := by decide +kernel
theorem dX4_append_46 : decode cX4_append 46 = .ok (.lload_n 1, 1) := by decide +kernel
theorem dX4_append_47 : decode cX4_append 47 = .ok (.bipush 8, 2) := by decide +kernel
theorem dX4_append_49 : decode cX4_append 49 = .ok (.iload_n 3, 1) := by decide +kernel
theorem dX4_append_50 : decode cX4_append 50 = .ok (.iconst 1, 1) := by decide +kernel
theorem dX4_append_51 : decode cX4_append 51 = .ok (.isub, 1) := by decide +kernel
theorem dX4_append_52 : decode cX4_append 52 = .ok (.iload 4, 2) := by decide +kernel
theorem dX4_append_54 : decode cX4_append 54 = .ok (.isub, 1) := by decide +kernel
theorem dX4_append_55 : decode cX4_append 55 = .ok (.imul, 1) := by decide +kernel
theorem dX4_append_56 : decode cX4_append 56 = .ok (.lushr, 1) := by decide +kernel
theorem dX4_append_57 : decode cX4_append 57 = .ok (.ldc2_w 35, 3) := by decide +kernel
theorem dX4_append_60 : decode cX4_append 60 = .ok (.land, 1) := by decide +kernel
theorem dX4_append_61 : decode cX4_append 61 = .ok (.l2i, 1) := by decide +kernel
theorem dX4_append_62 : decode cX4_append 62 = .ok (.i2c, 1) := by decide +kernel
theorem dX4_append_63 : decode cX4_append 63 = .ok (.castore, 1) := by decide +kernel
theorem dX4_append_64 : decode cX4_append 64 = .ok (.iinc 4 1, 3) := by decide +kernel
theorem dX4_append_67 : decode cX4_append 67 = .ok (.goto (-38), 3) := by decide +kernel
theorem dX4_append_70 : decode cX4_append 70 = .ok (.aload_n 0, 1) := by decide +kernel
theorem dX4_append_71 : decode cX4_append 71 = .ok (.dup, 1) := by decide +kernel
theorem dX4_append_72 : decode cX4_append 72 = .ok (.getfield 15, 3) := by decide +kernel
theorem dX4_append_75 : decode cX4_append 75 = .ok (.iload_n 3, 1) := by decide +kernel
theorem dX4_append_76 : decode cX4_append 76 = .ok (.iadd, 1) := by decide +kernel
theorem dX4_append_77 : decode cX4_append 77 = .ok (.putfield 15, 3) := by decide +kernel
theorem dX4_append_80 : decode cX4_append 80 = .ok (.aload_n 0, 1) := by decide +kernel
theorem dX4_append_81 : decode cX4_append 81 = .ok (.getfield 15, 3) := by decide +kernel
theorem dX4_append_84 : decode cX4_append 84 = .ok (.ireturn, 1) := by decide +kernel
theorem dX4_countSigns_0 : decode cX4_countSigns 0 = .ok (.iconst 0, 1) := by decide +kernel
theorem dX4_countSigns_1 : decode cX4_countSigns 1 = .ok (.istore_n 2, 1) := by decide +kernel
theorem dX4_countSigns_2 : decode cX4_countSigns 2 = .ok (.lload_n 0, 1) := by decide +kernel
theorem dX4_countSigns_3 : decode cX4_countSigns 3 = .ok (.lstore_n 3, 1) := by decide +kernel
theorem dX4_countSigns_4 : decode cX4_countSigns 4 = .ok (.iload_n 2, 1) := by decide +kernel
theorem dX4_countSigns_5 : decode cX4_countSigns 5 = .ok (.bipush 8, 2) := by decide +kernel
theorem dX4_countSigns_7 : decode cX4_countSigns 7 = .ok (.if_icmp .ge 47, 3) := by decide +kernel
theorem dX4_countSigns_10 : decode cX4_countSigns 10 = .ok (.lload_n 3, 1) := by decide +kernel
theorem dX4_countSigns_11 : decode cX4_countSigns 11 = .ok (.lconst 0, 1) := by decide +kernel
theorem dX4_countSigns_12 : decode cX4_countSigns 12 = .ok (.lcmp, 1) := by decide +kernel
theorem dX4_countSigns_13 : decode cX4_countSigns 13 = .ok (.ifCond .eq 41, 3) := by decide +kernel
theorem dX4_countSigns_16 : decode cX4_countSigns 16 = .ok (.lload_n 3, 1) := by decide +kernel
theorem dX4_countSigns_17 : decode cX4_countSigns 17 = .ok (.ldc2_w 35, 3) := by decide +kernel
theorem dX4_countSigns_20 : decode cX4_countSigns 20 = .ok (.land, 1) := by decide +kernel
theorem dX4_countSigns_21 : decode cX4_countSigns 21 = .ok (.lstore 5, 2) := by decide +kernel
theorem dX4_countSigns_23 : decode cX4_countSigns 23 = .ok (.lload 5, 2) := by decide +kernel
theorem dX4_countSigns_25 : decode cX4_countSigns 25 = .ok (.ldc2_w 37, 3) := by decide +kernel
theorem dX4_countSigns_28 : decode cX4_countSigns 28 = .ok (.lcmp, 1) := by decide +kernel
theorem dX4_countSigns_29 : decode cX4_countSigns 29 = .ok (.ifCond .lt 12, 3) := by decide +kernel
theorem dX4_countSigns_32 : decode cX4_countSigns 32 = .ok (.lload 5, 2) := by decide +kernel
theorem dX4_countSigns_34 : decode cX4_countSigns 34 = .ok (.ldc2_w 39, 3) := by decide +kernel
theorem dX4_countSigns_37 : decode cX4_countSigns 37 = .ok (.lcmp, 1) := by decide +kernel
theorem dX4_countSigns_38 : decode cX4_countSigns 38 = .ok (.ifCond .le 5, 3) := by decide +kernel
theorem dX4_countSigns_41 : decode cX4_countSigns 41 = .ok (.iconst 0, 1) := by decide +kernel
theorem dX4_countSigns_42 : decode cX4_countSigns 42 = .ok (.ireturn, 1) := by decide +kernel
theorem dX4_countSigns_43 : decode cX4_countSigns 43 = .ok (.lload_n 3, 1) := by decide +kernel
theorem dX4_countSigns_44 : decode cX4_countSigns 44 = .ok (.bipush 8, 2) := by decide +kernel
theorem dX4_countSigns_46 : decode cX4_countSigns 46 = .ok (.lushr, 1) := by decide +kernel
theorem dX4_countSigns_47 : decode cX4_countSigns 47 = .ok (.lstore_n 3, 1) := by decide +kernel
theorem dX4_countSigns_48 : decode cX4_countSigns 48 = .ok (.iinc 2 1, 3) := by decide +kernel
theorem dX4_countSigns_51 : decode cX4_countSigns 51 = .ok (.goto (-47), 3) := by decide +kernel
theorem dX4_countSigns_54 : decode cX4_countSigns 54 = .ok (.iload_n 2, 1) := by decide +kernel
theorem dX4_countSigns_55 : decode cX4_countSigns 55 = .ok (.ireturn, 1) := by decide +kernel
theorem dX4_clear_0 : decode cX4_clear 0 = .ok (.aload_n 0, 1) := by decide +kernel
theorem dX4_clear_1 : decode cX4_clear 1 = .ok (.getfield 15, 3) := by decide +kernel
theorem dX4_clear_4 : decode cX4_clear 4 = .ok (.istore_n 1, 1) := by decide +kernel
theorem dX4_clear_5 : decode cX4_clear 5 = .ok (.aload_n 0, 1) := by decide +kernel
theorem dX4_clear_6 : decode cX4_clear 6 = .ok (.iconst 0, 1) := by decide +kernel
theorem dX4_clear_7 : decode cX4_clear 7 = .ok (.putfield 15, 3) := by decide +kernel
theorem dX4_clear_10 : decode cX4_clear 10 = .ok (.iload_n 1, 1) := by decide +kernel
theorem dX4_clear_11 : decode cX4_clear 11 = .ok (.ireturn, 1) := by decide +kernel
theorem dX4_findFault_0 : decode cX4_findFault 0 = .ok (.aload_n 0, 1) := by decide +kernel
theorem dX4_findFault_1 : decode cX4_findFault 1 = .ok (.invokevirtual 41, 3) := by decide +kernel
theorem dX4_findFault_4 : decode cX4_findFault 4 = .ok (.iconst 0, 1) := by decide +kernel
theorem dX4_findFault_5 : decode cX4_findFault 5 = .ok (.istore_n 1, 1) := by decide +kernel
theorem dX4_findFault_6 : decode cX4_findFault 6 = .ok (.iload_n 1, 1) := by decide +kernel
theorem dX4_findFault_7 : decode cX4_findFault 7 = .ok (.bipush 80, 2) := by decide +kernel
theorem dX4_findFault_9 : decode cX4_findFault 9 = .ok (.if_icmp .ge 59, 3) := by decide +kernel
theorem dX4_findFault_12 : decode cX4_findFault 12 = .ok (.aload_n 0, 1) := by decide +kernel
theorem dX4_findFault_13 : decode cX4_findFault 13 = .ok (.invokevirtual 44, 3) := by decide +kernel
theorem dX4_findFault_16 : decode cX4_findFault 16 = .ok (.ifCond .eq 52, 3) := by decide +kernel
theorem dX4_findFault_19 : decode cX4_findFault 19 = .ok (.aload_n 0, 1) := by decide +kernel
theorem dX4_findFault_20 : decode cX4_findFault 20 = .ok (.getfield 19, 3) := by decide +kernel
theorem dX4_findFault_23 : decode cX4_findFault 23 = .ok (.aload_n 0, 1) := by decide +kernel
theorem dX4_findFault_24 : decode cX4_findFault 24 = .ok (.getfield 15, 3) := by decide +kernel
theorem dX4_findFault_27 : decode cX4_findFault 27 = .ok (.if_icmp .lt 6, 3) := by decide +kernel
theorem dX4_findFault_30 : decode cX4_findFault 30 = .ok (.bipush (-6), 2) := by decide +kernel
theorem dX4_findFault_32 : decode cX4_findFault 32 = .ok (.ireturn, 1) := by decide +kernel
theorem dX4_findFault_33 : decode cX4_findFault 33 = .ok (.aload_n 0, 1) := by decide +kernel
theorem dX4_findFault_34 : decode cX4_findFault 34 = .ok (.getfield 11, 3) := by decide +kernel
theorem dX4_findFault_37 : decode cX4_findFault 37 = .ok (.aload_n 0, 1) := by decide +kernel
theorem dX4_findFault_38 : decode cX4_findFault 38 = .ok (.getfield 19, 3) := by decide +kernel
theorem dX4_findFault_41 : decode cX4_findFault 41 = .ok (.caload, 1) := by decide +kernel
theorem dX4_findFault_42 : decode cX4_findFault 42 = .ok (.bipush 59, 2) := by decide +kernel
theorem dX4_findFault_44 : decode cX4_findFault 44 = .ok (.if_icmp .eq 8, 3) := by decide +kernel
theorem dX4_findFault_47 : decode cX4_findFault 47 = .ok (.aload_n 0, 1) := by decide +kernel
theorem dX4_findFault_48 : decode cX4_findFault 48 = .ok (.getfield 19, 3) := by decide +kernel
theorem dX4_findFault_51 : decode cX4_findFault 51 = .ok (.ireturn, 1) := by decide +kernel
theorem dX4_findFault_52 : decode cX4_findFault 52 = .ok (.aload_n 0, 1) := by decide +kernel
theorem dX4_findFault_53 : decode cX4_findFault 53 = .ok (.dup, 1) := by decide +kernel
theorem dX4_findFault_54 : decode cX4_findFault 54 = .ok (.getfield 19, 3) := by decide +kernel
theorem dX4_findFault_57 : decode cX4_findFault 57 = .ok (.iconst 1, 1) := by decide +kernel
theorem dX4_findFault_58 : decode cX4_findFault 58 = .ok (.iadd, 1) := by decide +kernel
theorem dX4_findFault_59 : decode cX4_findFault 59 = .ok (.putfield 19, 3) := by decide +kernel
theorem dX4_findFault_62 : decode cX4_findFault 62 = .ok (.iinc 1 1, 3) := by decide +kernel
theorem dX4_findFault_65 : decode cX4_findFault 65 = .ok (.goto (-59), 3) := by decide +kernel
theorem dX4_findFault_68 : decode cX4_findFault 68 = .ok (.aload_n 0, 1) := by decide +kernel
theorem dX4_findFault_69 : decode cX4_findFault 69 = .ok (.getfield 19, 3) := by decide +kernel
theorem dX4_findFault_72 : decode cX4_findFault 72 = .ok (.ireturn, 1) := by decide +kernel
theorem dX4_startReading_0 : decode cX4_startReading 0 = .ok (.aload_n 0, 1) := by decide +kernel
theorem dX4_startReading_1 : decode cX4_startReading 1 = .ok (.iconst 0, 1) := by decide +kernel
theorem dX4_startReading_2 : decode cX4_startReading 2 = .ok (.putfield 19, 3) := by decide +kernel
theorem dX4_startReading_5 : decode cX4_startReading 5 = .ok (.return_, 1) := by decide +kernel
theorem dX4_skipSemicolon_0 : decode cX4_skipSemicolon 0 = .ok (.aload_n 0, 1) := by decide +kernel
theorem dX4_skipSemicolon_1 : decode cX4_skipSemicolon 1 = .ok (.invokevirtual 48, 3) := by decide +kernel
theorem dX4_skipSemicolon_4 : decode cX4_skipSemicolon 4 = .ok (.bipush 59, 2) := by decide +kernel
theorem dX4_skipSemicolon_6 : decode cX4_skipSemicolon 6 = .ok (.if_icmp .ne 13, 3) := by decide +kernel
theorem dX4_skipSemicolon_9 : decode cX4_skipSemicolon 9 = .ok (.aload_n 0, 1) := by decide +kernel
theorem dX4_skipSemicolon_10 : decode cX4_skipSemicolon 10 = .ok (.dup, 1) := by decide +kernel
theorem dX4_skipSemicolon_11 : decode cX4_skipSemicolon 11 = .ok (.getfield 19, 3) := by decide +kernel
theorem dX4_skipSemicolon_14 : decode cX4_skipSemicolon 14 = .ok (.iconst 1, 1) := by decide +kernel
theorem dX4_skipSemicolon_15 : decode cX4_skipSemicolon 15 = .ok (.iadd, 1) := by decide +kernel
theorem dX4_skipSemicolon_16 : decode cX4_skipSemicolon 16 = .ok (.putfield 19, 3) := by decide +kernel
theorem dX4_skipSemicolon_19 : decode cX4_skipSemicolon 19 = .ok (.return_, 1) := by decide +kernel
theorem dX4_readOrder_0 : decode cX4_readOrder 0 = .ok (.aload_n 0, 1) := by decide +kernel
theorem dX4_readOrder_1 : decode cX4_readOrder 1 = .ok (.aload_n 0, 1) := by decide +kernel
theorem dX4_readOrder_2 : decode cX4_readOrder 2 = .ok (.invokevirtual 48, 3) := by decide +kernel
theorem dX4_readOrder_5 : decode cX4_readOrder 5 = .ok (.putfield 22, 3) := by decide +kernel
theorem dX4_readOrder_8 : decode cX4_readOrder 8 = .ok (.aload_n 0, 1) := by decide +kernel
theorem dX4_readOrder_9 : decode cX4_readOrder 9 = .ok (.getfield 22, 3) := by decide +kernel
theorem dX4_readOrder_12 : decode cX4_readOrder 12 = .ok (.lookupswitch 182 #[(42, 167), (99, 88), (103, 167), (109, 76), (110, 76), (111, 120), (115, 135), (122, 88)], 76) := by decide +kernel
theorem dX4_readOrder_88 : decode cX4_readOrder 88 = .ok (.aload_n 0, 1) := by decide +kernel
theorem dX4_readOrder_89 : decode cX4_readOrder 89 = .ok (.dup, 1) := by decide +kernel
theorem dX4_readOrder_90 : decode cX4_readOrder 90 = .ok (.getfield 19, 3) := by decide +kernel
theorem dX4_readOrder_93 : decode cX4_readOrder 93 = .ok (.iconst 1, 1) := by decide +kernel
theorem dX4_readOrder_94 : decode cX4_readOrder 94 = .ok (.iadd, 1) := by decide +kernel
theorem dX4_readOrder_95 : decode cX4_readOrder 95 = .ok (.putfield 19, 3) := by decide +kernel
theorem dX4_readOrder_98 : decode cX4_readOrder 98 = .ok (.iconst 1, 1) := by decide +kernel
theorem dX4_readOrder_99 : decode cX4_readOrder 99 = .ok (.ireturn, 1) := by decide +kernel
theorem dX4_readOrder_100 : decode cX4_readOrder 100 = .ok (.aload_n 0, 1) := by decide +kernel
theorem dX4_readOrder_101 : decode cX4_readOrder 101 = .ok (.dup, 1) := by decide +kernel
theorem dX4_readOrder_102 : decode cX4_readOrder 102 = .ok (.getfield 19, 3) := by decide +kernel
theorem dX4_readOrder_105 : decode cX4_readOrder 105 = .ok (.iconst 1, 1) := by decide +kernel
theorem dX4_readOrder_106 : decode cX4_readOrder 106 = .ok (.iadd, 1) := by decide +kernel
theorem dX4_readOrder_107 : decode cX4_readOrder 107 = .ok (.putfield 19, 3) := by decide +kernel
theorem dX4_readOrder_110 : decode cX4_readOrder 110 = .ok (.aload_n 0, 1) := by decide +kernel
theorem dX4_readOrder_111 : decode cX4_readOrder 111 = .ok (.aload_n 0, 1) := by decide +kernel
theorem dX4_readOrder_112 : decode cX4_readOrder 112 = .ok (.invokevirtual 52, 3) := by decide +kernel
theorem dX4_readOrder_115 : decode cX4_readOrder 115 = .ok (.putfield 25, 3) := by decide +kernel
theorem dX4_readOrder_118 : decode cX4_readOrder 118 = .ok (.aload_n 0, 1) := by decide +kernel
theorem dX4_readOrder_119 : decode cX4_readOrder 119 = .ok (.getfield 25, 3) := by decide +kernel
theorem dX4_readOrder_122 : decode cX4_readOrder 122 = .ok (.iconst (-1), 1) := by decide +kernel
theorem dX4_readOrder_123 : decode cX4_readOrder 123 = .ok (.if_icmp .eq 7, 3) := by decide +kernel
theorem dX4_readOrder_126 : decode cX4_readOrder 126 = .ok (.iconst 1, 1) := by decide +kernel
theorem dX4_readOrder_127 : decode cX4_readOrder 127 = .ok (.goto 4, 3) := by decide +kernel
theorem dX4_readOrder_130 : decode cX4_readOrder 130 = .ok (.iconst 0, 1) := by decide +kernel
theorem dX4_readOrder_131 : decode cX4_readOrder 131 = .ok (.ireturn, 1) := by decide +kernel
theorem dX4_readOrder_132 : decode cX4_readOrder 132 = .ok (.aload_n 0, 1) := by decide +kernel
theorem dX4_readOrder_133 : decode cX4_readOrder 133 = .ok (.dup, 1) := by decide +kernel
theorem dX4_readOrder_134 : decode cX4_readOrder 134 = .ok (.getfield 19, 3) := by decide +kernel
theorem dX4_readOrder_137 : decode cX4_readOrder 137 = .ok (.iconst 1, 1) := by decide +kernel
theorem dX4_readOrder_138 : decode cX4_readOrder 138 = .ok (.iadd, 1) := by decide +kernel
theorem dX4_readOrder_139 : decode cX4_readOrder 139 = .ok (.putfield 19, 3) := by decide +kernel
theorem dX4_readOrder_142 : decode cX4_readOrder 142 = .ok (.aload_n 0, 1) := by decide +kernel
theorem dX4_readOrder_143 : decode cX4_readOrder 143 = .ok (.invokevirtual 56, 3) := by decide +kernel
theorem dX4_readOrder_146 : decode cX4_readOrder 146 = .ok (.ireturn, 1) := by decide +kernel
theorem dX4_readOrder_147 : decode cX4_readOrder 147 = .ok (.aload_n 0, 1) := by decide +kernel
theorem dX4_readOrder_148 : decode cX4_readOrder 148 = .ok (.dup, 1) := by decide +kernel
theorem dX4_readOrder_149 : decode cX4_readOrder 149 = .ok (.getfield 19, 3) := by decide +kernel
theorem dX4_readOrder_152 : decode cX4_readOrder 152 = .ok (.iconst 1, 1) := by decide +kernel
theorem dX4_readOrder_153 : decode cX4_readOrder 153 = .ok (.iadd, 1) := by decide +kernel
theorem dX4_readOrder_154 : decode cX4_readOrder 154 = .ok (.putfield 19, 3) := by decide +kernel
theorem dX4_readOrder_157 : decode cX4_readOrder 157 = .ok (.aload_n 0, 1) := by decide +kernel
theorem dX4_readOrder_158 : decode cX4_readOrder 158 = .ok (.aload_n 0, 1) := by decide +kernel
theorem dX4_readOrder_159 : decode cX4_readOrder 159 = .ok (.invokevirtual 59, 3) := by decide +kernel
theorem dX4_readOrder_162 : decode cX4_readOrder 162 = .ok (.putfield 25, 3) := by decide +kernel
theorem dX4_readOrder_165 : decode cX4_readOrder 165 = .ok (.aload_n 0, 1) := by decide +kernel
theorem dX4_readOrder_166 : decode cX4_readOrder 166 = .ok (.getfield 25, 3) := by decide +kernel
theorem dX4_readOrder_169 : decode cX4_readOrder 169 = .ok (.iconst (-1), 1) := by decide +kernel
theorem dX4_readOrder_170 : decode cX4_readOrder 170 = .ok (.if_icmp .eq 7, 3) := by decide +kernel
theorem dX4_readOrder_173 : decode cX4_readOrder 173 = .ok (.iconst 1, 1) := by decide +kernel
theorem dX4_readOrder_174 : decode cX4_readOrder 174 = .ok (.goto 4, 3) := by decide +kernel
theorem dX4_readOrder_177 : decode cX4_readOrder 177 = .ok (.iconst 0, 1) := by decide +kernel
theorem dX4_readOrder_178 : decode cX4_readOrder 178 = .ok (.ireturn, 1) := by decide +kernel
theorem dX4_readOrder_179 : decode cX4_readOrder 179 = .ok (.aload_n 0, 1) := by decide +kernel
theorem dX4_readOrder_180 : decode cX4_readOrder 180 = .ok (.dup, 1) := by decide +kernel
theorem dX4_readOrder_181 : decode cX4_readOrder 181 = .ok (.getfield 19, 3) := by decide +kernel
theorem dX4_readOrder_184 : decode cX4_readOrder 184 = .ok (.iconst 1, 1) := by decide +kernel
theorem dX4_readOrder_185 : decode cX4_readOrder 185 = .ok (.iadd, 1) := by decide +kernel
theorem dX4_readOrder_186 : decode cX4_readOrder 186 = .ok (.putfield 19, 3) := by decide +kernel
theorem dX4_readOrder_189 : decode cX4_readOrder 189 = .ok (.aload_n 0, 1) := by decide +kernel
theorem dX4_readOrder_190 : decode cX4_readOrder 190 = .ok (.invokevirtual 62, 3) := by decide +kernel
theorem dX4_readOrder_193 : decode cX4_readOrder 193 = .ok (.ireturn, 1) := by decide +kernel
theorem dX4_readOrder_194 : decode cX4_readOrder 194 = .ok (.iconst 0, 1) := by decide +kernel
theorem dX4_readOrder_195 : decode cX4_readOrder 195 = .ok (.ireturn, 1) := by decide +kernel
theorem dX4_readTwoDigits_0 : decode cX4_readTwoDigits 0 = .ok (.aload_n 0, 1) := by decide +kernel
theorem dX4_readTwoDigits_1 : decode cX4_readTwoDigits 1 = .ok (.aload_n 0, 1) := by decide +kernel
theorem dX4_readTwoDigits_2 : decode cX4_readTwoDigits 2 = .ok (.invokevirtual 52, 3) := by decide +kernel
theorem dX4_readTwoDigits_5 : decode cX4_readTwoDigits 5 = .ok (.putfield 25, 3) := by decide +kernel
theorem dX4_readTwoDigits_8 : decode cX4_readTwoDigits 8 = .ok (.aload_n 0, 1) := by decide +kernel
theorem dX4_readTwoDigits_9 : decode cX4_readTwoDigits 9 = .ok (.getfield 25, 3) := by decide +kernel
theorem dX4_readTwoDigits_12 : decode cX4_readTwoDigits 12 = .ok (.iconst (-1), 1) := by decide +kernel
theorem dX4_readTwoDigits_13 : decode cX4_readTwoDigits 13 = .ok (.if_icmp .ne 5, 3) := by decide +kernel
theorem dX4_readTwoDigits_16 : decode cX4_readTwoDigits 16 = .ok (.iconst 0, 1) := by decide +kernel
theorem dX4_readTwoDigits_17 : decode cX4_readTwoDigits 17 = .ok (.ireturn, 1) := by decide +kernel
theorem dX4_readTwoDigits_18 : decode cX4_readTwoDigits 18 = .ok (.aload_n 0, 1) := by decide +kernel
theorem dX4_readTwoDigits_19 : decode cX4_readTwoDigits 19 = .ok (.aload_n 0, 1) := by decide +kernel
theorem dX4_readTwoDigits_20 : decode cX4_readTwoDigits 20 = .ok (.invokevirtual 52, 3) := by decide +kernel
theorem dX4_readTwoDigits_23 : decode cX4_readTwoDigits 23 = .ok (.putfield 28, 3) := by decide +kernel
theorem dX4_readTwoDigits_26 : decode cX4_readTwoDigits 26 = .ok (.aload_n 0, 1) := by decide +kernel
theorem dX4_readTwoDigits_27 : decode cX4_readTwoDigits 27 = .ok (.getfield 28, 3) := by decide +kernel
theorem dX4_readTwoDigits_30 : decode cX4_readTwoDigits 30 = .ok (.iconst (-1), 1) := by decide +kernel
theorem dX4_readTwoDigits_31 : decode cX4_readTwoDigits 31 = .ok (.if_icmp .eq 7, 3) := by decide +kernel
theorem dX4_readTwoDigits_34 : decode cX4_readTwoDigits 34 = .ok (.iconst 1, 1) := by decide +kernel
theorem dX4_readTwoDigits_35 : decode cX4_readTwoDigits 35 = .ok (.goto 4, 3) := by decide +kernel
theorem dX4_readTwoDigits_38 : decode cX4_readTwoDigits 38 = .ok (.iconst 0, 1) := by decide +kernel
theorem dX4_readTwoDigits_39 : decode cX4_readTwoDigits 39 = .ok (.ireturn, 1) := by decide +kernel
theorem dX4_readSignedNumber_0 : decode cX4_readSignedNumber 0 = .ok (.aload_n 0, 1) := by decide +kernel
theorem dX4_readSignedNumber_1 : decode cX4_readSignedNumber 1 = .ok (.invokevirtual 48, 3) := by decide +kernel
theorem dX4_readSignedNumber_4 : decode cX4_readSignedNumber 4 = .ok (.istore_n 1, 1) := by decide +kernel
theorem dX4_readSignedNumber_5 : decode cX4_readSignedNumber 5 = .ok (.iload_n 1, 1) := by decide +kernel
theorem dX4_readSignedNumber_6 : decode cX4_readSignedNumber 6 = .ok (.bipush 43, 2) := by decide +kernel
theorem dX4_readSignedNumber_8 : decode cX4_readSignedNumber 8 = .ok (.if_icmp .eq 11, 3) := by decide +kernel
theorem dX4_readSignedNumber_11 : decode cX4_readSignedNumber 11 = .ok (.iload_n 1, 1) := by decide +kernel
theorem dX4_readSignedNumber_12 : decode cX4_readSignedNumber 12 = .ok (.bipush 45, 2) := by decide +kernel
theorem dX4_readSignedNumber_14 : decode cX4_readSignedNumber 14 = .ok (.if_icmp .eq 5, 3) := by decide +kernel
theorem dX4_readSignedNumber_17 : decode cX4_readSignedNumber 17 = .ok (.iconst 0, 1) := by decide +kernel
theorem dX4_readSignedNumber_18 : decode cX4_readSignedNumber 18 = .ok (.ireturn, 1) := by decide +kernel
theorem dX4_readSignedNumber_19 : decode cX4_readSignedNumber 19 = .ok (.aload_n 0, 1) := by decide +kernel
theorem dX4_readSignedNumber_20 : decode cX4_readSignedNumber 20 = .ok (.dup, 1) := by decide +kernel
theorem dX4_readSignedNumber_21 : decode cX4_readSignedNumber 21 = .ok (.getfield 19, 3) := by decide +kernel
theorem dX4_readSignedNumber_24 : decode cX4_readSignedNumber 24 = .ok (.iconst 1, 1) := by decide +kernel
theorem dX4_readSignedNumber_25 : decode cX4_readSignedNumber 25 = .ok (.iadd, 1) := by decide +kernel
theorem dX4_readSignedNumber_26 : decode cX4_readSignedNumber 26 = .ok (.putfield 19, 3) := by decide +kernel
theorem dX4_readSignedNumber_29 : decode cX4_readSignedNumber 29 = .ok (.aload_n 0, 1) := by decide +kernel
theorem dX4_readSignedNumber_30 : decode cX4_readSignedNumber 30 = .ok (.invokevirtual 59, 3) := by decide +kernel
theorem dX4_readSignedNumber_33 : decode cX4_readSignedNumber 33 = .ok (.istore_n 2, 1) := by decide +kernel
theorem dX4_readSignedNumber_34 : decode cX4_readSignedNumber 34 = .ok (.aload_n 0, 1) := by decide +kernel
theorem dX4_readSignedNumber_35 : decode cX4_readSignedNumber 35 = .ok (.iload_n 1, 1) := by decide +kernel
theorem dX4_readSignedNumber_36 : decode cX4_readSignedNumber 36 = .ok (.bipush 45, 2) := by decide +kernel
theorem dX4_readSignedNumber_38 : decode cX4_readSignedNumber 38 = .ok (.if_icmp .ne 8, 3) := by decide +kernel
theorem dX4_readSignedNumber_41 : decode cX4_readSignedNumber 41 = .ok (.iload_n 2, 1) := by decide +kernel
theorem dX4_readSignedNumber_42 : decode cX4_readSignedNumber 42 = .ok (.ineg, 1) := by decide +kernel
theorem dX4_readSignedNumber_43 : decode cX4_readSignedNumber 43 = .ok (.goto 4, 3) := by decide +kernel
theorem dX4_readSignedNumber_46 : decode cX4_readSignedNumber 46 = .ok (.iload_n 2, 1) := by decide +kernel
theorem dX4_readSignedNumber_47 : decode cX4_readSignedNumber 47 = .ok (.putfield 25, 3) := by decide +kernel
theorem dX4_readSignedNumber_50 : decode cX4_readSignedNumber 50 = .ok (.iload_n 2, 1) := by decide +kernel
theorem dX4_readSignedNumber_51 : decode cX4_readSignedNumber 51 = .ok (.iconst (-1), 1) := by decide +kernel
theorem dX4_readSignedNumber_52 : decode cX4_readSignedNumber 52 = .ok (.if_icmp .eq 7, 3) := by decide +kernel
theorem dX4_readSignedNumber_55 : decode cX4_readSignedNumber 55 = .ok (.iconst 1, 1) := by decide +kernel
theorem dX4_readSignedNumber_56 : decode cX4_readSignedNumber 56 = .ok (.goto 4, 3) := by decide +kernel
theorem dX4_readSignedNumber_59 : decode cX4_readSignedNumber 59 = .ok (.iconst 0, 1) := by decide +kernel
theorem dX4_readSignedNumber_60 : decode cX4_readSignedNumber 60 = .ok (.ireturn, 1) := by decide +kernel
theorem dX4_readNumber_0 : decode cX4_readNumber 0 = .ok (.aload_n 0, 1) := by decide +kernel
theorem dX4_readNumber_1 : decode cX4_readNumber 1 = .ok (.invokevirtual 52, 3) := by decide +kernel
theorem dX4_readNumber_4 : decode cX4_readNumber 4 = .ok (.istore_n 1, 1) := by decide +kernel
theorem dX4_readNumber_5 : decode cX4_readNumber 5 = .ok (.iconst 1, 1) := by decide +kernel
theorem dX4_readNumber_6 : decode cX4_readNumber 6 = .ok (.istore_n 2, 1) := by decide +kernel
theorem dX4_readNumber_7 : decode cX4_readNumber 7 = .ok (.iload_n 2, 1) := by decide +kernel
theorem dX4_readNumber_8 : decode cX4_readNumber 8 = .ok (.iconst 4, 1) := by decide +kernel
theorem dX4_readNumber_9 : decode cX4_readNumber 9 = .ok (.if_icmp .ge 33, 3) := by decide +kernel
theorem dX4_readNumber_12 : decode cX4_readNumber 12 = .ok (.iload_n 1, 1) := by decide +kernel
theorem dX4_readNumber_13 : decode cX4_readNumber 13 = .ok (.ifCond .le 29, 3) := by decide +kernel
theorem dX4_readNumber_16 : decode cX4_readNumber 16 = .ok (.aload_n 0, 1) := by decide +kernel
theorem dX4_readNumber_17 : decode cX4_readNumber 17 = .ok (.invokevirtual 48, 3) := by decide +kernel
theorem dX4_readNumber_20 : decode cX4_readNumber 20 = .ok (.invokestatic 65, 3) := by decide +kernel
theorem dX4_readNumber_23 : decode cX4_readNumber 23 = .ok (.ifCond .eq 19, 3) := by decide +kernel
theorem dX4_readNumber_26 : decode cX4_readNumber 26 = .ok (.bipush 10, 2) := by decide +kernel
theorem dX4_readNumber_28 : decode cX4_readNumber 28 = .ok (.iload_n 1, 1) := by decide +kernel
theorem dX4_readNumber_29 : decode cX4_readNumber 29 = .ok (.imul, 1) := by decide +kernel
theorem dX4_readNumber_30 : decode cX4_readNumber 30 = .ok (.aload_n 0, 1) := by decide +kernel
theorem dX4_readNumber_31 : decode cX4_readNumber 31 = .ok (.invokevirtual 52, 3) := by decide +kernel
theorem dX4_readNumber_34 : decode cX4_readNumber 34 = .ok (.iadd, 1) := by decide +kernel
theorem dX4_readNumber_35 : decode cX4_readNumber 35 = .ok (.istore_n 1, 1) := by decide +kernel
theorem dX4_readNumber_36 : decode cX4_readNumber 36 = .ok (.iinc 2 1, 3) := by decide +kernel
theorem dX4_readNumber_39 : decode cX4_readNumber 39 = .ok (.goto (-32), 3) := by decide +kernel
theorem dX4_readNumber_42 : decode cX4_readNumber 42 = .ok (.iload_n 1, 1) := by decide +kernel
theorem dX4_readNumber_43 : decode cX4_readNumber 43 = .ok (.ireturn, 1) := by decide +kernel
theorem dX4_readDigit_0 : decode cX4_readDigit 0 = .ok (.aload_n 0, 1) := by decide +kernel
theorem dX4_readDigit_1 : decode cX4_readDigit 1 = .ok (.invokevirtual 48, 3) := by decide +kernel
theorem dX4_readDigit_4 : decode cX4_readDigit 4 = .ok (.istore_n 1, 1) := by decide +kernel
theorem dX4_readDigit_5 : decode cX4_readDigit 5 = .ok (.iload_n 1, 1) := by decide +kernel
theorem dX4_readDigit_6 : decode cX4_readDigit 6 = .ok (.invokestatic 65, 3) := by decide +kernel
theorem dX4_readDigit_9 : decode cX4_readDigit 9 = .ok (.ifCond .ne 5, 3) := by decide +kernel
theorem dX4_readDigit_12 : decode cX4_readDigit 12 = .ok (.iconst (-1), 1) := by decide +kernel
theorem dX4_readDigit_13 : decode cX4_readDigit 13 = .ok (.ireturn, 1) := by decide +kernel
theorem dX4_readDigit_14 : decode cX4_readDigit 14 = .ok (.aload_n 0, 1) := by decide +kernel
theorem dX4_readDigit_15 : decode cX4_readDigit 15 = .ok (.dup, 1) := by decide +kernel
theorem dX4_readDigit_16 : decode cX4_readDigit 16 = .ok (.getfield 19, 3) := by decide +kernel
theorem dX4_readDigit_19 : decode cX4_readDigit 19 = .ok (.iconst 1, 1) := by decide +kernel
theorem dX4_readDigit_20 : decode cX4_readDigit 20 = .ok (.iadd, 1) := by decide +kernel
theorem dX4_readDigit_21 : decode cX4_readDigit 21 = .ok (.putfield 19, 3) := by decide +kernel
theorem dX4_readDigit_24 : decode cX4_readDigit 24 = .ok (.iload_n 1, 1) := by decide +kernel
theorem dX4_readDigit_25 : decode cX4_readDigit 25 = .ok (.bipush 48, 2) := by decide +kernel
theorem dX4_readDigit_27 : decode cX4_readDigit 27 = .ok (.isub, 1) := by decide +kernel
theorem dX4_readDigit_28 : decode cX4_readDigit 28 = .ok (.ireturn, 1) := by decide +kernel
theorem dX4_isDigit_0 : decode cX4_isDigit 0 = .ok (.iload_n 0, 1) := by decide +kernel
theorem dX4_isDigit_1 : decode cX4_isDigit 1 = .ok (.bipush 48, 2) := by decide +kernel
theorem dX4_isDigit_3 : decode cX4_isDigit 3 = .ok (.if_icmp .lt 13, 3) := by decide +kernel
theorem dX4_isDigit_6 : decode cX4_isDigit 6 = .ok (.iload_n 0, 1) := by decide +kernel
theorem dX4_isDigit_7 : decode cX4_isDigit 7 = .ok (.bipush 57, 2) := by decide +kernel
theorem dX4_isDigit_9 : decode cX4_isDigit 9 = .ok (.if_icmp .gt 7, 3) := by decide +kernel
theorem dX4_isDigit_12 : decode cX4_isDigit 12 = .ok (.iconst 1, 1) := by decide +kernel
theorem dX4_isDigit_13 : decode cX4_isDigit 13 = .ok (.goto 4, 3) := by decide +kernel
theorem dX4_isDigit_16 : decode cX4_isDigit 16 = .ok (.iconst 0, 1) := by decide +kernel
theorem dX4_isDigit_17 : decode cX4_isDigit 17 = .ok (.ireturn, 1) := by decide +kernel
theorem dX4_nextSign_0 : decode cX4_nextSign 0 = .ok (.aload_n 0, 1) := by decide +kernel
theorem dX4_nextSign_1 : decode cX4_nextSign 1 = .ok (.getfield 19, 3) := by decide +kernel
theorem dX4_nextSign_4 : decode cX4_nextSign 4 = .ok (.aload_n 0, 1) := by decide +kernel
theorem dX4_nextSign_5 : decode cX4_nextSign 5 = .ok (.getfield 15, 3) := by decide +kernel
theorem dX4_nextSign_8 : decode cX4_nextSign 8 = .ok (.if_icmp .ge 15, 3) := by decide +kernel
theorem dX4_nextSign_11 : decode cX4_nextSign 11 = .ok (.aload_n 0, 1) := by decide +kernel
theorem dX4_nextSign_12 : decode cX4_nextSign 12 = .ok (.getfield 11, 3) := by decide +kernel
theorem dX4_nextSign_15 : decode cX4_nextSign 15 = .ok (.aload_n 0, 1) := by decide +kernel
theorem dX4_nextSign_16 : decode cX4_nextSign 16 = .ok (.getfield 19, 3) := by decide +kernel
theorem dX4_nextSign_19 : decode cX4_nextSign 19 = .ok (.caload, 1) := by decide +kernel
theorem dX4_nextSign_20 : decode cX4_nextSign 20 = .ok (.goto 4, 3) := by decide +kernel
theorem dX4_nextSign_23 : decode cX4_nextSign 23 = .ok (.iconst 0, 1) := by decide +kernel
theorem dX4_nextSign_24 : decode cX4_nextSign 24 = .ok (.ireturn, 1) := by decide +kernel
theorem dX5_init_0 : decode cX5_init 0 = .ok (.aload_n 0, 1) := by decide +kernel
theorem dX5_init_1 : decode cX5_init 1 = .ok (.invokespecial 3, 3) := by decide +kernel
theorem dX5_init_4 : decode cX5_init 4 = .ok (.aload_n 0, 1) := by decide +kernel
theorem dX5_init_5 : decode cX5_init 5 = .ok (.iconst 0, 1) := by decide +kernel
theorem dX5_init_6 : decode cX5_init 6 = .ok (.putfield 9, 3) := by decide +kernel
theorem dX5_init_9 : decode cX5_init 9 = .ok (.aload_n 0, 1) := by decide +kernel
theorem dX5_init_10 : decode cX5_init 10 = .ok (.iconst 0, 1) := by decide +kernel
theorem dX5_init_11 : decode cX5_init 11 = .ok (.putfield 15, 3) := by decide +kernel
theorem dX5_init_14 : decode cX5_init 14 = .ok (.aload_n 0, 1) := by decide +kernel
theorem dX5_init_15 : decode cX5_init 15 = .ok (.bipush 8, 2) := by decide +kernel
theorem dX5_init_17 : decode cX5_init 17 = .ok (.newarray .int, 2) := by decide +kernel
theorem dX5_init_19 : decode cX5_init 19 = .ok (.putfield 18, 3) := by decide +kernel
theorem dX5_init_22 : decode cX5_init 22 = .ok (.return_, 1) := by decide +kernel
theorem dX5_copyFrom_0 : decode cX5_copyFrom 0 = .ok (.aload_n 0, 1) := by decide +kernel
theorem dX5_copyFrom_1 : decode cX5_copyFrom 1 = .ok (.aload_n 1, 1) := by decide +kernel
theorem dX5_copyFrom_2 : decode cX5_copyFrom 2 = .ok (.getfield 9, 3) := by decide +kernel
theorem dX5_copyFrom_5 : decode cX5_copyFrom 5 = .ok (.putfield 9, 3) := by decide +kernel
theorem dX5_copyFrom_8 : decode cX5_copyFrom 8 = .ok (.aload_n 0, 1) := by decide +kernel
theorem dX5_copyFrom_9 : decode cX5_copyFrom 9 = .ok (.aload_n 1, 1) := by decide +kernel
theorem dX5_copyFrom_10 : decode cX5_copyFrom 10 = .ok (.getfield 15, 3) := by decide +kernel
theorem dX5_copyFrom_13 : decode cX5_copyFrom 13 = .ok (.putfield 15, 3) := by decide +kernel
theorem dX5_copyFrom_16 : decode cX5_copyFrom 16 = .ok (.aload_n 1, 1) := by decide +kernel
theorem dX5_copyFrom_17 : decode cX5_copyFrom 17 = .ok (.getfield 18, 3) := by decide +kernel
theorem dX5_copyFrom_20 : decode cX5_copyFrom 20 = .ok (.iconst 0, 1) := by decide +kernel
theorem dX5_copyFrom_21 : decode cX5_copyFrom 21 = .ok (.aload_n 0, 1) := by decide +kernel
theorem dX5_copyFrom_22 : decode cX5_copyFrom 22 = .ok (.getfield 18, 3) := by decide +kernel
theorem dX5_copyFrom_25 : decode cX5_copyFrom 25 = .ok (.iconst 0, 1) := by decide +kernel
theorem dX5_copyFrom_26 : decode cX5_copyFrom 26 = .ok (.bipush 8, 2) := by decide +kernel
theorem dX5_copyFrom_28 : decode cX5_copyFrom 28 = .ok (.invokestatic 22, 3) := by decide +kernel
theorem dX5_copyFrom_31 : decode cX5_copyFrom 31 = .ok (.return_, 1) := by decide +kernel
theorem dX5_hasStar_0 : decode cX5_hasStar 0 = .ok (.iload_n 1, 1) := by decide +kernel
theorem dX5_hasStar_1 : decode cX5_hasStar 1 = .ok (.ifCond .lt 15, 3) := by decide +kernel
theorem dX5_hasStar_4 : decode cX5_hasStar 4 = .ok (.iload_n 1, 1) := by decide +kernel
theorem dX5_hasStar_5 : decode cX5_hasStar 5 = .ok (.aload_n 0, 1) := by decide +kernel
theorem dX5_hasStar_6 : decode cX5_hasStar 6 = .ok (.getfield 9, 3) := by decide +kernel
theorem dX5_hasStar_9 : decode cX5_hasStar 9 = .ok (.if_icmp .ge 7, 3) := by decide +kernel
theorem dX5_hasStar_12 : decode cX5_hasStar 12 = .ok (.iconst 1, 1) := by decide +kernel
theorem dX5_hasStar_13 : decode cX5_hasStar 13 = .ok (.goto 4, 3) := by decide +kernel
theorem dX5_hasStar_16 : decode cX5_hasStar 16 = .ok (.iconst 0, 1) := by decide +kernel
theorem dX5_hasStar_17 : decode cX5_hasStar 17 = .ok (.ireturn, 1) := by decide +kernel
theorem dX5_cloudBefore_0 : decode cX5_cloudBefore 0 = .ok (.aload_n 0, 1) := by decide +kernel
theorem dX5_cloudBefore_1 : decode cX5_cloudBefore 1 = .ok (.getfield 15, 3) := by decide +kernel
theorem dX5_cloudBefore_4 : decode cX5_cloudBefore 4 = .ok (.iload_n 1, 1) := by decide +kernel
theorem dX5_cloudBefore_5 : decode cX5_cloudBefore 5 = .ok (.ishr, 1) := by decide +kernel
theorem dX5_cloudBefore_6 : decode cX5_cloudBefore 6 = .ok (.iconst 1, 1) := by decide +kernel
theorem dX5_cloudBefore_7 : decode cX5_cloudBefore 7 = .ok (.iand, 1) := by decide +kernel
theorem dX5_cloudBefore_8 : decode cX5_cloudBefore 8 = .ok (.ireturn, 1) := by decide +kernel
theorem dX6_init_0 : decode cX6_init 0 = .ok (.aload_n 0, 1) := by decide +kernel
theorem dX6_init_1 : decode cX6_init 1 = .ok (.invokespecial 3, 3) := by decide +kernel
theorem dX6_init_4 : decode cX6_init 4 = .ok (.aload_n 0, 1) := by decide +kernel
theorem dX6_init_5 : decode cX6_init 5 = .ok (.iconst 4, 1) := by decide +kernel
theorem dX6_init_6 : decode cX6_init 6 = .ok (.newarray .int, 2) := by decide +kernel
theorem dX6_init_8 : decode cX6_init 8 = .ok (.putfield 9, 3) := by decide +kernel
theorem dX6_init_11 : decode cX6_init 11 = .ok (.aload_n 0, 1) := by decide +kernel
theorem dX6_init_12 : decode cX6_init 12 = .ok (.new 15, 3) := by decide +kernel
theorem dX6_init_15 : decode cX6_init 15 = .ok (.dup, 1) := by decide +kernel
theorem dX6_init_16 : decode cX6_init 16 = .ok (.invokespecial 17, 3) := by decide +kernel
theorem dX6_init_19 : decode cX6_init 19 = .ok (.putfield 18, 3) := by decide +kernel
theorem dX6_init_22 : decode cX6_init 22 = .ok (.aload_n 0, 1) := by decide +kernel
theorem dX6_init_23 : decode cX6_init 23 = .ok (.new 22, 3) := by decide +kernel
theorem dX6_init_26 : decode cX6_init 26 = .ok (.dup, 1) := by decide +kernel
theorem dX6_init_27 : decode cX6_init 27 = .ok (.invokespecial 24, 3) := by decide +kernel
theorem dX6_init_30 : decode cX6_init 30 = .ok (.putfield 25, 3) := by decide +kernel
theorem dX6_init_33 : decode cX6_init 33 = .ok (.aload_n 0, 1) := by decide +kernel
theorem dX6_init_34 : decode cX6_init 34 = .ok (.new 29, 3) := by decide +kernel
theorem dX6_init_37 : decode cX6_init 37 = .ok (.dup, 1) := by decide +kernel
theorem dX6_init_38 : decode cX6_init 38 = .ok (.invokespecial 31, 3) := by decide +kernel
theorem dX6_init_41 : decode cX6_init 41 = .ok (.putfield 32, 3) := by decide +kernel
theorem dX6_init_44 : decode cX6_init 44 = .ok (.aload_n 0, 1) := by decide +kernel
theorem dX6_init_45 : decode cX6_init 45 = .ok (.new 36, 3) := by decide +kernel
theorem dX6_init_48 : decode cX6_init 48 = .ok (.dup, 1) := by decide +kernel
theorem dX6_init_49 : decode cX6_init 49 = .ok (.invokespecial 38, 3) := by decide +kernel
theorem dX6_init_52 : decode cX6_init 52 = .ok (.putfield 39, 3) := by decide +kernel
theorem dX6_init_55 : decode cX6_init 55 = .ok (.aload_n 0, 1) := by decide +kernel
theorem dX6_init_56 : decode cX6_init 56 = .ok (.iconst 0, 1) := by decide +kernel
theorem dX6_init_57 : decode cX6_init 57 = .ok (.putfield 43, 3) := by decide +kernel
theorem dX6_init_60 : decode cX6_init 60 = .ok (.aload_n 0, 1) := by decide +kernel
theorem dX6_init_61 : decode cX6_init 61 = .ok (.iconst 0, 1) := by decide +kernel
theorem dX6_init_62 : decode cX6_init 62 = .ok (.putfield 47, 3) := by decide +kernel
theorem dX6_init_65 : decode cX6_init 65 = .ok (.aload_n 0, 1) := by decide +kernel
theorem dX6_init_66 : decode cX6_init 66 = .ok (.iconst 0, 1) := by decide +kernel
theorem dX6_init_67 : decode cX6_init 67 = .ok (.putfield 50, 3) := by decide +kernel
theorem dX6_init_70 : decode cX6_init 70 = .ok (.getstatic 53, 3) := by decide +kernel
theorem dX6_init_73 : decode cX6_init 73 = .ok (.iconst 0, 1) := by decide +kernel
theorem dX6_init_74 : decode cX6_init 74 = .ok (.aload_n 0, 1) := by decide +kernel
theorem dX6_init_75 : decode cX6_init 75 = .ok (.getfield 9, 3) := by decide +kernel
theorem dX6_init_78 : decode cX6_init 78 = .ok (.iconst 0, 1) := by decide +kernel
theorem dX6_init_79 : decode cX6_init 79 = .ok (.iconst 4, 1) := by decide +kernel
theorem dX6_init_80 : decode cX6_init 80 = .ok (.invokestatic 56, 3) := by decide +kernel
theorem dX6_init_83 : decode cX6_init 83 = .ok (.return_, 1) := by decide +kernel
theorem dX6_copyFrom_0 : decode cX6_copyFrom 0 = .ok (.aload_n 1, 1) := by decide +kernel
theorem dX6_copyFrom_1 : decode cX6_copyFrom 1 = .ok (.getfield 9, 3) := by decide +kernel
theorem dX6_copyFrom_4 : decode cX6_copyFrom 4 = .ok (.iconst 0, 1) := by decide +kernel
theorem dX6_copyFrom_5 : decode cX6_copyFrom 5 = .ok (.aload_n 0, 1) := by decide +kernel
theorem dX6_copyFrom_6 : decode cX6_copyFrom 6 = .ok (.getfield 9, 3) := by decide +kernel
theorem dX6_copyFrom_9 : decode cX6_copyFrom 9 = .ok (.iconst 0, 1) := by decide +kernel
theorem dX6_copyFrom_10 : decode cX6_copyFrom 10 = .ok (.iconst 4, 1) := by decide +kernel
theorem dX6_copyFrom_11 : decode cX6_copyFrom 11 = .ok (.invokestatic 56, 3) := by decide +kernel
theorem dX6_copyFrom_14 : decode cX6_copyFrom 14 = .ok (.aload_n 0, 1) := by decide +kernel
theorem dX6_copyFrom_15 : decode cX6_copyFrom 15 = .ok (.getfield 18, 3) := by decide +kernel
theorem dX6_copyFrom_18 : decode cX6_copyFrom 18 = .ok (.aload_n 1, 1) := by decide +kernel
theorem dX6_copyFrom_19 : decode cX6_copyFrom 19 = .ok (.getfield 18, 3) := by decide +kernel
theorem dX6_copyFrom_22 : decode cX6_copyFrom 22 = .ok (.invokevirtual 62, 3) := by decide +kernel
theorem dX6_copyFrom_25 : decode cX6_copyFrom 25 = .ok (.aload_n 0, 1) := by decide +kernel
theorem dX6_copyFrom_26 : decode cX6_copyFrom 26 = .ok (.getfield 25, 3) := by decide +kernel
theorem dX6_copyFrom_29 : decode cX6_copyFrom 29 = .ok (.aload_n 1, 1) := by decide +kernel
theorem dX6_copyFrom_30 : decode cX6_copyFrom 30 = .ok (.getfield 25, 3) := by decide +kernel
theorem dX6_copyFrom_33 : decode cX6_copyFrom 33 = .ok (.invokevirtual 66, 3) := by decide +kernel
theorem dX6_copyFrom_36 : decode cX6_copyFrom 36 = .ok (.aload_n 0, 1) := by decide +kernel
theorem dX6_copyFrom_37 : decode cX6_copyFrom 37 = .ok (.getfield 32, 3) := by decide +kernel
theorem dX6_copyFrom_40 : decode cX6_copyFrom 40 = .ok (.aload_n 1, 1) := by decide +kernel
theorem dX6_copyFrom_41 : decode cX6_copyFrom 41 = .ok (.getfield 32, 3) := by decide +kernel
theorem dX6_copyFrom_44 : decode cX6_copyFrom 44 = .ok (.invokevirtual 69, 3) := by decide +kernel
theorem dX6_copyFrom_47 : decode cX6_copyFrom 47 = .ok (.aload_n 0, 1) := by decide +kernel
theorem dX6_copyFrom_48 : decode cX6_copyFrom 48 = .ok (.getfield 39, 3) := by decide +kernel
theorem dX6_copyFrom_51 : decode cX6_copyFrom 51 = .ok (.aload_n 1, 1) := by decide +kernel
theorem dX6_copyFrom_52 : decode cX6_copyFrom 52 = .ok (.getfield 39, 3) := by decide +kernel
theorem dX6_copyFrom_55 : decode cX6_copyFrom 55 = .ok (.invokevirtual 72, 3) := by decide +kernel
theorem dX6_copyFrom_58 : decode cX6_copyFrom 58 = .ok (.aload_n 0, 1) := by decide +kernel
theorem dX6_copyFrom_59 : decode cX6_copyFrom 59 = .ok (.aload_n 1, 1) := by decide +kernel
theorem dX6_copyFrom_60 : decode cX6_copyFrom 60 = .ok (.getfield 43, 3) := by decide +kernel
theorem dX6_copyFrom_63 : decode cX6_copyFrom 63 = .ok (.putfield 43, 3) := by decide +kernel
theorem dX6_copyFrom_66 : decode cX6_copyFrom 66 = .ok (.aload_n 0, 1) := by decide +kernel
theorem dX6_copyFrom_67 : decode cX6_copyFrom 67 = .ok (.aload_n 1, 1) := by decide +kernel
theorem dX6_copyFrom_68 : decode cX6_copyFrom 68 = .ok (.getfield 47, 3) := by decide +kernel
theorem dX6_copyFrom_71 : decode cX6_copyFrom 71 = .ok (.putfield 47, 3) := by decide +kernel
theorem dX6_copyFrom_74 : decode cX6_copyFrom 74 = .ok (.aload_n 0, 1) := by decide +kernel
theorem dX6_copyFrom_75 : decode cX6_copyFrom 75 = .ok (.aload_n 1, 1) := by decide +kernel
theorem dX6_copyFrom_76 : decode cX6_copyFrom 76 = .ok (.getfield 50, 3) := by decide +kernel
theorem dX6_copyFrom_79 : decode cX6_copyFrom 79 = .ok (.putfield 50, 3) := by decide +kernel
theorem dX6_copyFrom_82 : decode cX6_copyFrom 82 = .ok (.return_, 1) := by decide +kernel
theorem dX6_changeSetting_0 : decode cX6_changeSetting 0 = .ok (.iload_n 1, 1) := by decide +kernel
theorem dX6_changeSetting_1 : decode cX6_changeSetting 1 = .ok (.ifCond .lt 26, 3) := by decide +kernel
theorem dX6_changeSetting_4 : decode cX6_changeSetting 4 = .ok (.iload_n 1, 1) := by decide +kernel
theorem dX6_changeSetting_5 : decode cX6_changeSetting 5 = .ok (.iconst 4, 1) := by decide +kernel
theorem dX6_changeSetting_6 : decode cX6_changeSetting 6 = .ok (.if_icmp .ge 21, 3) := by decide +kernel
theorem dX6_changeSetting_9 : decode cX6_changeSetting 9 = .ok (.iload_n 2, 1) := by decide +kernel
theorem dX6_changeSetting_10 : decode cX6_changeSetting 10 = .ok (.getstatic 75, 3) := by decide +kernel
theorem dX6_changeSetting_13 : decode cX6_changeSetting 13 = .ok (.iload_n 1, 1) := by decide +kernel
theorem dX6_changeSetting_14 : decode cX6_changeSetting 14 = .ok (.iaload, 1) := by decide +kernel
theorem dX6_changeSetting_15 : decode cX6_changeSetting 15 = .ok (.if_icmp .lt 12, 3) := by decide +kernel
theorem dX6_changeSetting_18 : decode cX6_changeSetting 18 = .ok (.iload_n 2, 1) := by decide +kernel
theorem dX6_changeSetting_19 : decode cX6_changeSetting 19 = .ok (.getstatic 78, 3) := by decide +kernel
theorem dX6_changeSetting_22 : decode cX6_changeSetting 22 = .ok (.iload_n 1, 1) := by decide +kernel
theorem dX6_changeSetting_23 : decode cX6_changeSetting 23 = .ok (.iaload, 1) := by decide +kernel
theorem dX6_changeSetting_24 : decode cX6_changeSetting 24 = .ok (.if_icmp .le 6, 3) := by decide +kernel
theorem dX6_changeSetting_27 : decode cX6_changeSetting 27 = .ok (.bipush (-2), 2) := by decide +kernel
theorem dX6_changeSetting_29 : decode cX6_changeSetting 29 = .ok (.ireturn, 1) := by decide +kernel
theorem dX6_changeSetting_30 : decode cX6_changeSetting 30 = .ok (.aload_n 0, 1) := by decide +kernel
theorem dX6_changeSetting_31 : decode cX6_changeSetting 31 = .ok (.getfield 9, 3) := by decide +kernel
theorem dX6_changeSetting_34 : decode cX6_changeSetting 34 = .ok (.iload_n 1, 1) := by decide +kernel
theorem dX6_changeSetting_35 : decode cX6_changeSetting 35 = .ok (.iaload, 1) := by decide +kernel
theorem dX6_changeSetting_36 : decode cX6_changeSetting 36 = .ok (.istore_n 3, 1) := by decide +kernel
theorem dX6_changeSetting_37 : decode cX6_changeSetting 37 = .ok (.aload_n 0, 1) := by decide +kernel
theorem dX6_changeSetting_38 : decode cX6_changeSetting 38 = .ok (.getfield 9, 3) := by decide +kernel
theorem dX6_changeSetting_41 : decode cX6_changeSetting 41 = .ok (.iload_n 1, 1) := by decide +kernel
theorem dX6_changeSetting_42 : decode cX6_changeSetting 42 = .ok (.iload_n 2, 1) := by decide +kernel
theorem dX6_changeSetting_43 : decode cX6_changeSetting 43 = .ok (.iastore, 1) := by decide +kernel
theorem dX6_changeSetting_44 : decode cX6_changeSetting 44 = .ok (.iload_n 3, 1) := by decide +kernel
theorem dX6_changeSetting_45 : decode cX6_changeSetting 45 = .ok (.bipush 30, 2) := by decide +kernel
theorem dX6_changeSetting_47 : decode cX6_changeSetting 47 = .ok (.iadd, 1) := by decide +kernel
theorem dX6_changeSetting_48 : decode cX6_changeSetting 48 = .ok (.ireturn, 1) := by decide +kernel
theorem dX6_addStar_0 : decode cX6_addStar 0 = .ok (.iload_n 1, 1) := by decide +kernel
theorem dX6_addStar_1 : decode cX6_addStar 1 = .ok (.invokestatic 81, 3) := by decide +kernel
theorem dX6_addStar_4 : decode cX6_addStar 4 = .ok (.ifCond .ne 6, 3) := by decide +kernel
theorem dX6_addStar_7 : decode cX6_addStar 7 = .ok (.bipush (-2), 2) := by decide +kernel
theorem dX6_addStar_9 : decode cX6_addStar 9 = .ok (.ireturn, 1) := by decide +kernel
theorem dX6_addStar_10 : decode cX6_addStar 10 = .ok (.aload_n 0, 1) := by decide +kernel
theorem dX6_addStar_11 : decode cX6_addStar 11 = .ok (.getfield 18, 3) := by decide +kernel
theorem dX6_addStar_14 : decode cX6_addStar 14 = .ok (.getfield 85, 3) := by decide +kernel
theorem dX6_addStar_17 : decode cX6_addStar 17 = .ok (.bipush 8, 2) := by decide +kernel
theorem dX6_addStar_19 : decode cX6_addStar 19 = .ok (.if_icmp .lt 6, 3) := by decide +kernel
theorem dX6_addStar_22 : decode cX6_addStar 22 = .ok (.bipush (-4), 2) := by decide +kernel
theorem dX6_addStar_24 : decode cX6_addStar 24 = .ok (.ireturn, 1) := by decide +kernel
theorem dX6_addStar_25 : decode cX6_addStar 25 = .ok (.aload_n 0, 1) := by decide +kernel
theorem dX6_addStar_26 : decode cX6_addStar 26 = .ok (.getfield 18, 3) := by decide +kernel
theorem dX6_addStar_29 : decode cX6_addStar 29 = .ok (.getfield 88, 3) := by decide +kernel
theorem dX6_addStar_32 : decode cX6_addStar 32 = .ok (.aload_n 0, 1) := by decide +kernel
theorem dX6_addStar_33 : decode cX6_addStar 33 = .ok (.getfield 18, 3) := by decide +kernel
theorem dX6_addStar_36 : decode cX6_addStar 36 = .ok (.getfield 85, 3) := by decide +kernel
theorem dX6_addStar_39 : decode cX6_addStar 39 = .ok (.iload_n 1, 1) := by decide +kernel
theorem dX6_addStar_40 : decode cX6_addStar 40 = .ok (.iastore, 1) := by decide +kernel
theorem dX6_addStar_41 : decode cX6_addStar 41 = .ok (.aload_n 0, 1) := by decide +kernel
theorem dX6_addStar_42 : decode cX6_addStar 42 = .ok (.getfield 18, 3) := by decide +kernel
theorem dX6_addStar_45 : decode cX6_addStar 45 = .ok (.dup, 1) := by decide +kernel
theorem dX6_addStar_46 : decode cX6_addStar 46 = .ok (.getfield 85, 3) := by decide +kernel
theorem dX6_addStar_49 : decode cX6_addStar 49 = .ok (.iconst 1, 1) := by decide +kernel
theorem dX6_addStar_50 : decode cX6_addStar 50 = .ok (.iadd, 1) := by decide +kernel
theorem dX6_addStar_51 : decode cX6_addStar 51 = .ok (.putfield 85, 3) := by decide +kernel
theorem dX6_addStar_54 : decode cX6_addStar 54 = .ok (.aload_n 0, 1) := by decide +kernel
theorem dX6_addStar_55 : decode cX6_addStar 55 = .ok (.getfield 18, 3) := by decide +kernel
theorem dX6_addStar_58 : decode cX6_addStar 58 = .ok (.getfield 85, 3) := by decide +kernel
theorem dX6_addStar_61 : decode cX6_addStar 61 = .ok (.iconst 1, 1) := by decide +kernel
theorem dX6_addStar_62 : decode cX6_addStar 62 = .ok (.isub, 1) := by decide +kernel
theorem dX6_addStar_63 : decode cX6_addStar 63 = .ok (.ireturn, 1) := by decide +kernel
theorem dX6_turnCloud_0 : decode cX6_turnCloud 0 = .ok (.aload_n 0, 1) := by decide +kernel
theorem dX6_turnCloud_1 : decode cX6_turnCloud 1 = .ok (.getfield 18, 3) := by decide +kernel
theorem dX6_turnCloud_4 : decode cX6_turnCloud 4 = .ok (.iload_n 1, 1) := by decide +kernel
theorem dX6_turnCloud_5 : decode cX6_turnCloud 5 = .ok (.invokevirtual 91, 3) := by decide +kernel
theorem dX6_turnCloud_8 : decode cX6_turnCloud 8 = .ok (.ifCond .ne 5, 3) := by decide +kernel
theorem dX6_turnCloud_11 : decode cX6_turnCloud 11 = .ok (.iconst (-1), 1) := by decide +kernel
theorem dX6_turnCloud_12 : decode cX6_turnCloud 12 = .ok (.ireturn, 1) := by decide +kernel
theorem dX6_turnCloud_13 : decode cX6_turnCloud 13 = .ok (.aload_n 0, 1) := by decide +kernel
theorem dX6_turnCloud_14 : decode cX6_turnCloud 14 = .ok (.getfield 18, 3) := by decide +kernel
theorem dX6_turnCloud_17 : decode cX6_turnCloud 17 = .ok (.dup, 1) := by decide +kernel
theorem dX6_turnCloud_18 : decode cX6_turnCloud 18 = .ok (.getfield 94, 3) := by decide +kernel
theorem dX6_turnCloud_21 : decode cX6_turnCloud 21 = .ok (.iconst 1, 1) := by decide +kernel
theorem dX6_turnCloud_22 : decode cX6_turnCloud 22 = .ok (.iload_n 1, 1) := by decide +kernel
theorem dX6_turnCloud_23 : decode cX6_turnCloud 23 = .ok (.ishl, 1) := by decide +kernel
theorem dX6_turnCloud_24 : decode cX6_turnCloud 24 = .ok (.ixor, 1) := by decide +kernel
theorem dX6_turnCloud_25 : decode cX6_turnCloud 25 = .ok (.putfield 94, 3) := by decide +kernel
theorem dX6_turnCloud_28 : decode cX6_turnCloud 28 = .ok (.aload_n 0, 1) := by decide +kernel
theorem dX6_turnCloud_29 : decode cX6_turnCloud 29 = .ok (.getfield 18, 3) := by decide +kernel
theorem dX6_turnCloud_32 : decode cX6_turnCloud 32 = .ok (.iload_n 1, 1) := by decide +kernel
theorem dX6_turnCloud_33 : decode cX6_turnCloud 33 = .ok (.invokevirtual 97, 3) := by decide +kernel
theorem dX6_turnCloud_36 : decode cX6_turnCloud 36 = .ok (.ireturn, 1) := by decide +kernel
theorem dX6_changeNavigator_0 : decode cX6_changeNavigator 0 = .ok (.iload_n 1, 1) := by decide +kernel
theorem dX6_changeNavigator_1 : decode cX6_changeNavigator 1 = .ok (.invokestatic 101, 3) := by decide +kernel
theorem dX6_changeNavigator_4 : decode cX6_changeNavigator 4 = .ok (.ifCond .ne 5, 3) := by decide +kernel
theorem dX6_changeNavigator_7 : decode cX6_changeNavigator 7 = .ok (.iconst (-1), 1) := by decide +kernel
theorem dX6_changeNavigator_8 : decode cX6_changeNavigator 8 = .ok (.ireturn, 1) := by decide +kernel
theorem dX6_changeNavigator_9 : decode cX6_changeNavigator 9 = .ok (.iload_n 2, 1) := by decide +kernel
theorem dX6_changeNavigator_10 : decode cX6_changeNavigator 10 = .ok (.ifCond .lt 26, 3) := by decide +kernel
theorem dX6_changeNavigator_13 : decode cX6_changeNavigator 13 = .ok (.iload_n 2, 1) := by decide +kernel
theorem dX6_changeNavigator_14 : decode cX6_changeNavigator 14 = .ok (.iconst 3, 1) := by decide +kernel
theorem dX6_changeNavigator_15 : decode cX6_changeNavigator 15 = .ok (.if_icmp .ge 21, 3) := by decide +kernel
theorem dX6_changeNavigator_18 : decode cX6_changeNavigator 18 = .ok (.iload_n 3, 1) := by decide +kernel
theorem dX6_changeNavigator_19 : decode cX6_changeNavigator 19 = .ok (.getstatic 104, 3) := by decide +kernel
theorem dX6_changeNavigator_22 : decode cX6_changeNavigator 22 = .ok (.iload_n 2, 1) := by decide +kernel
theorem dX6_changeNavigator_23 : decode cX6_changeNavigator 23 = .ok (.iaload, 1) := by decide +kernel
theorem dX6_changeNavigator_24 : decode cX6_changeNavigator 24 = .ok (.if_icmp .lt 12, 3) := by decide +kernel
theorem dX6_changeNavigator_27 : decode cX6_changeNavigator 27 = .ok (.iload_n 3, 1) := by decide +kernel
theorem dX6_changeNavigator_28 : decode cX6_changeNavigator 28 = .ok (.getstatic 107, 3) := by decide +kernel
theorem dX6_changeNavigator_31 : decode cX6_changeNavigator 31 = .ok (.iload_n 2, 1) := by decide +kernel
theorem dX6_changeNavigator_32 : decode cX6_changeNavigator 32 = .ok (.iaload, 1) := by decide +kernel
theorem dX6_changeNavigator_33 : decode cX6_changeNavigator 33 = .ok (.if_icmp .le 6, 3) := by decide +kernel
theorem dX6_changeNavigator_36 : decode cX6_changeNavigator 36 = .ok (.bipush (-2), 2) := by decide +kernel
theorem dX6_changeNavigator_38 : decode cX6_changeNavigator 38 = .ok (.ireturn, 1) := by decide +kernel
theorem dX6_changeNavigator_39 : decode cX6_changeNavigator 39 = .ok (.iload_n 2, 1) := by decide +kernel
theorem dX6_changeNavigator_40 : decode cX6_changeNavigator 40 = .ok (.ifCond .ne 13, 3) := by decide +kernel
theorem dX6_changeNavigator_43 : decode cX6_changeNavigator 43 = .ok (.aload_n 0, 1) := by decide +kernel
theorem dX6_changeNavigator_44 : decode cX6_changeNavigator 44 = .ok (.getfield 25, 3) := by decide +kernel
theorem dX6_changeNavigator_47 : decode cX6_changeNavigator 47 = .ok (.getfield 110, 3) := by decide +kernel
theorem dX6_changeNavigator_50 : decode cX6_changeNavigator 50 = .ok (.goto 25, 3) := by decide +kernel
theorem dX6_changeNavigator_53 : decode cX6_changeNavigator 53 = .ok (.iload_n 2, 1) := by decide +kernel
theorem dX6_changeNavigator_54 : decode cX6_changeNavigator 54 = .ok (.iconst 1, 1) := by decide +kernel
theorem dX6_changeNavigator_55 : decode cX6_changeNavigator 55 = .ok (.if_icmp .ne 13, 3) := by decide +kernel
theorem dX6_changeNavigator_58 : decode cX6_changeNavigator 58 = .ok (.aload_n 0, 1) := by decide +kernel
theorem dX6_changeNavigator_59 : decode cX6_changeNavigator 59 = .ok (.getfield 25, 3) := by decide +kernel
theorem dX6_changeNavigator_62 : decode cX6_changeNavigator 62 = .ok (.getfield 113, 3) := by decide +kernel
theorem dX6_changeNavigator_65 : decode cX6_changeNavigator 65 = .ok (.goto 10, 3) := by decide +kernel
theorem dX6_changeNavigator_68 : decode cX6_changeNavigator 68 = .ok (.aload_n 0, 1) := by decide +kernel
theorem dX6_changeNavigator_69 : decode cX6_changeNavigator 69 = .ok (.getfield 25, 3) := by decide +kernel
theorem dX6_changeNavigator_72 : decode cX6_changeNavigator 72 = .ok (.getfield 116, 3) := by decide +kernel
theorem dX6_changeNavigator_75 : decode cX6_changeNavigator 75 = .ok (.astore 4, 2) := by decide +kernel
theorem dX6_changeNavigator_77 : decode cX6_changeNavigator 77 = .ok (.aload 4, 2) := by decide +kernel
theorem dX6_changeNavigator_79 : decode cX6_changeNavigator 79 = .ok (.iload_n 1, 1) := by decide +kernel
theorem dX6_changeNavigator_80 : decode cX6_changeNavigator 80 = .ok (.iaload, 1) := by decide +kernel
theorem dX6_changeNavigator_81 : decode cX6_changeNavigator 81 = .ok (.istore 5, 2) := by decide +kernel
theorem dX6_changeNavigator_83 : decode cX6_changeNavigator 83 = .ok (.aload 4, 2) := by decide +kernel
theorem dX6_changeNavigator_85 : decode cX6_changeNavigator 85 = .ok (.iload_n 1, 1) := by decide +kernel
theorem dX6_changeNavigator_86 : decode cX6_changeNavigator 86 = .ok (.iload_n 3, 1) := by decide +kernel
theorem dX6_changeNavigator_87 : decode cX6_changeNavigator 87 = .ok (.iastore, 1) := by decide +kernel
theorem dX6_changeNavigator_88 : decode cX6_changeNavigator 88 = .ok (.iload 5, 2) := by decide +kernel
theorem dX6_changeNavigator_90 : decode cX6_changeNavigator 90 = .ok (.bipush 60, 2) := by decide +kernel
theorem dX6_changeNavigator_92 : decode cX6_changeNavigator 92 = .ok (.iadd, 1) := by decide +kernel
theorem dX6_changeNavigator_93 : decode cX6_changeNavigator 93 = .ok (.ireturn, 1) := by decide +kernel
theorem dX6_turnSleep_0 : decode cX6_turnSleep 0 = .ok (.iload_n 1, 1) := by decide +kernel
theorem dX6_turnSleep_1 : decode cX6_turnSleep 1 = .ok (.invokestatic 101, 3) := by decide +kernel
theorem dX6_turnSleep_4 : decode cX6_turnSleep 4 = .ok (.ifCond .ne 5, 3) := by decide +kernel
theorem dX6_turnSleep_7 : decode cX6_turnSleep 7 = .ok (.iconst (-1), 1) := by decide +kernel
theorem dX6_turnSleep_8 : decode cX6_turnSleep 8 = .ok (.ireturn, 1) := by decide +kernel
theorem dX6_turnSleep_9 : decode cX6_turnSleep 9 = .ok (.aload_n 0, 1) := by decide +kernel
theorem dX6_turnSleep_10 : decode cX6_turnSleep 10 = .ok (.getfield 25, 3) := by decide +kernel
theorem dX6_turnSleep_13 : decode cX6_turnSleep 13 = .ok (.getfield 119, 3) := by decide +kernel
theorem dX6_turnSleep_16 : decode cX6_turnSleep 16 = .ok (.iload_n 1, 1) := by decide +kernel
theorem dX6_turnSleep_17 : decode cX6_turnSleep 17 = .ok (.iaload, 1) := by decide +kernel
theorem dX6_turnSleep_18 : decode cX6_turnSleep 18 = .ok (.iconst 2, 1) := by decide +kernel
theorem dX6_turnSleep_19 : decode cX6_turnSleep 19 = .ok (.if_icmp .ne 6, 3) := by decide +kernel
theorem dX6_turnSleep_22 : decode cX6_turnSleep 22 = .ok (.bipush (-5), 2) := by decide +kernel
theorem dX6_turnSleep_24 : decode cX6_turnSleep 24 = .ok (.ireturn, 1) := by decide +kernel
theorem dX6_turnSleep_25 : decode cX6_turnSleep 25 = .ok (.aload_n 0, 1) := by decide +kernel
theorem dX6_turnSleep_26 : decode cX6_turnSleep 26 = .ok (.getfield 25, 3) := by decide +kernel
theorem dX6_turnSleep_29 : decode cX6_turnSleep 29 = .ok (.getfield 119, 3) := by decide +kernel
theorem dX6_turnSleep_32 : decode cX6_turnSleep 32 = .ok (.iload_n 1, 1) := by decide +kernel
theorem dX6_turnSleep_33 : decode cX6_turnSleep 33 = .ok (.aload_n 0, 1) := by decide +kernel
theorem dX6_turnSleep_34 : decode cX6_turnSleep 34 = .ok (.getfield 25, 3) := by decide +kernel
theorem dX6_turnSleep_37 : decode cX6_turnSleep 37 = .ok (.getfield 119, 3) := by decide +kernel
theorem dX6_turnSleep_40 : decode cX6_turnSleep 40 = .ok (.iload_n 1, 1) := by decide +kernel
theorem dX6_turnSleep_41 : decode cX6_turnSleep 41 = .ok (.iaload, 1) := by decide +kernel
theorem dX6_turnSleep_42 : decode cX6_turnSleep 42 = .ok (.iconst 1, 1) := by decide +kernel
theorem dX6_turnSleep_43 : decode cX6_turnSleep 43 = .ok (.if_icmp .ne 7, 3) := by decide +kernel
theorem dX6_turnSleep_46 : decode cX6_turnSleep 46 = .ok (.iconst 0, 1) := by decide +kernel
theorem dX6_turnSleep_47 : decode cX6_turnSleep 47 = .ok (.goto 4, 3) := by decide +kernel
theorem dX6_turnSleep_50 : decode cX6_turnSleep 50 = .ok (.iconst 1, 1) := by decide +kernel
theorem dX6_turnSleep_51 : decode cX6_turnSleep 51 = .ok (.iastore, 1) := by decide +kernel
theorem dX6_turnSleep_52 : decode cX6_turnSleep 52 = .ok (.aload_n 0, 1) := by decide +kernel
theorem dX6_turnSleep_53 : decode cX6_turnSleep 53 = .ok (.getfield 25, 3) := by decide +kernel
theorem dX6_turnSleep_56 : decode cX6_turnSleep 56 = .ok (.getfield 119, 3) := by decide +kernel
theorem dX6_turnSleep_59 : decode cX6_turnSleep 59 = .ok (.iload_n 1, 1) := by decide +kernel
theorem dX6_turnSleep_60 : decode cX6_turnSleep 60 = .ok (.iaload, 1) := by decide +kernel
theorem dX6_turnSleep_61 : decode cX6_turnSleep 61 = .ok (.iconst 1, 1) := by decide +kernel
theorem dX6_turnSleep_62 : decode cX6_turnSleep 62 = .ok (.if_icmp .ne 7, 3) := by decide +kernel
theorem dX6_turnSleep_65 : decode cX6_turnSleep 65 = .ok (.iconst 1, 1) := by decide +kernel
theorem dX6_turnSleep_66 : decode cX6_turnSleep 66 = .ok (.goto 4, 3) := by decide +kernel
theorem dX6_turnSleep_69 : decode cX6_turnSleep 69 = .ok (.iconst 0, 1) := by decide +kernel
theorem dX6_turnSleep_70 : decode cX6_turnSleep 70 = .ok (.ireturn, 1) := by decide +kernel
theorem dX6_changeGoal_0 : decode cX6_changeGoal 0 = .ok (.iload_n 1, 1) := by decide +kernel
theorem dX6_changeGoal_1 : decode cX6_changeGoal 1 = .ok (.invokestatic 81, 3) := by decide +kernel
theorem dX6_changeGoal_4 : decode cX6_changeGoal 4 = .ok (.ifCond .ne 6, 3) := by decide +kernel
theorem dX6_changeGoal_7 : decode cX6_changeGoal 7 = .ok (.bipush (-2), 2) := by decide +kernel
theorem dX6_changeGoal_9 : decode cX6_changeGoal 9 = .ok (.ireturn, 1) := by decide +kernel
theorem dX6_changeGoal_10 : decode cX6_changeGoal 10 = .ok (.aload_n 0, 1) := by decide +kernel
theorem dX6_changeGoal_11 : decode cX6_changeGoal 11 = .ok (.getfield 32, 3) := by decide +kernel
theorem dX6_changeGoal_14 : decode cX6_changeGoal 14 = .ok (.getfield 122, 3) := by decide +kernel
theorem dX6_changeGoal_17 : decode cX6_changeGoal 17 = .ok (.istore_n 2, 1) := by decide +kernel
theorem dX6_changeGoal_18 : decode cX6_changeGoal 18 = .ok (.aload_n 0, 1) := by decide +kernel
theorem dX6_changeGoal_19 : decode cX6_changeGoal 19 = .ok (.getfield 32, 3) := by decide +kernel
theorem dX6_changeGoal_22 : decode cX6_changeGoal 22 = .ok (.iload_n 1, 1) := by decide +kernel
theorem dX6_changeGoal_23 : decode cX6_changeGoal 23 = .ok (.putfield 122, 3) := by decide +kernel
theorem dX6_changeGoal_26 : decode cX6_changeGoal 26 = .ok (.iload_n 2, 1) := by decide +kernel
theorem dX6_changeGoal_27 : decode cX6_changeGoal 27 = .ok (.sipush 5400, 3) := by decide +kernel
theorem dX6_changeGoal_30 : decode cX6_changeGoal 30 = .ok (.iadd, 1) := by decide +kernel
theorem dX6_changeGoal_31 : decode cX6_changeGoal 31 = .ok (.ireturn, 1) := by decide +kernel
theorem dX6_takeSight_0 : decode cX6_takeSight 0 = .ok (.aload_n 0, 1) := by decide +kernel
theorem dX6_takeSight_1 : decode cX6_takeSight 1 = .ok (.iload_n 1, 1) := by decide +kernel
theorem dX6_takeSight_2 : decode cX6_takeSight 2 = .ok (.iload_n 2, 1) := by decide +kernel
theorem dX6_takeSight_3 : decode cX6_takeSight 3 = .ok (.invokevirtual 125, 3) := by decide +kernel
theorem dX6_takeSight_6 : decode cX6_takeSight 6 = .ok (.istore_n 3, 1) := by decide +kernel
theorem dX6_takeSight_7 : decode cX6_takeSight 7 = .ok (.iload_n 3, 1) := by decide +kernel
theorem dX6_takeSight_8 : decode cX6_takeSight 8 = .ok (.ifCond .lt 30, 3) := by decide +kernel
theorem dX6_takeSight_11 : decode cX6_takeSight 11 = .ok (.aload_n 0, 1) := by decide +kernel
theorem dX6_takeSight_12 : decode cX6_takeSight 12 = .ok (.getfield 25, 3) := by decide +kernel
theorem dX6_takeSight_15 : decode cX6_takeSight 15 = .ok (.getfield 129, 3) := by decide +kernel
theorem dX6_takeSight_18 : decode cX6_takeSight 18 = .ok (.iload_n 1, 1) := by decide +kernel
theorem dX6_takeSight_19 : decode cX6_takeSight 19 = .ok (.iload_n 3, 1) := by decide +kernel
theorem dX6_takeSight_20 : decode cX6_takeSight 20 = .ok (.sipush 5400, 3) := by decide +kernel
theorem dX6_takeSight_23 : decode cX6_takeSight 23 = .ok (.isub, 1) := by decide +kernel
end
section
theorem dX6_takeSight_24 : decode cX6_takeSight 24 = .ok (.iastore, 1) := by decide +kernel
theorem dX6_takeSight_25 : decode cX6_takeSight 25 = .ok (.aload_n 0, 1) := by decide +kernel
theorem dX6_takeSight_26 : decode cX6_takeSight 26 = .ok (.getfield 25, 3) := by decide +kernel
theorem dX6_takeSight_29 : decode cX6_takeSight 29 = .ok (.getfield 132, 3) := by decide +kernel
theorem dX6_takeSight_32 : decode cX6_takeSight 32 = .ok (.iload_n 1, 1) := by decide +kernel
theorem dX6_takeSight_33 : decode cX6_takeSight 33 = .ok (.dup2, 1) := by decide +kernel
theorem dX6_takeSight_34 : decode cX6_takeSight 34 = .ok (.iaload, 1) := by decide +kernel
theorem dX6_takeSight_35 : decode cX6_takeSight 35 = .ok (.iconst 1, 1) := by decide +kernel
theorem dX6_takeSight_36 : decode cX6_takeSight 36 = .ok (.iadd, 1) := by decide +kernel
theorem dX6_takeSight_37 : decode cX6_takeSight 37 = .ok (.iastore, 1) := by decide +kernel
theorem dX6_takeSight_38 : decode cX6_takeSight 38 = .ok (.iload_n 3, 1) := by decide +kernel
theorem dX6_takeSight_39 : decode cX6_takeSight 39 = .ok (.ireturn, 1) := by decide +kernel
theorem dX6_tellSight_0 : decode cX6_tellSight 0 = .ok (.aload_n 0, 1) := by decide +kernel
theorem dX6_tellSight_1 : decode cX6_tellSight 1 = .ok (.iload_n 1, 1) := by decide +kernel
theorem dX6_tellSight_2 : decode cX6_tellSight 2 = .ok (.iload_n 2, 1) := by decide +kernel
theorem dX6_tellSight_3 : decode cX6_tellSight 3 = .ok (.invokevirtual 135, 3) := by decide +kernel
theorem dX6_tellSight_6 : decode cX6_tellSight 6 = .ok (.istore_n 3, 1) := by decide +kernel
theorem dX6_tellSight_7 : decode cX6_tellSight 7 = .ok (.iload_n 3, 1) := by decide +kernel
theorem dX6_tellSight_8 : decode cX6_tellSight 8 = .ok (.ifCond .ge 5, 3) := by decide +kernel
theorem dX6_tellSight_11 : decode cX6_tellSight 11 = .ok (.iload_n 3, 1) := by decide +kernel
theorem dX6_tellSight_12 : decode cX6_tellSight 12 = .ok (.ireturn, 1) := by decide +kernel
theorem dX6_tellSight_13 : decode cX6_tellSight 13 = .ok (.iload_n 3, 1) := by decide +kernel
theorem dX6_tellSight_14 : decode cX6_tellSight 14 = .ok (.ifCond .le 8, 3) := by decide +kernel
theorem dX6_tellSight_17 : decode cX6_tellSight 17 = .ok (.bipush (-5), 2) := by decide +kernel
theorem dX6_tellSight_19 : decode cX6_tellSight 19 = .ok (.goto 13, 3) := by decide +kernel
theorem dX6_tellSight_22 : decode cX6_tellSight 22 = .ok (.aload_n 0, 1) := by decide +kernel
theorem dX6_tellSight_23 : decode cX6_tellSight 23 = .ok (.iload_n 1, 1) := by decide +kernel
theorem dX6_tellSight_24 : decode cX6_tellSight 24 = .ok (.iload_n 2, 1) := by decide +kernel
theorem dX6_tellSight_25 : decode cX6_tellSight 25 = .ok (.invokevirtual 138, 3) := by decide +kernel
theorem dX6_tellSight_28 : decode cX6_tellSight 28 = .ok (.sipush 5400, 3) := by decide +kernel
theorem dX6_tellSight_31 : decode cX6_tellSight 31 = .ok (.iadd, 1) := by decide +kernel
theorem dX6_tellSight_32 : decode cX6_tellSight 32 = .ok (.ireturn, 1) := by decide +kernel
theorem dX6_reasonAgainst_0 : decode cX6_reasonAgainst 0 = .ok (.iload_n 1, 1) := by decide +kernel
theorem dX6_reasonAgainst_1 : decode cX6_reasonAgainst 1 = .ok (.invokestatic 101, 3) := by decide +kernel
theorem dX6_reasonAgainst_4 : decode cX6_reasonAgainst 4 = .ok (.ifCond .eq 14, 3) := by decide +kernel
theorem dX6_reasonAgainst_7 : decode cX6_reasonAgainst 7 = .ok (.aload_n 0, 1) := by decide +kernel
theorem dX6_reasonAgainst_8 : decode cX6_reasonAgainst 8 = .ok (.getfield 18, 3) := by decide +kernel
theorem dX6_reasonAgainst_11 : decode cX6_reasonAgainst 11 = .ok (.iload_n 2, 1) := by decide +kernel
theorem dX6_reasonAgainst_12 : decode cX6_reasonAgainst 12 = .ok (.invokevirtual 91, 3) := by decide +kernel
theorem dX6_reasonAgainst_15 : decode cX6_reasonAgainst 15 = .ok (.ifCond .ne 5, 3) := by decide +kernel
theorem dX6_reasonAgainst_18 : decode cX6_reasonAgainst 18 = .ok (.iconst (-1), 1) := by decide +kernel
theorem dX6_reasonAgainst_19 : decode cX6_reasonAgainst 19 = .ok (.ireturn, 1) := by decide +kernel
theorem dX6_reasonAgainst_20 : decode cX6_reasonAgainst 20 = .ok (.aload_n 0, 1) := by decide +kernel
theorem dX6_reasonAgainst_21 : decode cX6_reasonAgainst 21 = .ok (.getfield 25, 3) := by decide +kernel
theorem dX6_reasonAgainst_24 : decode cX6_reasonAgainst 24 = .ok (.getfield 119, 3) := by decide +kernel
theorem dX6_reasonAgainst_27 : decode cX6_reasonAgainst 27 = .ok (.iload_n 1, 1) := by decide +kernel
theorem dX6_reasonAgainst_28 : decode cX6_reasonAgainst 28 = .ok (.iaload, 1) := by decide +kernel
theorem dX6_reasonAgainst_29 : decode cX6_reasonAgainst 29 = .ok (.iconst 1, 1) := by decide +kernel
theorem dX6_reasonAgainst_30 : decode cX6_reasonAgainst 30 = .ok (.if_icmp .ne 5, 3) := by decide +kernel
theorem dX6_reasonAgainst_33 : decode cX6_reasonAgainst 33 = .ok (.iconst 1, 1) := by decide +kernel
theorem dX6_reasonAgainst_34 : decode cX6_reasonAgainst 34 = .ok (.ireturn, 1) := by decide +kernel
theorem dX6_reasonAgainst_35 : decode cX6_reasonAgainst 35 = .ok (.aload_n 0, 1) := by decide +kernel
theorem dX6_reasonAgainst_36 : decode cX6_reasonAgainst 36 = .ok (.getfield 25, 3) := by decide +kernel
theorem dX6_reasonAgainst_39 : decode cX6_reasonAgainst 39 = .ok (.getfield 119, 3) := by decide +kernel
theorem dX6_reasonAgainst_42 : decode cX6_reasonAgainst 42 = .ok (.iload_n 1, 1) := by decide +kernel
theorem dX6_reasonAgainst_43 : decode cX6_reasonAgainst 43 = .ok (.iaload, 1) := by decide +kernel
theorem dX6_reasonAgainst_44 : decode cX6_reasonAgainst 44 = .ok (.iconst 2, 1) := by decide +kernel
theorem dX6_reasonAgainst_45 : decode cX6_reasonAgainst 45 = .ok (.if_icmp .ne 5, 3) := by decide +kernel
theorem dX6_reasonAgainst_48 : decode cX6_reasonAgainst 48 = .ok (.iconst 2, 1) := by decide +kernel
theorem dX6_reasonAgainst_49 : decode cX6_reasonAgainst 49 = .ok (.ireturn, 1) := by decide +kernel
theorem dX6_reasonAgainst_50 : decode cX6_reasonAgainst 50 = .ok (.aload_n 0, 1) := by decide +kernel
theorem dX6_reasonAgainst_51 : decode cX6_reasonAgainst 51 = .ok (.getfield 18, 3) := by decide +kernel
theorem dX6_reasonAgainst_54 : decode cX6_reasonAgainst 54 = .ok (.iload_n 2, 1) := by decide +kernel
theorem dX6_reasonAgainst_55 : decode cX6_reasonAgainst 55 = .ok (.invokevirtual 97, 3) := by decide +kernel
theorem dX6_reasonAgainst_58 : decode cX6_reasonAgainst 58 = .ok (.iconst 1, 1) := by decide +kernel
theorem dX6_reasonAgainst_59 : decode cX6_reasonAgainst 59 = .ok (.if_icmp .ne 5, 3) := by decide +kernel
theorem dX6_reasonAgainst_62 : decode cX6_reasonAgainst 62 = .ok (.iconst 3, 1) := by decide +kernel
theorem dX6_reasonAgainst_63 : decode cX6_reasonAgainst 63 = .ok (.ireturn, 1) := by decide +kernel
theorem dX6_reasonAgainst_64 : decode cX6_reasonAgainst 64 = .ok (.aload_n 0, 1) := by decide +kernel
theorem dX6_reasonAgainst_65 : decode cX6_reasonAgainst 65 = .ok (.iload_n 2, 1) := by decide +kernel
theorem dX6_reasonAgainst_66 : decode cX6_reasonAgainst 66 = .ok (.invokevirtual 141, 3) := by decide +kernel
theorem dX6_reasonAgainst_69 : decode cX6_reasonAgainst 69 = .ok (.aload_n 0, 1) := by decide +kernel
theorem dX6_reasonAgainst_70 : decode cX6_reasonAgainst 70 = .ok (.getfield 9, 3) := by decide +kernel
theorem dX6_reasonAgainst_73 : decode cX6_reasonAgainst 73 = .ok (.iconst 3, 1) := by decide +kernel
theorem dX6_reasonAgainst_74 : decode cX6_reasonAgainst 74 = .ok (.iaload, 1) := by decide +kernel
theorem dX6_reasonAgainst_75 : decode cX6_reasonAgainst 75 = .ok (.if_icmp .ge 7, 3) := by decide +kernel
theorem dX6_reasonAgainst_78 : decode cX6_reasonAgainst 78 = .ok (.iconst 4, 1) := by decide +kernel
theorem dX6_reasonAgainst_79 : decode cX6_reasonAgainst 79 = .ok (.goto 4, 3) := by decide +kernel
theorem dX6_reasonAgainst_82 : decode cX6_reasonAgainst 82 = .ok (.iconst 0, 1) := by decide +kernel
theorem dX6_reasonAgainst_83 : decode cX6_reasonAgainst 83 = .ok (.ireturn, 1) := by decide +kernel
theorem dX6_reckon_0 : decode cX6_reckon 0 = .ok (.aload_n 0, 1) := by decide +kernel
theorem dX6_reckon_1 : decode cX6_reckon 1 = .ok (.iload_n 2, 1) := by decide +kernel
theorem dX6_reckon_2 : decode cX6_reckon 2 = .ok (.invokevirtual 141, 3) := by decide +kernel
theorem dX6_reckon_5 : decode cX6_reckon 5 = .ok (.aload_n 0, 1) := by decide +kernel
theorem dX6_reckon_6 : decode cX6_reckon 6 = .ok (.getfield 25, 3) := by decide +kernel
theorem dX6_reckon_9 : decode cX6_reckon 9 = .ok (.iload_n 1, 1) := by decide +kernel
theorem dX6_reckon_10 : decode cX6_reckon 10 = .ok (.invokevirtual 144, 3) := by decide +kernel
theorem dX6_reckon_13 : decode cX6_reckon 13 = .ok (.iadd, 1) := by decide +kernel
theorem dX6_reckon_14 : decode cX6_reckon 14 = .ok (.istore_n 3, 1) := by decide +kernel
theorem dX6_reckon_15 : decode cX6_reckon 15 = .ok (.sipush 5400, 3) := by decide +kernel
theorem dX6_reckon_18 : decode cX6_reckon 18 = .ok (.iload_n 3, 1) := by decide +kernel
theorem dX6_reckon_19 : decode cX6_reckon 19 = .ok (.isub, 1) := by decide +kernel
theorem dX6_reckon_20 : decode cX6_reckon 20 = .ok (.invokestatic 147, 3) := by decide +kernel
theorem dX6_reckon_23 : decode cX6_reckon 23 = .ok (.istore 4, 2) := by decide +kernel
theorem dX6_reckon_25 : decode cX6_reckon 25 = .ok (.aload_n 0, 1) := by decide +kernel
theorem dX6_reckon_26 : decode cX6_reckon 26 = .ok (.getfield 18, 3) := by decide +kernel
theorem dX6_reckon_29 : decode cX6_reckon 29 = .ok (.getfield 88, 3) := by decide +kernel
theorem dX6_reckon_32 : decode cX6_reckon 32 = .ok (.iload_n 2, 1) := by decide +kernel
theorem dX6_reckon_33 : decode cX6_reckon 33 = .ok (.iaload, 1) := by decide +kernel
theorem dX6_reckon_34 : decode cX6_reckon 34 = .ok (.istore 5, 2) := by decide +kernel
theorem dX6_reckon_36 : decode cX6_reckon 36 = .ok (.aload_n 0, 1) := by decide +kernel
theorem dX6_reckon_37 : decode cX6_reckon 37 = .ok (.getfield 25, 3) := by decide +kernel
theorem dX6_reckon_40 : decode cX6_reckon 40 = .ok (.getfield 116, 3) := by decide +kernel
theorem dX6_reckon_43 : decode cX6_reckon 43 = .ok (.iload_n 1, 1) := by decide +kernel
theorem dX6_reckon_44 : decode cX6_reckon 44 = .ok (.iaload, 1) := by decide +kernel
theorem dX6_reckon_45 : decode cX6_reckon 45 = .ok (.iconst 1, 1) := by decide +kernel
theorem dX6_reckon_46 : decode cX6_reckon 46 = .ok (.if_icmp .ne 11, 3) := by decide +kernel
theorem dX6_reckon_49 : decode cX6_reckon 49 = .ok (.iload 5, 2) := by decide +kernel
theorem dX6_reckon_51 : decode cX6_reckon 51 = .ok (.iload 4, 2) := by decide +kernel
theorem dX6_reckon_53 : decode cX6_reckon 53 = .ok (.iadd, 1) := by decide +kernel
theorem dX6_reckon_54 : decode cX6_reckon 54 = .ok (.goto 8, 3) := by decide +kernel
theorem dX6_reckon_57 : decode cX6_reckon 57 = .ok (.iload 5, 2) := by decide +kernel
theorem dX6_reckon_59 : decode cX6_reckon 59 = .ok (.iload 4, 2) := by decide +kernel
theorem dX6_reckon_61 : decode cX6_reckon 61 = .ok (.isub, 1) := by decide +kernel
theorem dX6_reckon_62 : decode cX6_reckon 62 = .ok (.invokestatic 152, 3) := by decide +kernel
theorem dX6_reckon_65 : decode cX6_reckon 65 = .ok (.ireturn, 1) := by decide +kernel
theorem dX6_heightOf_0 : decode cX6_heightOf 0 = .ok (.sipush 5400, 3) := by decide +kernel
theorem dX6_heightOf_3 : decode cX6_heightOf 3 = .ok (.aload_n 0, 1) := by decide +kernel
theorem dX6_heightOf_4 : decode cX6_heightOf 4 = .ok (.getfield 18, 3) := by decide +kernel
theorem dX6_heightOf_7 : decode cX6_heightOf 7 = .ok (.getfield 88, 3) := by decide +kernel
theorem dX6_heightOf_10 : decode cX6_heightOf 10 = .ok (.iload_n 1, 1) := by decide +kernel
theorem dX6_heightOf_11 : decode cX6_heightOf 11 = .ok (.iaload, 1) := by decide +kernel
theorem dX6_heightOf_12 : decode cX6_heightOf 12 = .ok (.aload_n 0, 1) := by decide +kernel
theorem dX6_heightOf_13 : decode cX6_heightOf 13 = .ok (.getfield 32, 3) := by decide +kernel
theorem dX6_heightOf_16 : decode cX6_heightOf 16 = .ok (.getfield 155, 3) := by decide +kernel
theorem dX6_heightOf_19 : decode cX6_heightOf 19 = .ok (.isub, 1) := by decide +kernel
theorem dX6_heightOf_20 : decode cX6_heightOf 20 = .ok (.invokestatic 147, 3) := by decide +kernel
theorem dX6_heightOf_23 : decode cX6_heightOf 23 = .ok (.isub, 1) := by decide +kernel
theorem dX6_heightOf_24 : decode cX6_heightOf 24 = .ok (.ireturn, 1) := by decide +kernel
theorem dX6_agreeOnMedian_0 : decode cX6_agreeOnMedian 0 = .ok (.aload_n 0, 1) := by decide +kernel
theorem dX6_agreeOnMedian_1 : decode cX6_agreeOnMedian 1 = .ok (.getfield 25, 3) := by decide +kernel
theorem dX6_agreeOnMedian_4 : decode cX6_agreeOnMedian 4 = .ok (.bipush (-6), 2) := by decide +kernel
theorem dX6_agreeOnMedian_6 : decode cX6_agreeOnMedian 6 = .ok (.invokevirtual 158, 3) := by decide +kernel
theorem dX6_agreeOnMedian_9 : decode cX6_agreeOnMedian 9 = .ok (.istore_n 1, 1) := by decide +kernel
theorem dX6_agreeOnMedian_10 : decode cX6_agreeOnMedian 10 = .ok (.iload_n 1, 1) := by decide +kernel
theorem dX6_agreeOnMedian_11 : decode cX6_agreeOnMedian 11 = .ok (.sipush 9999, 3) := by decide +kernel
theorem dX6_agreeOnMedian_14 : decode cX6_agreeOnMedian 14 = .ok (.if_icmp .ne 6, 3) := by decide +kernel
theorem dX6_agreeOnMedian_17 : decode cX6_agreeOnMedian 17 = .ok (.bipush (-5), 2) := by decide +kernel
theorem dX6_agreeOnMedian_19 : decode cX6_agreeOnMedian 19 = .ok (.ireturn, 1) := by decide +kernel
theorem dX6_agreeOnMedian_20 : decode cX6_agreeOnMedian 20 = .ok (.aload_n 0, 1) := by decide +kernel
theorem dX6_agreeOnMedian_21 : decode cX6_agreeOnMedian 21 = .ok (.getfield 32, 3) := by decide +kernel
theorem dX6_agreeOnMedian_24 : decode cX6_agreeOnMedian 24 = .ok (.iload_n 1, 1) := by decide +kernel
theorem dX6_agreeOnMedian_25 : decode cX6_agreeOnMedian 25 = .ok (.putfield 161, 3) := by decide +kernel
theorem dX6_agreeOnMedian_28 : decode cX6_agreeOnMedian 28 = .ok (.aload_n 0, 1) := by decide +kernel
theorem dX6_agreeOnMedian_29 : decode cX6_agreeOnMedian 29 = .ok (.dup, 1) := by decide +kernel
theorem dX6_agreeOnMedian_30 : decode cX6_agreeOnMedian 30 = .ok (.getfield 50, 3) := by decide +kernel
theorem dX6_agreeOnMedian_33 : decode cX6_agreeOnMedian 33 = .ok (.aload_n 0, 1) := by decide +kernel
theorem dX6_agreeOnMedian_34 : decode cX6_agreeOnMedian 34 = .ok (.getfield 25, 3) := by decide +kernel
theorem dX6_agreeOnMedian_37 : decode cX6_agreeOnMedian 37 = .ok (.iload_n 1, 1) := by decide +kernel
theorem dX6_agreeOnMedian_38 : decode cX6_agreeOnMedian 38 = .ok (.aload_n 0, 1) := by decide +kernel
theorem dX6_agreeOnMedian_39 : decode cX6_agreeOnMedian 39 = .ok (.getfield 9, 3) := by decide +kernel
theorem dX6_agreeOnMedian_42 : decode cX6_agreeOnMedian 42 = .ok (.iconst 2, 1) := by decide +kernel
theorem dX6_agreeOnMedian_43 : decode cX6_agreeOnMedian 43 = .ok (.iaload, 1) := by decide +kernel
theorem dX6_agreeOnMedian_44 : decode cX6_agreeOnMedian 44 = .ok (.invokevirtual 164, 3) := by decide +kernel
theorem dX6_agreeOnMedian_47 : decode cX6_agreeOnMedian 47 = .ok (.iadd, 1) := by decide +kernel
theorem dX6_agreeOnMedian_48 : decode cX6_agreeOnMedian 48 = .ok (.putfield 50, 3) := by decide +kernel
theorem dX6_agreeOnMedian_51 : decode cX6_agreeOnMedian 51 = .ok (.aload_n 0, 1) := by decide +kernel
theorem dX6_agreeOnMedian_52 : decode cX6_agreeOnMedian 52 = .ok (.dup, 1) := by decide +kernel
theorem dX6_agreeOnMedian_53 : decode cX6_agreeOnMedian 53 = .ok (.getfield 47, 3) := by decide +kernel
theorem dX6_agreeOnMedian_56 : decode cX6_agreeOnMedian 56 = .ok (.iconst 1, 1) := by decide +kernel
theorem dX6_agreeOnMedian_57 : decode cX6_agreeOnMedian 57 = .ok (.iadd, 1) := by decide +kernel
theorem dX6_agreeOnMedian_58 : decode cX6_agreeOnMedian 58 = .ok (.putfield 47, 3) := by decide +kernel
theorem dX6_agreeOnMedian_61 : decode cX6_agreeOnMedian 61 = .ok (.iload_n 1, 1) := by decide +kernel
theorem dX6_agreeOnMedian_62 : decode cX6_agreeOnMedian 62 = .ok (.sipush 5400, 3) := by decide +kernel
theorem dX6_agreeOnMedian_65 : decode cX6_agreeOnMedian 65 = .ok (.iadd, 1) := by decide +kernel
theorem dX6_agreeOnMedian_66 : decode cX6_agreeOnMedian 66 = .ok (.ireturn, 1) := by decide +kernel
theorem dX6_sailHours_0 : decode cX6_sailHours 0 = .ok (.iload_n 1, 1) := by decide +kernel
theorem dX6_sailHours_1 : decode cX6_sailHours 1 = .ok (.iconst 1, 1) := by decide +kernel
theorem dX6_sailHours_2 : decode cX6_sailHours 2 = .ok (.if_icmp .lt 9, 3) := by decide +kernel
theorem dX6_sailHours_5 : decode cX6_sailHours 5 = .ok (.iload_n 1, 1) := by decide +kernel
theorem dX6_sailHours_6 : decode cX6_sailHours 6 = .ok (.bipush 99, 2) := by decide +kernel
theorem dX6_sailHours_8 : decode cX6_sailHours 8 = .ok (.if_icmp .le 6, 3) := by decide +kernel
theorem dX6_sailHours_11 : decode cX6_sailHours 11 = .ok (.bipush (-2), 2) := by decide +kernel
theorem dX6_sailHours_13 : decode cX6_sailHours 13 = .ok (.ireturn, 1) := by decide +kernel
theorem dX6_sailHours_14 : decode cX6_sailHours 14 = .ok (.aload_n 0, 1) := by decide +kernel
theorem dX6_sailHours_15 : decode cX6_sailHours 15 = .ok (.getfield 32, 3) := by decide +kernel
theorem dX6_sailHours_18 : decode cX6_sailHours 18 = .ok (.getfield 167, 3) := by decide +kernel
theorem dX6_sailHours_21 : decode cX6_sailHours 21 = .ok (.iload_n 1, 1) := by decide +kernel
theorem dX6_sailHours_22 : decode cX6_sailHours 22 = .ok (.iadd, 1) := by decide +kernel
theorem dX6_sailHours_23 : decode cX6_sailHours 23 = .ok (.sipush 9999, 3) := by decide +kernel
theorem dX6_sailHours_26 : decode cX6_sailHours 26 = .ok (.if_icmp .le 6, 3) := by decide +kernel
theorem dX6_sailHours_29 : decode cX6_sailHours 29 = .ok (.bipush (-5), 2) := by decide +kernel
theorem dX6_sailHours_31 : decode cX6_sailHours 31 = .ok (.ireturn, 1) := by decide +kernel
theorem dX6_sailHours_32 : decode cX6_sailHours 32 = .ok (.iconst 0, 1) := by decide +kernel
theorem dX6_sailHours_33 : decode cX6_sailHours 33 = .ok (.istore_n 2, 1) := by decide +kernel
theorem dX6_sailHours_34 : decode cX6_sailHours 34 = .ok (.iload_n 2, 1) := by decide +kernel
theorem dX6_sailHours_35 : decode cX6_sailHours 35 = .ok (.iload_n 1, 1) := by decide +kernel
theorem dX6_sailHours_36 : decode cX6_sailHours 36 = .ok (.if_icmp .ge 28, 3) := by decide +kernel
theorem dX6_sailHours_39 : decode cX6_sailHours 39 = .ok (.aload_n 0, 1) := by decide +kernel
theorem dX6_sailHours_40 : decode cX6_sailHours 40 = .ok (.getfield 32, 3) := by decide +kernel
theorem dX6_sailHours_43 : decode cX6_sailHours 43 = .ok (.aload_n 0, 1) := by decide +kernel
theorem dX6_sailHours_44 : decode cX6_sailHours 44 = .ok (.getfield 9, 3) := by decide +kernel
theorem dX6_sailHours_47 : decode cX6_sailHours 47 = .ok (.iconst 0, 1) := by decide +kernel
theorem dX6_sailHours_48 : decode cX6_sailHours 48 = .ok (.iaload, 1) := by decide +kernel
theorem dX6_sailHours_49 : decode cX6_sailHours 49 = .ok (.aload_n 0, 1) := by decide +kernel
theorem dX6_sailHours_50 : decode cX6_sailHours 50 = .ok (.getfield 9, 3) := by decide +kernel
theorem dX6_sailHours_53 : decode cX6_sailHours 53 = .ok (.iconst 1, 1) := by decide +kernel
theorem dX6_sailHours_54 : decode cX6_sailHours 54 = .ok (.iaload, 1) := by decide +kernel
theorem dX6_sailHours_55 : decode cX6_sailHours 55 = .ok (.invokevirtual 170, 3) := by decide +kernel
theorem dX6_sailHours_58 : decode cX6_sailHours 58 = .ok (.iinc 2 1, 3) := by decide +kernel
theorem dX6_sailHours_61 : decode cX6_sailHours 61 = .ok (.goto (-27), 3) := by decide +kernel
theorem dX6_sailHours_64 : decode cX6_sailHours 64 = .ok (.aload_n 0, 1) := by decide +kernel
theorem dX6_sailHours_65 : decode cX6_sailHours 65 = .ok (.getfield 32, 3) := by decide +kernel
theorem dX6_sailHours_68 : decode cX6_sailHours 68 = .ok (.getfield 155, 3) := by decide +kernel
theorem dX6_sailHours_71 : decode cX6_sailHours 71 = .ok (.sipush 5400, 3) := by decide +kernel
theorem dX6_sailHours_74 : decode cX6_sailHours 74 = .ok (.iadd, 1) := by decide +kernel
theorem dX6_sailHours_75 : decode cX6_sailHours 75 = .ok (.ireturn, 1) := by decide +kernel
theorem dX6_endNight_0 : decode cX6_endNight 0 = .ok (.aload_n 0, 1) := by decide +kernel
theorem dX6_endNight_1 : decode cX6_endNight 1 = .ok (.getfield 43, 3) := by decide +kernel
theorem dX6_endNight_4 : decode cX6_endNight 4 = .ok (.sipush 999, 3) := by decide +kernel
theorem dX6_endNight_7 : decode cX6_endNight 7 = .ok (.if_icmp .lt 6, 3) := by decide +kernel
theorem dX6_endNight_10 : decode cX6_endNight 10 = .ok (.bipush (-5), 2) := by decide +kernel
theorem dX6_endNight_12 : decode cX6_endNight 12 = .ok (.ireturn, 1) := by decide +kernel
theorem dX6_endNight_13 : decode cX6_endNight 13 = .ok (.aload_n 0, 1) := by decide +kernel
theorem dX6_endNight_14 : decode cX6_endNight 14 = .ok (.getfield 39, 3) := by decide +kernel
theorem dX6_endNight_17 : decode cX6_endNight 17 = .ok (.aload_n 0, 1) := by decide +kernel
theorem dX6_endNight_18 : decode cX6_endNight 18 = .ok (.getfield 43, 3) := by decide +kernel
theorem dX6_endNight_21 : decode cX6_endNight 21 = .ok (.aload_n 0, 1) := by decide +kernel
theorem dX6_endNight_22 : decode cX6_endNight 22 = .ok (.getfield 32, 3) := by decide +kernel
theorem dX6_endNight_25 : decode cX6_endNight 25 = .ok (.getfield 155, 3) := by decide +kernel
theorem dX6_endNight_28 : decode cX6_endNight 28 = .ok (.sipush 5400, 3) := by decide +kernel
theorem dX6_endNight_31 : decode cX6_endNight 31 = .ok (.iadd, 1) := by decide +kernel
theorem dX6_endNight_32 : decode cX6_endNight 32 = .ok (.aload_n 0, 1) := by decide +kernel
theorem dX6_endNight_33 : decode cX6_endNight 33 = .ok (.getfield 32, 3) := by decide +kernel
theorem dX6_endNight_36 : decode cX6_endNight 36 = .ok (.getfield 161, 3) := by decide +kernel
theorem dX6_endNight_39 : decode cX6_endNight 39 = .ok (.invokestatic 174, 3) := by decide +kernel
theorem dX6_endNight_42 : decode cX6_endNight 42 = .ok (.aload_n 0, 1) := by decide +kernel
theorem dX6_endNight_43 : decode cX6_endNight 43 = .ok (.getfield 50, 3) := by decide +kernel
theorem dX6_endNight_46 : decode cX6_endNight 46 = .ok (.invokevirtual 177, 3) := by decide +kernel
theorem dX6_endNight_49 : decode cX6_endNight 49 = .ok (.aload_n 0, 1) := by decide +kernel
theorem dX6_endNight_50 : decode cX6_endNight 50 = .ok (.getfield 25, 3) := by decide +kernel
theorem dX6_endNight_53 : decode cX6_endNight 53 = .ok (.invokevirtual 181, 3) := by decide +kernel
theorem dX6_endNight_56 : decode cX6_endNight 56 = .ok (.aload_n 0, 1) := by decide +kernel
theorem dX6_endNight_57 : decode cX6_endNight 57 = .ok (.iconst 0, 1) := by decide +kernel
theorem dX6_endNight_58 : decode cX6_endNight 58 = .ok (.putfield 50, 3) := by decide +kernel
theorem dX6_endNight_61 : decode cX6_endNight 61 = .ok (.aload_n 0, 1) := by decide +kernel
theorem dX6_endNight_62 : decode cX6_endNight 62 = .ok (.dup, 1) := by decide +kernel
theorem dX6_endNight_63 : decode cX6_endNight 63 = .ok (.getfield 43, 3) := by decide +kernel
theorem dX6_endNight_66 : decode cX6_endNight 66 = .ok (.iconst 1, 1) := by decide +kernel
theorem dX6_endNight_67 : decode cX6_endNight 67 = .ok (.iadd, 1) := by decide +kernel
theorem dX6_endNight_68 : decode cX6_endNight 68 = .ok (.putfield 43, 3) := by decide +kernel
theorem dX6_endNight_71 : decode cX6_endNight 71 = .ok (.aload_n 0, 1) := by decide +kernel
theorem dX6_endNight_72 : decode cX6_endNight 72 = .ok (.getfield 43, 3) := by decide +kernel
theorem dX6_endNight_75 : decode cX6_endNight 75 = .ok (.ireturn, 1) := by decide +kernel
theorem dX6_factOfStar_0 : decode cX6_factOfStar 0 = .ok (.iload_n 2, 1) := by decide +kernel
theorem dX6_factOfStar_1 : decode cX6_factOfStar 1 = .ok (.tableswitch 70 0 3 #[31, 45, 54, 64], 31) := by decide +kernel
theorem dX6_factOfStar_32 : decode cX6_factOfStar 32 = .ok (.aload_n 0, 1) := by decide +kernel
theorem dX6_factOfStar_33 : decode cX6_factOfStar 33 = .ok (.getfield 18, 3) := by decide +kernel
theorem dX6_factOfStar_36 : decode cX6_factOfStar 36 = .ok (.getfield 88, 3) := by decide +kernel
theorem dX6_factOfStar_39 : decode cX6_factOfStar 39 = .ok (.iload_n 1, 1) := by decide +kernel
theorem dX6_factOfStar_40 : decode cX6_factOfStar 40 = .ok (.iaload, 1) := by decide +kernel
theorem dX6_factOfStar_41 : decode cX6_factOfStar 41 = .ok (.sipush 5400, 3) := by decide +kernel
theorem dX6_factOfStar_44 : decode cX6_factOfStar 44 = .ok (.iadd, 1) := by decide +kernel
theorem dX6_factOfStar_45 : decode cX6_factOfStar 45 = .ok (.ireturn, 1) := by decide +kernel
theorem dX6_factOfStar_46 : decode cX6_factOfStar 46 = .ok (.aload_n 0, 1) := by decide +kernel
theorem dX6_factOfStar_47 : decode cX6_factOfStar 47 = .ok (.getfield 18, 3) := by decide +kernel
theorem dX6_factOfStar_50 : decode cX6_factOfStar 50 = .ok (.iload_n 1, 1) := by decide +kernel
theorem dX6_factOfStar_51 : decode cX6_factOfStar 51 = .ok (.invokevirtual 97, 3) := by decide +kernel
theorem dX6_factOfStar_54 : decode cX6_factOfStar 54 = .ok (.ireturn, 1) := by decide +kernel
theorem dX6_factOfStar_55 : decode cX6_factOfStar 55 = .ok (.aload_n 0, 1) := by decide +kernel
theorem dX6_factOfStar_56 : decode cX6_factOfStar 56 = .ok (.iload_n 1, 1) := by decide +kernel
theorem dX6_factOfStar_57 : decode cX6_factOfStar 57 = .ok (.invokevirtual 141, 3) := by decide +kernel
theorem dX6_factOfStar_60 : decode cX6_factOfStar 60 = .ok (.sipush 5400, 3) := by decide +kernel
theorem dX6_factOfStar_63 : decode cX6_factOfStar 63 = .ok (.iadd, 1) := by decide +kernel
theorem dX6_factOfStar_64 : decode cX6_factOfStar 64 = .ok (.ireturn, 1) := by decide +kernel
theorem dX6_factOfStar_65 : decode cX6_factOfStar 65 = .ok (.aload_n 0, 1) := by decide +kernel
theorem dX6_factOfStar_66 : decode cX6_factOfStar 66 = .ok (.iload_n 1, 1) := by decide +kernel
theorem dX6_factOfStar_67 : decode cX6_factOfStar 67 = .ok (.invokevirtual 184, 3) := by decide +kernel
theorem dX6_factOfStar_70 : decode cX6_factOfStar 70 = .ok (.ireturn, 1) := by decide +kernel
theorem dX6_factOfStar_71 : decode cX6_factOfStar 71 = .ok (.bipush (-2), 2) := by decide +kernel
theorem dX6_factOfStar_73 : decode cX6_factOfStar 73 = .ok (.ireturn, 1) := by decide +kernel
theorem dX6_thoseWhoCanSight_0 : decode cX6_thoseWhoCanSight 0 = .ok (.iconst 0, 1) := by decide +kernel
theorem dX6_thoseWhoCanSight_1 : decode cX6_thoseWhoCanSight 1 = .ok (.istore_n 2, 1) := by decide +kernel
theorem dX6_thoseWhoCanSight_2 : decode cX6_thoseWhoCanSight 2 = .ok (.iconst 0, 1) := by decide +kernel
theorem dX6_thoseWhoCanSight_3 : decode cX6_thoseWhoCanSight 3 = .ok (.istore_n 3, 1) := by decide +kernel
theorem dX6_thoseWhoCanSight_4 : decode cX6_thoseWhoCanSight 4 = .ok (.iload_n 3, 1) := by decide +kernel
theorem dX6_thoseWhoCanSight_5 : decode cX6_thoseWhoCanSight 5 = .ok (.bipush 7, 2) := by decide +kernel
theorem dX6_thoseWhoCanSight_7 : decode cX6_thoseWhoCanSight 7 = .ok (.if_icmp .ge 24, 3) := by decide +kernel
theorem dX6_thoseWhoCanSight_10 : decode cX6_thoseWhoCanSight 10 = .ok (.aload_n 0, 1) := by decide +kernel
theorem dX6_thoseWhoCanSight_11 : decode cX6_thoseWhoCanSight 11 = .ok (.iload_n 3, 1) := by decide +kernel
theorem dX6_thoseWhoCanSight_12 : decode cX6_thoseWhoCanSight 12 = .ok (.iload_n 1, 1) := by decide +kernel
theorem dX6_thoseWhoCanSight_13 : decode cX6_thoseWhoCanSight 13 = .ok (.invokevirtual 135, 3) := by decide +kernel
theorem dX6_thoseWhoCanSight_16 : decode cX6_thoseWhoCanSight 16 = .ok (.ifCond .ne 9, 3) := by decide +kernel
theorem dX6_thoseWhoCanSight_19 : decode cX6_thoseWhoCanSight 19 = .ok (.iload_n 2, 1) := by decide +kernel
theorem dX6_thoseWhoCanSight_20 : decode cX6_thoseWhoCanSight 20 = .ok (.iconst 1, 1) := by decide +kernel
theorem dX6_thoseWhoCanSight_21 : decode cX6_thoseWhoCanSight 21 = .ok (.iload_n 3, 1) := by decide +kernel
theorem dX6_thoseWhoCanSight_22 : decode cX6_thoseWhoCanSight 22 = .ok (.ishl, 1) := by decide +kernel
theorem dX6_thoseWhoCanSight_23 : decode cX6_thoseWhoCanSight 23 = .ok (.ior, 1) := by decide +kernel
theorem dX6_thoseWhoCanSight_24 : decode cX6_thoseWhoCanSight 24 = .ok (.istore_n 2, 1) := by decide +kernel
theorem dX6_thoseWhoCanSight_25 : decode cX6_thoseWhoCanSight 25 = .ok (.iinc 3 1, 3) := by decide +kernel
theorem dX6_thoseWhoCanSight_28 : decode cX6_thoseWhoCanSight 28 = .ok (.goto (-24), 3) := by decide +kernel
theorem dX6_thoseWhoCanSight_31 : decode cX6_thoseWhoCanSight 31 = .ok (.iload_n 2, 1) := by decide +kernel
theorem dX6_thoseWhoCanSight_32 : decode cX6_thoseWhoCanSight 32 = .ok (.ireturn, 1) := by decide +kernel
theorem dX6_factOfLog_0 : decode cX6_factOfLog 0 = .ok (.iload_n 1, 1) := by decide +kernel
theorem dX6_factOfLog_1 : decode cX6_factOfLog 1 = .ok (.ifCond .lt 16, 3) := by decide +kernel
theorem dX6_factOfLog_4 : decode cX6_factOfLog 4 = .ok (.iload_n 1, 1) := by decide +kernel
theorem dX6_factOfLog_5 : decode cX6_factOfLog 5 = .ok (.aload_n 0, 1) := by decide +kernel
theorem dX6_factOfLog_6 : decode cX6_factOfLog 6 = .ok (.getfield 43, 3) := by decide +kernel
theorem dX6_factOfLog_9 : decode cX6_factOfLog 9 = .ok (.bipush 8, 2) := by decide +kernel
theorem dX6_factOfLog_11 : decode cX6_factOfLog 11 = .ok (.invokestatic 187, 3) := by decide +kernel
theorem dX6_factOfLog_14 : decode cX6_factOfLog 14 = .ok (.if_icmp .lt 5, 3) := by decide +kernel
theorem dX6_factOfLog_17 : decode cX6_factOfLog 17 = .ok (.iconst (-1), 1) := by decide +kernel
theorem dX6_factOfLog_18 : decode cX6_factOfLog 18 = .ok (.ireturn, 1) := by decide +kernel
theorem dX6_factOfLog_19 : decode cX6_factOfLog 19 = .ok (.iload_n 2, 1) := by decide +kernel
theorem dX6_factOfLog_20 : decode cX6_factOfLog 20 = .ok (.ifCond .lt 8, 3) := by decide +kernel
theorem dX6_factOfLog_23 : decode cX6_factOfLog 23 = .ok (.iload_n 2, 1) := by decide +kernel
theorem dX6_factOfLog_24 : decode cX6_factOfLog 24 = .ok (.iconst 4, 1) := by decide +kernel
theorem dX6_factOfLog_25 : decode cX6_factOfLog 25 = .ok (.if_icmp .lt 6, 3) := by decide +kernel
theorem dX6_factOfLog_28 : decode cX6_factOfLog 28 = .ok (.bipush (-2), 2) := by decide +kernel
theorem dX6_factOfLog_30 : decode cX6_factOfLog 30 = .ok (.ireturn, 1) := by decide +kernel
theorem dX6_factOfLog_31 : decode cX6_factOfLog 31 = .ok (.aload_n 0, 1) := by decide +kernel
theorem dX6_factOfLog_32 : decode cX6_factOfLog 32 = .ok (.getfield 39, 3) := by decide +kernel
theorem dX6_factOfLog_35 : decode cX6_factOfLog 35 = .ok (.aload_n 0, 1) := by decide +kernel
theorem dX6_factOfLog_36 : decode cX6_factOfLog 36 = .ok (.getfield 43, 3) := by decide +kernel
theorem dX6_factOfLog_39 : decode cX6_factOfLog 39 = .ok (.iconst 1, 1) := by decide +kernel
theorem dX6_factOfLog_40 : decode cX6_factOfLog 40 = .ok (.isub, 1) := by decide +kernel
theorem dX6_factOfLog_41 : decode cX6_factOfLog 41 = .ok (.iload_n 1, 1) := by decide +kernel
theorem dX6_factOfLog_42 : decode cX6_factOfLog 42 = .ok (.isub, 1) := by decide +kernel
theorem dX6_factOfLog_43 : decode cX6_factOfLog 43 = .ok (.iload_n 2, 1) := by decide +kernel
theorem dX6_factOfLog_44 : decode cX6_factOfLog 44 = .ok (.invokevirtual 190, 3) := by decide +kernel
theorem dX6_factOfLog_47 : decode cX6_factOfLog 47 = .ok (.ireturn, 1) := by decide +kernel
theorem dX6_numberOf_0 : decode cX6_numberOf 0 = .ok (.iload_n 1, 1) := by decide +kernel
theorem dX6_numberOf_1 : decode cX6_numberOf 1 = .ok (.tableswitch 196 0 14 #[75, 87, 98, 110, 118, 123, 131, 136, 141, 149, 157, 165, 175, 182, 189], 75) := by decide +kernel
theorem dX6_numberOf_76 : decode cX6_numberOf 76 = .ok (.aload_n 0, 1) := by decide +kernel
theorem dX6_numberOf_77 : decode cX6_numberOf 77 = .ok (.getfield 32, 3) := by decide +kernel
theorem dX6_numberOf_80 : decode cX6_numberOf 80 = .ok (.getfield 155, 3) := by decide +kernel
theorem dX6_numberOf_83 : decode cX6_numberOf 83 = .ok (.sipush 5400, 3) := by decide +kernel
theorem dX6_numberOf_86 : decode cX6_numberOf 86 = .ok (.iadd, 1) := by decide +kernel
theorem dX6_numberOf_87 : decode cX6_numberOf 87 = .ok (.ireturn, 1) := by decide +kernel
theorem dX6_numberOf_88 : decode cX6_numberOf 88 = .ok (.aload_n 0, 1) := by decide +kernel
theorem dX6_numberOf_89 : decode cX6_numberOf 89 = .ok (.getfield 32, 3) := by decide +kernel
theorem dX6_numberOf_92 : decode cX6_numberOf 92 = .ok (.getfield 161, 3) := by decide +kernel
theorem dX6_numberOf_95 : decode cX6_numberOf 95 = .ok (.invokestatic 174, 3) := by decide +kernel
theorem dX6_numberOf_98 : decode cX6_numberOf 98 = .ok (.ireturn, 1) := by decide +kernel
theorem dX6_numberOf_99 : decode cX6_numberOf 99 = .ok (.aload_n 0, 1) := by decide +kernel
theorem dX6_numberOf_100 : decode cX6_numberOf 100 = .ok (.getfield 32, 3) := by decide +kernel
theorem dX6_numberOf_103 : decode cX6_numberOf 103 = .ok (.getfield 122, 3) := by decide +kernel
theorem dX6_numberOf_106 : decode cX6_numberOf 106 = .ok (.sipush 5400, 3) := by decide +kernel
theorem dX6_numberOf_109 : decode cX6_numberOf 109 = .ok (.iadd, 1) := by decide +kernel
theorem dX6_numberOf_110 : decode cX6_numberOf 110 = .ok (.ireturn, 1) := by decide +kernel
theorem dX6_numberOf_111 : decode cX6_numberOf 111 = .ok (.aload_n 0, 1) := by decide +kernel
theorem dX6_numberOf_112 : decode cX6_numberOf 112 = .ok (.getfield 32, 3) := by decide +kernel
theorem dX6_numberOf_115 : decode cX6_numberOf 115 = .ok (.getfield 167, 3) := by decide +kernel
theorem dX6_numberOf_118 : decode cX6_numberOf 118 = .ok (.ireturn, 1) := by decide +kernel
theorem dX6_numberOf_119 : decode cX6_numberOf 119 = .ok (.aload_n 0, 1) := by decide +kernel
theorem dX6_numberOf_120 : decode cX6_numberOf 120 = .ok (.getfield 43, 3) := by decide +kernel
theorem dX6_numberOf_123 : decode cX6_numberOf 123 = .ok (.ireturn, 1) := by decide +kernel
theorem dX6_numberOf_124 : decode cX6_numberOf 124 = .ok (.aload_n 0, 1) := by decide +kernel
theorem dX6_numberOf_125 : decode cX6_numberOf 125 = .ok (.getfield 25, 3) := by decide +kernel
theorem dX6_numberOf_128 : decode cX6_numberOf 128 = .ok (.invokevirtual 193, 3) := by decide +kernel
theorem dX6_numberOf_131 : decode cX6_numberOf 131 = .ok (.ireturn, 1) := by decide +kernel
theorem dX6_numberOf_132 : decode cX6_numberOf 132 = .ok (.aload_n 0, 1) := by decide +kernel
theorem dX6_numberOf_133 : decode cX6_numberOf 133 = .ok (.getfield 47, 3) := by decide +kernel
theorem dX6_numberOf_136 : decode cX6_numberOf 136 = .ok (.ireturn, 1) := by decide +kernel
theorem dX6_numberOf_137 : decode cX6_numberOf 137 = .ok (.aload_n 0, 1) := by decide +kernel
theorem dX6_numberOf_138 : decode cX6_numberOf 138 = .ok (.getfield 50, 3) := by decide +kernel
theorem dX6_numberOf_141 : decode cX6_numberOf 141 = .ok (.ireturn, 1) := by decide +kernel
theorem dX6_numberOf_142 : decode cX6_numberOf 142 = .ok (.aload_n 0, 1) := by decide +kernel
theorem dX6_numberOf_143 : decode cX6_numberOf 143 = .ok (.getfield 25, 3) := by decide +kernel
theorem dX6_numberOf_146 : decode cX6_numberOf 146 = .ok (.invokevirtual 197, 3) := by decide +kernel
theorem dX6_numberOf_149 : decode cX6_numberOf 149 = .ok (.ireturn, 1) := by decide +kernel
theorem dX6_numberOf_150 : decode cX6_numberOf 150 = .ok (.aload_n 0, 1) := by decide +kernel
theorem dX6_numberOf_151 : decode cX6_numberOf 151 = .ok (.getfield 25, 3) := by decide +kernel
theorem dX6_numberOf_154 : decode cX6_numberOf 154 = .ok (.invokevirtual 200, 3) := by decide +kernel
theorem dX6_numberOf_157 : decode cX6_numberOf 157 = .ok (.ireturn, 1) := by decide +kernel
theorem dX6_numberOf_158 : decode cX6_numberOf 158 = .ok (.aload_n 0, 1) := by decide +kernel
theorem dX6_numberOf_159 : decode cX6_numberOf 159 = .ok (.getfield 32, 3) := by decide +kernel
theorem dX6_numberOf_162 : decode cX6_numberOf 162 = .ok (.invokevirtual 203, 3) := by decide +kernel
theorem dX6_numberOf_165 : decode cX6_numberOf 165 = .ok (.ireturn, 1) := by decide +kernel
theorem dX6_numberOf_166 : decode cX6_numberOf 166 = .ok (.aload_n 0, 1) := by decide +kernel
theorem dX6_numberOf_167 : decode cX6_numberOf 167 = .ok (.getfield 9, 3) := by decide +kernel
theorem dX6_numberOf_170 : decode cX6_numberOf 170 = .ok (.iconst 0, 1) := by decide +kernel
theorem dX6_numberOf_171 : decode cX6_numberOf 171 = .ok (.iaload, 1) := by decide +kernel
theorem dX6_numberOf_172 : decode cX6_numberOf 172 = .ok (.bipush 30, 2) := by decide +kernel
theorem dX6_numberOf_174 : decode cX6_numberOf 174 = .ok (.iadd, 1) := by decide +kernel
theorem dX6_numberOf_175 : decode cX6_numberOf 175 = .ok (.ireturn, 1) := by decide +kernel
theorem dX6_numberOf_176 : decode cX6_numberOf 176 = .ok (.aload_n 0, 1) := by decide +kernel
theorem dX6_numberOf_177 : decode cX6_numberOf 177 = .ok (.getfield 9, 3) := by decide +kernel
theorem dX6_numberOf_180 : decode cX6_numberOf 180 = .ok (.iconst 1, 1) := by decide +kernel
theorem dX6_numberOf_181 : decode cX6_numberOf 181 = .ok (.iaload, 1) := by decide +kernel
theorem dX6_numberOf_182 : decode cX6_numberOf 182 = .ok (.ireturn, 1) := by decide +kernel
theorem dX6_numberOf_183 : decode cX6_numberOf 183 = .ok (.aload_n 0, 1) := by decide +kernel
theorem dX6_numberOf_184 : decode cX6_numberOf 184 = .ok (.getfield 9, 3) := by decide +kernel
theorem dX6_numberOf_187 : decode cX6_numberOf 187 = .ok (.iconst 2, 1) := by decide +kernel
theorem dX6_numberOf_188 : decode cX6_numberOf 188 = .ok (.iaload, 1) := by decide +kernel
theorem dX6_numberOf_189 : decode cX6_numberOf 189 = .ok (.ireturn, 1) := by decide +kernel
theorem dX6_numberOf_190 : decode cX6_numberOf 190 = .ok (.aload_n 0, 1) := by decide +kernel
theorem dX6_numberOf_191 : decode cX6_numberOf 191 = .ok (.getfield 9, 3) := by decide +kernel
theorem dX6_numberOf_194 : decode cX6_numberOf 194 = .ok (.iconst 3, 1) := by decide +kernel
theorem dX6_numberOf_195 : decode cX6_numberOf 195 = .ok (.iaload, 1) := by decide +kernel
theorem dX6_numberOf_196 : decode cX6_numberOf 196 = .ok (.ireturn, 1) := by decide +kernel
theorem dX6_numberOf_197 : decode cX6_numberOf 197 = .ok (.bipush (-2), 2) := by decide +kernel
theorem dX6_numberOf_199 : decode cX6_numberOf 199 = .ok (.ireturn, 1) := by decide +kernel
theorem dX6_highestStar_0 : decode cX6_highestStar 0 = .ok (.bipush (-6), 2) := by decide +kernel
theorem dX6_highestStar_2 : decode cX6_highestStar 2 = .ok (.istore_n 1, 1) := by decide +kernel
theorem dX6_highestStar_3 : decode cX6_highestStar 3 = .ok (.iconst 0, 1) := by decide +kernel
theorem dX6_highestStar_4 : decode cX6_highestStar 4 = .ok (.istore_n 2, 1) := by decide +kernel
theorem dX6_highestStar_5 : decode cX6_highestStar 5 = .ok (.iload_n 2, 1) := by decide +kernel
theorem dX6_highestStar_6 : decode cX6_highestStar 6 = .ok (.aload_n 0, 1) := by decide +kernel
theorem dX6_highestStar_7 : decode cX6_highestStar 7 = .ok (.getfield 18, 3) := by decide +kernel
theorem dX6_highestStar_10 : decode cX6_highestStar 10 = .ok (.getfield 85, 3) := by decide +kernel
theorem dX6_highestStar_13 : decode cX6_highestStar 13 = .ok (.if_icmp .ge 65, 3) := by decide +kernel
theorem dX6_highestStar_16 : decode cX6_highestStar 16 = .ok (.aload_n 0, 1) := by decide +kernel
theorem dX6_highestStar_17 : decode cX6_highestStar 17 = .ok (.getfield 18, 3) := by decide +kernel
theorem dX6_highestStar_20 : decode cX6_highestStar 20 = .ok (.iload_n 2, 1) := by decide +kernel
theorem dX6_highestStar_21 : decode cX6_highestStar 21 = .ok (.invokevirtual 97, 3) := by decide +kernel
theorem dX6_highestStar_24 : decode cX6_highestStar 24 = .ok (.ifCond .ne 21, 3) := by decide +kernel
theorem dX6_highestStar_27 : decode cX6_highestStar 27 = .ok (.aload_n 0, 1) := by decide +kernel
theorem dX6_highestStar_28 : decode cX6_highestStar 28 = .ok (.iload_n 2, 1) := by decide +kernel
theorem dX6_highestStar_29 : decode cX6_highestStar 29 = .ok (.invokevirtual 141, 3) := by decide +kernel
theorem dX6_highestStar_32 : decode cX6_highestStar 32 = .ok (.aload_n 0, 1) := by decide +kernel
theorem dX6_highestStar_33 : decode cX6_highestStar 33 = .ok (.getfield 9, 3) := by decide +kernel
theorem dX6_highestStar_36 : decode cX6_highestStar 36 = .ok (.iconst 3, 1) := by decide +kernel
theorem dX6_highestStar_37 : decode cX6_highestStar 37 = .ok (.iaload, 1) := by decide +kernel
theorem dX6_highestStar_38 : decode cX6_highestStar 38 = .ok (.if_icmp .lt 7, 3) := by decide +kernel
theorem dX6_highestStar_41 : decode cX6_highestStar 41 = .ok (.iconst 1, 1) := by decide +kernel
theorem dX6_highestStar_42 : decode cX6_highestStar 42 = .ok (.goto 4, 3) := by decide +kernel
theorem dX6_highestStar_45 : decode cX6_highestStar 45 = .ok (.iconst 0, 1) := by decide +kernel
theorem dX6_highestStar_46 : decode cX6_highestStar 46 = .ok (.istore_n 3, 1) := by decide +kernel
theorem dX6_highestStar_47 : decode cX6_highestStar 47 = .ok (.iload_n 3, 1) := by decide +kernel
theorem dX6_highestStar_48 : decode cX6_highestStar 48 = .ok (.ifCond .eq 24, 3) := by decide +kernel
theorem dX6_highestStar_51 : decode cX6_highestStar 51 = .ok (.iload_n 1, 1) := by decide +kernel
theorem dX6_highestStar_52 : decode cX6_highestStar 52 = .ok (.bipush (-6), 2) := by decide +kernel
theorem dX6_highestStar_54 : decode cX6_highestStar 54 = .ok (.if_icmp .eq 16, 3) := by decide +kernel
theorem dX6_highestStar_57 : decode cX6_highestStar 57 = .ok (.aload_n 0, 1) := by decide +kernel
theorem dX6_highestStar_58 : decode cX6_highestStar 58 = .ok (.iload_n 2, 1) := by decide +kernel
theorem dX6_highestStar_59 : decode cX6_highestStar 59 = .ok (.invokevirtual 141, 3) := by decide +kernel
theorem dX6_highestStar_62 : decode cX6_highestStar 62 = .ok (.aload_n 0, 1) := by decide +kernel
theorem dX6_highestStar_63 : decode cX6_highestStar 63 = .ok (.iload_n 1, 1) := by decide +kernel
theorem dX6_highestStar_64 : decode cX6_highestStar 64 = .ok (.invokevirtual 141, 3) := by decide +kernel
theorem dX6_highestStar_67 : decode cX6_highestStar 67 = .ok (.if_icmp .le 5, 3) := by decide +kernel
theorem dX6_highestStar_70 : decode cX6_highestStar 70 = .ok (.iload_n 2, 1) := by decide +kernel
theorem dX6_highestStar_71 : decode cX6_highestStar 71 = .ok (.istore_n 1, 1) := by decide +kernel
theorem dX6_highestStar_72 : decode cX6_highestStar 72 = .ok (.iinc 2 1, 3) := by decide +kernel
theorem dX6_highestStar_75 : decode cX6_highestStar 75 = .ok (.goto (-70), 3) := by decide +kernel
theorem dX6_highestStar_78 : decode cX6_highestStar 78 = .ok (.iload_n 1, 1) := by decide +kernel
theorem dX6_highestStar_79 : decode cX6_highestStar 79 = .ok (.ireturn, 1) := by decide +kernel
theorem dX6_nearestNavigator_0 : decode cX6_nearestNavigator 0 = .ok (.iload_n 1, 1) := by decide +kernel
theorem dX6_nearestNavigator_1 : decode cX6_nearestNavigator 1 = .ok (.ifCond .eq 11, 3) := by decide +kernel
theorem dX6_nearestNavigator_4 : decode cX6_nearestNavigator 4 = .ok (.iload_n 1, 1) := by decide +kernel
theorem dX6_nearestNavigator_5 : decode cX6_nearestNavigator 5 = .ok (.iconst 1, 1) := by decide +kernel
theorem dX6_nearestNavigator_6 : decode cX6_nearestNavigator 6 = .ok (.if_icmp .eq 6, 3) := by decide +kernel
theorem dX6_nearestNavigator_9 : decode cX6_nearestNavigator 9 = .ok (.bipush (-2), 2) := by decide +kernel
theorem dX6_nearestNavigator_11 : decode cX6_nearestNavigator 11 = .ok (.ireturn, 1) := by decide +kernel
theorem dX6_nearestNavigator_12 : decode cX6_nearestNavigator 12 = .ok (.bipush (-6), 2) := by decide +kernel
theorem dX6_nearestNavigator_14 : decode cX6_nearestNavigator 14 = .ok (.istore_n 2, 1) := by decide +kernel
theorem dX6_nearestNavigator_15 : decode cX6_nearestNavigator 15 = .ok (.bipush (-6), 2) := by decide +kernel
theorem dX6_nearestNavigator_17 : decode cX6_nearestNavigator 17 = .ok (.istore_n 3, 1) := by decide +kernel
theorem dX6_nearestNavigator_18 : decode cX6_nearestNavigator 18 = .ok (.iconst 0, 1) := by decide +kernel
theorem dX6_nearestNavigator_19 : decode cX6_nearestNavigator 19 = .ok (.istore 4, 2) := by decide +kernel
theorem dX6_nearestNavigator_21 : decode cX6_nearestNavigator 21 = .ok (.iload 4, 2) := by decide +kernel
theorem dX6_nearestNavigator_23 : decode cX6_nearestNavigator 23 = .ok (.bipush 7, 2) := by decide +kernel
theorem dX6_nearestNavigator_25 : decode cX6_nearestNavigator 25 = .ok (.if_icmp .ge 66, 3) := by decide +kernel
theorem dX6_nearestNavigator_28 : decode cX6_nearestNavigator 28 = .ok (.aload_n 0, 1) := by decide +kernel
theorem dX6_nearestNavigator_29 : decode cX6_nearestNavigator 29 = .ok (.getfield 25, 3) := by decide +kernel
theorem dX6_nearestNavigator_32 : decode cX6_nearestNavigator 32 = .ok (.getfield 129, 3) := by decide +kernel
theorem dX6_nearestNavigator_35 : decode cX6_nearestNavigator 35 = .ok (.iload 4, 2) := by decide +kernel
theorem dX6_nearestNavigator_37 : decode cX6_nearestNavigator 37 = .ok (.iaload, 1) := by decide +kernel
theorem dX6_nearestNavigator_38 : decode cX6_nearestNavigator 38 = .ok (.sipush 9999, 3) := by decide +kernel
theorem dX6_nearestNavigator_41 : decode cX6_nearestNavigator 41 = .ok (.if_icmp .eq 44, 3) := by decide +kernel
theorem dX6_nearestNavigator_44 : decode cX6_nearestNavigator 44 = .ok (.aload_n 0, 1) := by decide +kernel
theorem dX6_nearestNavigator_45 : decode cX6_nearestNavigator 45 = .ok (.getfield 25, 3) := by decide +kernel
theorem dX6_nearestNavigator_48 : decode cX6_nearestNavigator 48 = .ok (.getfield 129, 3) := by decide +kernel
theorem dX6_nearestNavigator_51 : decode cX6_nearestNavigator 51 = .ok (.iload 4, 2) := by decide +kernel
theorem dX6_nearestNavigator_53 : decode cX6_nearestNavigator 53 = .ok (.iaload, 1) := by decide +kernel
theorem dX6_nearestNavigator_54 : decode cX6_nearestNavigator 54 = .ok (.aload_n 0, 1) := by decide +kernel
theorem dX6_nearestNavigator_55 : decode cX6_nearestNavigator 55 = .ok (.getfield 32, 3) := by decide +kernel
theorem dX6_nearestNavigator_58 : decode cX6_nearestNavigator 58 = .ok (.getfield 155, 3) := by decide +kernel
theorem dX6_nearestNavigator_61 : decode cX6_nearestNavigator 61 = .ok (.isub, 1) := by decide +kernel
theorem dX6_nearestNavigator_62 : decode cX6_nearestNavigator 62 = .ok (.invokestatic 147, 3) := by decide +kernel
theorem dX6_nearestNavigator_65 : decode cX6_nearestNavigator 65 = .ok (.istore 5, 2) := by decide +kernel
theorem dX6_nearestNavigator_67 : decode cX6_nearestNavigator 67 = .ok (.iload_n 2, 1) := by decide +kernel
theorem dX6_nearestNavigator_68 : decode cX6_nearestNavigator 68 = .ok (.bipush (-6), 2) := by decide +kernel
theorem dX6_nearestNavigator_70 : decode cX6_nearestNavigator 70 = .ok (.if_icmp .eq 9, 3) := by decide +kernel
theorem dX6_nearestNavigator_73 : decode cX6_nearestNavigator 73 = .ok (.iload 5, 2) := by decide +kernel
theorem dX6_nearestNavigator_75 : decode cX6_nearestNavigator 75 = .ok (.iload_n 3, 1) := by decide +kernel
theorem dX6_nearestNavigator_76 : decode cX6_nearestNavigator 76 = .ok (.if_icmp .ge 9, 3) := by decide +kernel
theorem dX6_nearestNavigator_79 : decode cX6_nearestNavigator 79 = .ok (.iload 4, 2) := by decide +kernel
theorem dX6_nearestNavigator_81 : decode cX6_nearestNavigator 81 = .ok (.istore_n 2, 1) := by decide +kernel
theorem dX6_nearestNavigator_82 : decode cX6_nearestNavigator 82 = .ok (.iload 5, 2) := by decide +kernel
theorem dX6_nearestNavigator_84 : decode cX6_nearestNavigator 84 = .ok (.istore_n 3, 1) := by decide +kernel
theorem dX6_nearestNavigator_85 : decode cX6_nearestNavigator 85 = .ok (.iinc 4 1, 3) := by decide +kernel
theorem dX6_nearestNavigator_88 : decode cX6_nearestNavigator 88 = .ok (.goto (-67), 3) := by decide +kernel
theorem dX6_nearestNavigator_91 : decode cX6_nearestNavigator 91 = .ok (.iload_n 1, 1) := by decide +kernel
theorem dX6_nearestNavigator_92 : decode cX6_nearestNavigator 92 = .ok (.ifCond .ne 7, 3) := by decide +kernel
theorem dX6_nearestNavigator_95 : decode cX6_nearestNavigator 95 = .ok (.iload_n 2, 1) := by decide +kernel
theorem dX6_nearestNavigator_96 : decode cX6_nearestNavigator 96 = .ok (.goto 4, 3) := by decide +kernel
theorem dX6_nearestNavigator_99 : decode cX6_nearestNavigator 99 = .ok (.iload_n 3, 1) := by decide +kernel
theorem dX6_nearestNavigator_100 : decode cX6_nearestNavigator 100 = .ok (.ireturn, 1) := by decide +kernel
theorem dX6_hoursToGoal_0 : decode cX6_hoursToGoal 0 = .ok (.iload_n 1, 1) := by decide +kernel
theorem dX6_hoursToGoal_1 : decode cX6_hoursToGoal 1 = .ok (.ifCond .lt 10, 3) := by decide +kernel
theorem dX6_hoursToGoal_4 : decode cX6_hoursToGoal 4 = .ok (.iload_n 1, 1) := by decide +kernel
theorem dX6_hoursToGoal_5 : decode cX6_hoursToGoal 5 = .ok (.sipush 999, 3) := by decide +kernel
theorem dX6_hoursToGoal_8 : decode cX6_hoursToGoal 8 = .ok (.if_icmp .le 6, 3) := by decide +kernel
theorem dX6_hoursToGoal_11 : decode cX6_hoursToGoal 11 = .ok (.bipush (-2), 2) := by decide +kernel
theorem dX6_hoursToGoal_13 : decode cX6_hoursToGoal 13 = .ok (.ireturn, 1) := by decide +kernel
theorem dX6_hoursToGoal_14 : decode cX6_hoursToGoal 14 = .ok (.aload_n 2, 1) := by decide +kernel
theorem dX6_hoursToGoal_15 : decode cX6_hoursToGoal 15 = .ok (.aload_n 0, 1) := by decide +kernel
theorem dX6_hoursToGoal_16 : decode cX6_hoursToGoal 16 = .ok (.getfield 32, 3) := by decide +kernel
theorem dX6_hoursToGoal_19 : decode cX6_hoursToGoal 19 = .ok (.invokevirtual 69, 3) := by decide +kernel
theorem dX6_hoursToGoal_22 : decode cX6_hoursToGoal 22 = .ok (.iconst 0, 1) := by decide +kernel
theorem dX6_hoursToGoal_23 : decode cX6_hoursToGoal 23 = .ok (.istore_n 3, 1) := by decide +kernel
theorem dX6_hoursToGoal_24 : decode cX6_hoursToGoal 24 = .ok (.iload_n 3, 1) := by decide +kernel
theorem dX6_hoursToGoal_25 : decode cX6_hoursToGoal 25 = .ok (.sipush 500, 3) := by decide +kernel
theorem dX6_hoursToGoal_28 : decode cX6_hoursToGoal 28 = .ok (.if_icmp .gt 35, 3) := by decide +kernel
theorem dX6_hoursToGoal_31 : decode cX6_hoursToGoal 31 = .ok (.aload_n 2, 1) := by decide +kernel
theorem dX6_hoursToGoal_32 : decode cX6_hoursToGoal 32 = .ok (.invokevirtual 206, 3) := by decide +kernel
theorem dX6_hoursToGoal_35 : decode cX6_hoursToGoal 35 = .ok (.iload_n 1, 1) := by decide +kernel
theorem dX6_hoursToGoal_36 : decode cX6_hoursToGoal 36 = .ok (.if_icmp .gt 5, 3) := by decide +kernel
theorem dX6_hoursToGoal_39 : decode cX6_hoursToGoal 39 = .ok (.iload_n 3, 1) := by decide +kernel
theorem dX6_hoursToGoal_40 : decode cX6_hoursToGoal 40 = .ok (.ireturn, 1) := by decide +kernel
theorem dX6_hoursToGoal_41 : decode cX6_hoursToGoal 41 = .ok (.aload_n 2, 1) := by decide +kernel
theorem dX6_hoursToGoal_42 : decode cX6_hoursToGoal 42 = .ok (.aload_n 0, 1) := by decide +kernel
theorem dX6_hoursToGoal_43 : decode cX6_hoursToGoal 43 = .ok (.getfield 9, 3) := by decide +kernel
theorem dX6_hoursToGoal_46 : decode cX6_hoursToGoal 46 = .ok (.iconst 0, 1) := by decide +kernel
theorem dX6_hoursToGoal_47 : decode cX6_hoursToGoal 47 = .ok (.iaload, 1) := by decide +kernel
theorem dX6_hoursToGoal_48 : decode cX6_hoursToGoal 48 = .ok (.aload_n 0, 1) := by decide +kernel
theorem dX6_hoursToGoal_49 : decode cX6_hoursToGoal 49 = .ok (.getfield 9, 3) := by decide +kernel
theorem dX6_hoursToGoal_52 : decode cX6_hoursToGoal 52 = .ok (.iconst 1, 1) := by decide +kernel
theorem dX6_hoursToGoal_53 : decode cX6_hoursToGoal 53 = .ok (.iaload, 1) := by decide +kernel
theorem dX6_hoursToGoal_54 : decode cX6_hoursToGoal 54 = .ok (.invokevirtual 170, 3) := by decide +kernel
theorem dX6_hoursToGoal_57 : decode cX6_hoursToGoal 57 = .ok (.iinc 3 1, 3) := by decide +kernel
theorem dX6_hoursToGoal_60 : decode cX6_hoursToGoal 60 = .ok (.goto (-36), 3) := by decide +kernel
theorem dX6_hoursToGoal_63 : decode cX6_hoursToGoal 63 = .ok (.bipush (-6), 2) := by decide +kernel
theorem dX6_hoursToGoal_65 : decode cX6_hoursToGoal 65 = .ok (.ireturn, 1) := by decide +kernel
theorem dX7_init_0 : decode cX7_init 0 = .ok (.aload_n 0, 1) := by decide +kernel
theorem dX7_init_1 : decode cX7_init 1 = .ok (.invokespecial 1, 3) := by decide +kernel
theorem dX7_init_4 : decode cX7_init 4 = .ok (.aload_n 0, 1) := by decide +kernel
theorem dX7_init_5 : decode cX7_init 5 = .ok (.new 7, 3) := by decide +kernel
theorem dX7_init_8 : decode cX7_init 8 = .ok (.dup, 1) := by decide +kernel
theorem dX7_init_9 : decode cX7_init 9 = .ok (.invokespecial 9, 3) := by decide +kernel
theorem dX7_init_12 : decode cX7_init 12 = .ok (.putfield 10, 3) := by decide +kernel
theorem dX7_init_15 : decode cX7_init 15 = .ok (.aload_n 0, 1) := by decide +kernel
theorem dX7_init_16 : decode cX7_init 16 = .ok (.new 16, 3) := by decide +kernel
theorem dX7_init_19 : decode cX7_init 19 = .ok (.dup, 1) := by decide +kernel
theorem dX7_init_20 : decode cX7_init 20 = .ok (.invokespecial 18, 3) := by decide +kernel
theorem dX7_init_23 : decode cX7_init 23 = .ok (.putfield 19, 3) := by decide +kernel
theorem dX7_init_26 : decode cX7_init 26 = .ok (.aload_n 0, 1) := by decide +kernel
theorem dX7_init_27 : decode cX7_init 27 = .ok (.new 23, 3) := by decide +kernel
theorem dX7_init_30 : decode cX7_init 30 = .ok (.dup, 1) := by decide +kernel
theorem dX7_init_31 : decode cX7_init 31 = .ok (.invokespecial 25, 3) := by decide +kernel
theorem dX7_init_34 : decode cX7_init 34 = .ok (.putfield 26, 3) := by decide +kernel
theorem dX7_init_37 : decode cX7_init 37 = .ok (.aload_n 0, 1) := by decide +kernel
theorem dX7_init_38 : decode cX7_init 38 = .ok (.iconst 2, 1) := by decide +kernel
theorem dX7_init_39 : decode cX7_init 39 = .ok (.anewarray 7, 3) := by decide +kernel
theorem dX7_init_42 : decode cX7_init 42 = .ok (.putfield 30, 3) := by decide +kernel
theorem dX7_init_45 : decode cX7_init 45 = .ok (.aload_n 0, 1) := by decide +kernel
theorem dX7_init_46 : decode cX7_init 46 = .ok (.iconst 2, 1) := by decide +kernel
theorem dX7_init_47 : decode cX7_init 47 = .ok (.newarray .boolean, 2) := by decide +kernel
theorem dX7_init_49 : decode cX7_init 49 = .ok (.putfield 34, 3) := by decide +kernel
theorem dX7_init_52 : decode cX7_init 52 = .ok (.aload_n 0, 1) := by decide +kernel
theorem dX7_init_53 : decode cX7_init 53 = .ok (.new 38, 3) := by decide +kernel
theorem dX7_init_56 : decode cX7_init 56 = .ok (.dup, 1) := by decide +kernel
theorem dX7_init_57 : decode cX7_init 57 = .ok (.invokespecial 40, 3) := by decide +kernel
theorem dX7_init_60 : decode cX7_init 60 = .ok (.putfield 41, 3) := by decide +kernel
theorem dX7_init_63 : decode cX7_init 63 = .ok (.iconst 0, 1) := by decide +kernel
theorem dX7_init_64 : decode cX7_init 64 = .ok (.istore_n 1, 1) := by decide +kernel
theorem dX7_init_65 : decode cX7_init 65 = .ok (.iload_n 1, 1) := by decide +kernel
theorem dX7_init_66 : decode cX7_init 66 = .ok (.iconst 2, 1) := by decide +kernel
theorem dX7_init_67 : decode cX7_init 67 = .ok (.if_icmp .ge 22, 3) := by decide +kernel
theorem dX7_init_70 : decode cX7_init 70 = .ok (.aload_n 0, 1) := by decide +kernel
theorem dX7_init_71 : decode cX7_init 71 = .ok (.getfield 30, 3) := by decide +kernel
theorem dX7_init_74 : decode cX7_init 74 = .ok (.iload_n 1, 1) := by decide +kernel
theorem dX7_init_75 : decode cX7_init 75 = .ok (.new 7, 3) := by decide +kernel
theorem dX7_init_78 : decode cX7_init 78 = .ok (.dup, 1) := by decide +kernel
theorem dX7_init_79 : decode cX7_init 79 = .ok (.invokespecial 9, 3) := by decide +kernel
theorem dX7_init_82 : decode cX7_init 82 = .ok (.aastore, 1) := by decide +kernel
theorem dX7_init_83 : decode cX7_init 83 = .ok (.iinc 1 1, 3) := by decide +kernel
theorem dX7_init_86 : decode cX7_init 86 = .ok (.goto (-21), 3) := by decide +kernel
theorem dX7_init_89 : decode cX7_init 89 = .ok (.return_, 1) := by decide +kernel
theorem dX7_set_0 : decode cX7_set 0 = .ok (.aload_n 0, 1) := by decide +kernel
theorem dX7_set_1 : decode cX7_set 1 = .ok (.getfield 19, 3) := by decide +kernel
theorem dX7_set_4 : decode cX7_set 4 = .ok (.aload_n 0, 1) := by decide +kernel
theorem dX7_set_5 : decode cX7_set 5 = .ok (.getfield 10, 3) := by decide +kernel
theorem dX7_set_8 : decode cX7_set 8 = .ok (.invokevirtual 45, 3) := by decide +kernel
theorem dX7_set_11 : decode cX7_set 11 = .ok (.aload_n 0, 1) := by decide +kernel
theorem dX7_set_12 : decode cX7_set 12 = .ok (.getfield 19, 3) := by decide +kernel
theorem dX7_set_15 : decode cX7_set 15 = .ok (.aload_n 0, 1) := by decide +kernel
theorem dX7_set_16 : decode cX7_set 16 = .ok (.getfield 10, 3) := by decide +kernel
theorem dX7_set_19 : decode cX7_set 19 = .ok (.iload_n 1, 1) := by decide +kernel
theorem dX7_set_20 : decode cX7_set 20 = .ok (.iload_n 2, 1) := by decide +kernel
theorem dX7_set_21 : decode cX7_set 21 = .ok (.invokevirtual 49, 3) := by decide +kernel
theorem dX7_set_24 : decode cX7_set 24 = .ok (.invokevirtual 53, 3) := by decide +kernel
theorem dX7_set_27 : decode cX7_set 27 = .ok (.ireturn, 1) := by decide +kernel
theorem dX7_star_0 : decode cX7_star 0 = .ok (.aload_n 0, 1) := by decide +kernel
theorem dX7_star_1 : decode cX7_star 1 = .ok (.getfield 19, 3) := by decide +kernel
theorem dX7_star_4 : decode cX7_star 4 = .ok (.aload_n 0, 1) := by decide +kernel
theorem dX7_star_5 : decode cX7_star 5 = .ok (.getfield 10, 3) := by decide +kernel
theorem dX7_star_8 : decode cX7_star 8 = .ok (.invokevirtual 45, 3) := by decide +kernel
theorem dX7_star_11 : decode cX7_star 11 = .ok (.aload_n 0, 1) := by decide +kernel
theorem dX7_star_12 : decode cX7_star 12 = .ok (.getfield 19, 3) := by decide +kernel
theorem dX7_star_15 : decode cX7_star 15 = .ok (.aload_n 0, 1) := by decide +kernel
theorem dX7_star_16 : decode cX7_star 16 = .ok (.getfield 10, 3) := by decide +kernel
theorem dX7_star_19 : decode cX7_star 19 = .ok (.iload_n 1, 1) := by decide +kernel
theorem dX7_star_20 : decode cX7_star 20 = .ok (.invokevirtual 57, 3) := by decide +kernel
theorem dX7_star_23 : decode cX7_star 23 = .ok (.invokevirtual 53, 3) := by decide +kernel
theorem dX7_star_26 : decode cX7_star 26 = .ok (.ireturn, 1) := by decide +kernel
theorem dX7_cloud_0 : decode cX7_cloud 0 = .ok (.aload_n 0, 1) := by decide +kernel
theorem dX7_cloud_1 : decode cX7_cloud 1 = .ok (.getfield 19, 3) := by decide +kernel
theorem dX7_cloud_4 : decode cX7_cloud 4 = .ok (.aload_n 0, 1) := by decide +kernel
theorem dX7_cloud_5 : decode cX7_cloud 5 = .ok (.getfield 10, 3) := by decide +kernel
theorem dX7_cloud_8 : decode cX7_cloud 8 = .ok (.invokevirtual 45, 3) := by decide +kernel
theorem dX7_cloud_11 : decode cX7_cloud 11 = .ok (.aload_n 0, 1) := by decide +kernel
theorem dX7_cloud_12 : decode cX7_cloud 12 = .ok (.getfield 19, 3) := by decide +kernel
theorem dX7_cloud_15 : decode cX7_cloud 15 = .ok (.aload_n 0, 1) := by decide +kernel
theorem dX7_cloud_16 : decode cX7_cloud 16 = .ok (.getfield 10, 3) := by decide +kernel
theorem dX7_cloud_19 : decode cX7_cloud 19 = .ok (.iload_n 1, 1) := by decide +kernel
theorem dX7_cloud_20 : decode cX7_cloud 20 = .ok (.invokevirtual 60, 3) := by decide +kernel
theorem dX7_cloud_23 : decode cX7_cloud 23 = .ok (.invokevirtual 53, 3) := by decide +kernel
theorem dX7_cloud_26 : decode cX7_cloud 26 = .ok (.ireturn, 1) := by decide +kernel
theorem dX7_navigator_0 : decode cX7_navigator 0 = .ok (.aload_n 0, 1) := by decide +kernel
theorem dX7_navigator_1 : decode cX7_navigator 1 = .ok (.getfield 19, 3) := by decide +kernel
theorem dX7_navigator_4 : decode cX7_navigator 4 = .ok (.aload_n 0, 1) := by decide +kernel
theorem dX7_navigator_5 : decode cX7_navigator 5 = .ok (.getfield 10, 3) := by decide +kernel
theorem dX7_navigator_8 : decode cX7_navigator 8 = .ok (.invokevirtual 45, 3) := by decide +kernel
theorem dX7_navigator_11 : decode cX7_navigator 11 = .ok (.aload_n 0, 1) := by decide +kernel
theorem dX7_navigator_12 : decode cX7_navigator 12 = .ok (.getfield 19, 3) := by decide +kernel
theorem dX7_navigator_15 : decode cX7_navigator 15 = .ok (.aload_n 0, 1) := by decide +kernel
theorem dX7_navigator_16 : decode cX7_navigator 16 = .ok (.getfield 10, 3) := by decide +kernel
theorem dX7_navigator_19 : decode cX7_navigator 19 = .ok (.iload_n 1, 1) := by decide +kernel
theorem dX7_navigator_20 : decode cX7_navigator 20 = .ok (.iload_n 2, 1) := by decide +kernel
theorem dX7_navigator_21 : decode cX7_navigator 21 = .ok (.iload_n 3, 1) := by decide +kernel
theorem dX7_navigator_22 : decode cX7_navigator 22 = .ok (.invokevirtual 63, 3) := by decide +kernel
theorem dX7_navigator_25 : decode cX7_navigator 25 = .ok (.invokevirtual 53, 3) := by decide +kernel
theorem dX7_navigator_28 : decode cX7_navigator 28 = .ok (.ireturn, 1) := by decide +kernel
theorem dX7_sleep_0 : decode cX7_sleep 0 = .ok (.aload_n 0, 1) := by decide +kernel
theorem dX7_sleep_1 : decode cX7_sleep 1 = .ok (.getfield 19, 3) := by decide +kernel
theorem dX7_sleep_4 : decode cX7_sleep 4 = .ok (.aload_n 0, 1) := by decide +kernel
theorem dX7_sleep_5 : decode cX7_sleep 5 = .ok (.getfield 10, 3) := by decide +kernel
theorem dX7_sleep_8 : decode cX7_sleep 8 = .ok (.invokevirtual 45, 3) := by decide +kernel
theorem dX7_sleep_11 : decode cX7_sleep 11 = .ok (.aload_n 0, 1) := by decide +kernel
theorem dX7_sleep_12 : decode cX7_sleep 12 = .ok (.getfield 19, 3) := by decide +kernel
theorem dX7_sleep_15 : decode cX7_sleep 15 = .ok (.aload_n 0, 1) := by decide +kernel
theorem dX7_sleep_16 : decode cX7_sleep 16 = .ok (.getfield 10, 3) := by decide +kernel
theorem dX7_sleep_19 : decode cX7_sleep 19 = .ok (.iload_n 1, 1) := by decide +kernel
theorem dX7_sleep_20 : decode cX7_sleep 20 = .ok (.invokevirtual 67, 3) := by decide +kernel
theorem dX7_sleep_23 : decode cX7_sleep 23 = .ok (.invokevirtual 53, 3) := by decide +kernel
theorem dX7_sleep_26 : decode cX7_sleep 26 = .ok (.ireturn, 1) := by decide +kernel
theorem dX7_goal_0 : decode cX7_goal 0 = .ok (.aload_n 0, 1) := by decide +kernel
theorem dX7_goal_1 : decode cX7_goal 1 = .ok (.getfield 19, 3) := by decide +kernel
theorem dX7_goal_4 : decode cX7_goal 4 = .ok (.aload_n 0, 1) := by decide +kernel
theorem dX7_goal_5 : decode cX7_goal 5 = .ok (.getfield 10, 3) := by decide +kernel
theorem dX7_goal_8 : decode cX7_goal 8 = .ok (.invokevirtual 45, 3) := by decide +kernel
theorem dX7_goal_11 : decode cX7_goal 11 = .ok (.aload_n 0, 1) := by decide +kernel
theorem dX7_goal_12 : decode cX7_goal 12 = .ok (.getfield 19, 3) := by decide +kernel
theorem dX7_goal_15 : decode cX7_goal 15 = .ok (.aload_n 0, 1) := by decide +kernel
theorem dX7_goal_16 : decode cX7_goal 16 = .ok (.getfield 10, 3) := by decide +kernel
theorem dX7_goal_19 : decode cX7_goal 19 = .ok (.iload_n 1, 1) := by decide +kernel
theorem dX7_goal_20 : decode cX7_goal 20 = .ok (.invokevirtual 70, 3) := by decide +kernel
theorem dX7_goal_23 : decode cX7_goal 23 = .ok (.invokevirtual 53, 3) := by decide +kernel
theorem dX7_goal_26 : decode cX7_goal 26 = .ok (.ireturn, 1) := by decide +kernel
theorem dX7_sight_0 : decode cX7_sight 0 = .ok (.aload_n 0, 1) := by decide +kernel
theorem dX7_sight_1 : decode cX7_sight 1 = .ok (.getfield 19, 3) := by decide +kernel
theorem dX7_sight_4 : decode cX7_sight 4 = .ok (.aload_n 0, 1) := by decide +kernel
theorem dX7_sight_5 : decode cX7_sight 5 = .ok (.getfield 10, 3) := by decide +kernel
theorem dX7_sight_8 : decode cX7_sight 8 = .ok (.invokevirtual 45, 3) := by decide +kernel
theorem dX7_sight_11 : decode cX7_sight 11 = .ok (.aload_n 0, 1) := by decide +kernel
theorem dX7_sight_12 : decode cX7_sight 12 = .ok (.getfield 19, 3) := by decide +kernel
theorem dX7_sight_15 : decode cX7_sight 15 = .ok (.aload_n 0, 1) := by decide +kernel
theorem dX7_sight_16 : decode cX7_sight 16 = .ok (.getfield 10, 3) := by decide +kernel
theorem dX7_sight_19 : decode cX7_sight 19 = .ok (.iload_n 1, 1) := by decide +kernel
theorem dX7_sight_20 : decode cX7_sight 20 = .ok (.iload_n 2, 1) := by decide +kernel
theorem dX7_sight_21 : decode cX7_sight 21 = .ok (.invokevirtual 73, 3) := by decide +kernel
theorem dX7_sight_24 : decode cX7_sight 24 = .ok (.invokevirtual 53, 3) := by decide +kernel
theorem dX7_sight_27 : decode cX7_sight 27 = .ok (.ireturn, 1) := by decide +kernel
theorem dX7_agree_0 : decode cX7_agree 0 = .ok (.aload_n 0, 1) := by decide +kernel
theorem dX7_agree_1 : decode cX7_agree 1 = .ok (.getfield 19, 3) := by decide +kernel
theorem dX7_agree_4 : decode cX7_agree 4 = .ok (.aload_n 0, 1) := by decide +kernel
theorem dX7_agree_5 : decode cX7_agree 5 = .ok (.getfield 10, 3) := by decide +kernel
theorem dX7_agree_8 : decode cX7_agree 8 = .ok (.invokevirtual 45, 3) := by decide +kernel
theorem dX7_agree_11 : decode cX7_agree 11 = .ok (.aload_n 0, 1) := by decide +kernel
theorem dX7_agree_12 : decode cX7_agree 12 = .ok (.getfield 19, 3) := by decide +kernel
theorem dX7_agree_15 : decode cX7_agree 15 = .ok (.aload_n 0, 1) := by decide +kernel
theorem dX7_agree_16 : decode cX7_agree 16 = .ok (.getfield 10, 3) := by decide +kernel
theorem dX7_agree_19 : decode cX7_agree 19 = .ok (.invokevirtual 76, 3) := by decide +kernel
theorem dX7_agree_22 : decode cX7_agree 22 = .ok (.invokevirtual 53, 3) := by decide +kernel
theorem dX7_agree_25 : decode cX7_agree 25 = .ok (.ireturn, 1) := by decide +kernel
theorem dX7_sail_0 : decode cX7_sail 0 = .ok (.aload_n 0, 1) := by decide +kernel
theorem dX7_sail_1 : decode cX7_sail 1 = .ok (.getfield 19, 3) := by decide +kernel
theorem dX7_sail_4 : decode cX7_sail 4 = .ok (.aload_n 0, 1) := by decide +kernel
theorem dX7_sail_5 : decode cX7_sail 5 = .ok (.getfield 10, 3) := by decide +kernel
theorem dX7_sail_8 : decode cX7_sail 8 = .ok (.invokevirtual 45, 3) := by decide +kernel
theorem dX7_sail_11 : decode cX7_sail 11 = .ok (.aload_n 0, 1) := by decide +kernel
theorem dX7_sail_12 : decode cX7_sail 12 = .ok (.getfield 19, 3) := by decide +kernel
theorem dX7_sail_15 : decode cX7_sail 15 = .ok (.aload_n 0, 1) := by decide +kernel
theorem dX7_sail_16 : decode cX7_sail 16 = .ok (.getfield 10, 3) := by decide +kernel
theorem dX7_sail_19 : decode cX7_sail 19 = .ok (.iload_n 1, 1) := by decide +kernel
theorem dX7_sail_20 : decode cX7_sail 20 = .ok (.invokevirtual 80, 3) := by decide +kernel
theorem dX7_sail_23 : decode cX7_sail 23 = .ok (.invokevirtual 53, 3) := by decide +kernel
theorem dX7_sail_26 : decode cX7_sail 26 = .ok (.ireturn, 1) := by decide +kernel
theorem dX7_night_0 : decode cX7_night 0 = .ok (.aload_n 0, 1) := by decide +kernel
theorem dX7_night_1 : decode cX7_night 1 = .ok (.getfield 19, 3) := by decide +kernel
theorem dX7_night_4 : decode cX7_night 4 = .ok (.aload_n 0, 1) := by decide +kernel
theorem dX7_night_5 : decode cX7_night 5 = .ok (.getfield 10, 3) := by decide +kernel
theorem dX7_night_8 : decode cX7_night 8 = .ok (.invokevirtual 45, 3) := by decide +kernel
theorem dX7_night_11 : decode cX7_night 11 = .ok (.aload_n 0, 1) := by decide +kernel
theorem dX7_night_12 : decode cX7_night 12 = .ok (.getfield 19, 3) := by decide +kernel
theorem dX7_night_15 : decode cX7_night 15 = .ok (.aload_n 0, 1) := by decide +kernel
theorem dX7_night_16 : decode cX7_night 16 = .ok (.getfield 10, 3) := by decide +kernel
theorem dX7_night_19 : decode cX7_night 19 = .ok (.invokevirtual 83, 3) := by decide +kernel
end
section
theorem dX7_night_22 : decode cX7_night 22 = .ok (.invokevirtual 53, 3) := by decide +kernel
theorem dX7_night_25 : decode cX7_night 25 = .ok (.ireturn, 1) := by decide +kernel
theorem dX7_of_0 : decode cX7_of 0 = .ok (.iload_n 1, 1) := by decide +kernel
theorem dX7_of_1 : decode cX7_of 1 = .ok (.invokestatic 86, 3) := by decide +kernel
theorem dX7_of_4 : decode cX7_of 4 = .ok (.ifCond .eq 18, 3) := by decide +kernel
theorem dX7_of_7 : decode cX7_of 7 = .ok (.aload_n 0, 1) := by decide +kernel
theorem dX7_of_8 : decode cX7_of 8 = .ok (.getfield 10, 3) := by decide +kernel
theorem dX7_of_11 : decode cX7_of 11 = .ok (.getfield 90, 3) := by decide +kernel
theorem dX7_of_14 : decode cX7_of 14 = .ok (.iload_n 1, 1) := by decide +kernel
theorem dX7_of_15 : decode cX7_of 15 = .ok (.iload_n 2, 1) := by decide +kernel
theorem dX7_of_16 : decode cX7_of 16 = .ok (.invokevirtual 94, 3) := by decide +kernel
theorem dX7_of_19 : decode cX7_of 19 = .ok (.goto 4, 3) := by decide +kernel
theorem dX7_of_22 : decode cX7_of 22 = .ok (.iconst (-1), 1) := by decide +kernel
theorem dX7_of_23 : decode cX7_of 23 = .ok (.ireturn, 1) := by decide +kernel
theorem dX7_ofStar_0 : decode cX7_ofStar 0 = .ok (.aload_n 0, 1) := by decide +kernel
theorem dX7_ofStar_1 : decode cX7_ofStar 1 = .ok (.getfield 10, 3) := by decide +kernel
theorem dX7_ofStar_4 : decode cX7_ofStar 4 = .ok (.getfield 99, 3) := by decide +kernel
theorem dX7_ofStar_7 : decode cX7_ofStar 7 = .ok (.iload_n 1, 1) := by decide +kernel
theorem dX7_ofStar_8 : decode cX7_ofStar 8 = .ok (.invokevirtual 103, 3) := by decide +kernel
theorem dX7_ofStar_11 : decode cX7_ofStar 11 = .ok (.ifCond .eq 15, 3) := by decide +kernel
theorem dX7_ofStar_14 : decode cX7_ofStar 14 = .ok (.aload_n 0, 1) := by decide +kernel
theorem dX7_ofStar_15 : decode cX7_ofStar 15 = .ok (.getfield 10, 3) := by decide +kernel
theorem dX7_ofStar_18 : decode cX7_ofStar 18 = .ok (.iload_n 1, 1) := by decide +kernel
theorem dX7_ofStar_19 : decode cX7_ofStar 19 = .ok (.iload_n 2, 1) := by decide +kernel
theorem dX7_ofStar_20 : decode cX7_ofStar 20 = .ok (.invokevirtual 108, 3) := by decide +kernel
theorem dX7_ofStar_23 : decode cX7_ofStar 23 = .ok (.goto 4, 3) := by decide +kernel
theorem dX7_ofStar_26 : decode cX7_ofStar 26 = .ok (.iconst (-1), 1) := by decide +kernel
theorem dX7_ofStar_27 : decode cX7_ofStar 27 = .ok (.ireturn, 1) := by decide +kernel
theorem dX7_log_0 : decode cX7_log 0 = .ok (.aload_n 0, 1) := by decide +kernel
theorem dX7_log_1 : decode cX7_log 1 = .ok (.getfield 10, 3) := by decide +kernel
theorem dX7_log_4 : decode cX7_log 4 = .ok (.iload_n 1, 1) := by decide +kernel
theorem dX7_log_5 : decode cX7_log 5 = .ok (.iload_n 2, 1) := by decide +kernel
theorem dX7_log_6 : decode cX7_log 6 = .ok (.invokevirtual 111, 3) := by decide +kernel
theorem dX7_log_9 : decode cX7_log 9 = .ok (.ireturn, 1) := by decide +kernel
theorem dX7_count_0 : decode cX7_count 0 = .ok (.iload_n 1, 1) := by decide +kernel
theorem dX7_count_1 : decode cX7_count 1 = .ok (.bipush 15, 2) := by decide +kernel
theorem dX7_count_3 : decode cX7_count 3 = .ok (.if_icmp .ne 11, 3) := by decide +kernel
theorem dX7_count_6 : decode cX7_count 6 = .ok (.aload_n 0, 1) := by decide +kernel
theorem dX7_count_7 : decode cX7_count 7 = .ok (.getfield 26, 3) := by decide +kernel
theorem dX7_count_10 : decode cX7_count 10 = .ok (.getfield 114, 3) := by decide +kernel
theorem dX7_count_13 : decode cX7_count 13 = .ok (.ireturn, 1) := by decide +kernel
theorem dX7_count_14 : decode cX7_count 14 = .ok (.iload_n 1, 1) := by decide +kernel
theorem dX7_count_15 : decode cX7_count 15 = .ok (.bipush 16, 2) := by decide +kernel
theorem dX7_count_17 : decode cX7_count 17 = .ok (.if_icmp .ne 11, 3) := by decide +kernel
theorem dX7_count_20 : decode cX7_count 20 = .ok (.aload_n 0, 1) := by decide +kernel
theorem dX7_count_21 : decode cX7_count 21 = .ok (.getfield 19, 3) := by decide +kernel
theorem dX7_count_24 : decode cX7_count 24 = .ok (.getfield 118, 3) := by decide +kernel
theorem dX7_count_27 : decode cX7_count 27 = .ok (.ireturn, 1) := by decide +kernel
theorem dX7_count_28 : decode cX7_count 28 = .ok (.aload_n 0, 1) := by decide +kernel
theorem dX7_count_29 : decode cX7_count 29 = .ok (.getfield 10, 3) := by decide +kernel
theorem dX7_count_32 : decode cX7_count 32 = .ok (.iload_n 1, 1) := by decide +kernel
theorem dX7_count_33 : decode cX7_count 33 = .ok (.invokevirtual 121, 3) := by decide +kernel
theorem dX7_count_36 : decode cX7_count 36 = .ok (.ireturn, 1) := by decide +kernel
theorem dX7_why_0 : decode cX7_why 0 = .ok (.aload_n 0, 1) := by decide +kernel
theorem dX7_why_1 : decode cX7_why 1 = .ok (.getfield 10, 3) := by decide +kernel
theorem dX7_why_4 : decode cX7_why 4 = .ok (.iload_n 1, 1) := by decide +kernel
theorem dX7_why_5 : decode cX7_why 5 = .ok (.iload_n 2, 1) := by decide +kernel
theorem dX7_why_6 : decode cX7_why 6 = .ok (.invokevirtual 124, 3) := by decide +kernel
theorem dX7_why_9 : decode cX7_why 9 = .ok (.ireturn, 1) := by decide +kernel
theorem dX7_ifSighted_0 : decode cX7_ifSighted 0 = .ok (.aload_n 0, 1) := by decide +kernel
theorem dX7_ifSighted_1 : decode cX7_ifSighted 1 = .ok (.getfield 10, 3) := by decide +kernel
theorem dX7_ifSighted_4 : decode cX7_ifSighted 4 = .ok (.iload_n 1, 1) := by decide +kernel
theorem dX7_ifSighted_5 : decode cX7_ifSighted 5 = .ok (.iload_n 2, 1) := by decide +kernel
theorem dX7_ifSighted_6 : decode cX7_ifSighted 6 = .ok (.invokevirtual 127, 3) := by decide +kernel
theorem dX7_ifSighted_9 : decode cX7_ifSighted 9 = .ok (.ireturn, 1) := by decide +kernel
theorem dX7_median_0 : decode cX7_median 0 = .ok (.iload_n 1, 1) := by decide +kernel
theorem dX7_median_1 : decode cX7_median 1 = .ok (.bipush (-6), 2) := by decide +kernel
theorem dX7_median_3 : decode cX7_median 3 = .ok (.if_icmp .eq 12, 3) := by decide +kernel
theorem dX7_median_6 : decode cX7_median 6 = .ok (.iload_n 1, 1) := by decide +kernel
theorem dX7_median_7 : decode cX7_median 7 = .ok (.invokestatic 86, 3) := by decide +kernel
theorem dX7_median_10 : decode cX7_median 10 = .ok (.ifCond .ne 5, 3) := by decide +kernel
theorem dX7_median_13 : decode cX7_median 13 = .ok (.iconst (-1), 1) := by decide +kernel
theorem dX7_median_14 : decode cX7_median 14 = .ok (.ireturn, 1) := by decide +kernel
theorem dX7_median_15 : decode cX7_median 15 = .ok (.aload_n 0, 1) := by decide +kernel
theorem dX7_median_16 : decode cX7_median 16 = .ok (.getfield 10, 3) := by decide +kernel
theorem dX7_median_19 : decode cX7_median 19 = .ok (.getfield 90, 3) := by decide +kernel
theorem dX7_median_22 : decode cX7_median 22 = .ok (.iload_n 1, 1) := by decide +kernel
theorem dX7_median_23 : decode cX7_median 23 = .ok (.invokevirtual 130, 3) := by decide +kernel
theorem dX7_median_26 : decode cX7_median 26 = .ok (.istore_n 2, 1) := by decide +kernel
theorem dX7_median_27 : decode cX7_median 27 = .ok (.iload_n 2, 1) := by decide +kernel
theorem dX7_median_28 : decode cX7_median 28 = .ok (.sipush 9999, 3) := by decide +kernel
theorem dX7_median_31 : decode cX7_median 31 = .ok (.if_icmp .ne 8, 3) := by decide +kernel
theorem dX7_median_34 : decode cX7_median 34 = .ok (.bipush (-5), 2) := by decide +kernel
theorem dX7_median_36 : decode cX7_median 36 = .ok (.goto 8, 3) := by decide +kernel
theorem dX7_median_39 : decode cX7_median 39 = .ok (.iload_n 2, 1) := by decide +kernel
theorem dX7_median_40 : decode cX7_median 40 = .ok (.sipush 5400, 3) := by decide +kernel
theorem dX7_median_43 : decode cX7_median 43 = .ok (.iadd, 1) := by decide +kernel
theorem dX7_median_44 : decode cX7_median 44 = .ok (.ireturn, 1) := by decide +kernel
theorem dX7_bestStar_0 : decode cX7_bestStar 0 = .ok (.aload_n 0, 1) := by decide +kernel
theorem dX7_bestStar_1 : decode cX7_bestStar 1 = .ok (.getfield 10, 3) := by decide +kernel
theorem dX7_bestStar_4 : decode cX7_bestStar 4 = .ok (.invokevirtual 133, 3) := by decide +kernel
theorem dX7_bestStar_7 : decode cX7_bestStar 7 = .ok (.ireturn, 1) := by decide +kernel
theorem dX7_nearest_0 : decode cX7_nearest 0 = .ok (.aload_n 0, 1) := by decide +kernel
theorem dX7_nearest_1 : decode cX7_nearest 1 = .ok (.getfield 10, 3) := by decide +kernel
theorem dX7_nearest_4 : decode cX7_nearest 4 = .ok (.iload_n 1, 1) := by decide +kernel
theorem dX7_nearest_5 : decode cX7_nearest 5 = .ok (.invokevirtual 136, 3) := by decide +kernel
theorem dX7_nearest_8 : decode cX7_nearest 8 = .ok (.ireturn, 1) := by decide +kernel
theorem dX7_arrivesIn_0 : decode cX7_arrivesIn 0 = .ok (.aload_n 0, 1) := by decide +kernel
theorem dX7_arrivesIn_1 : decode cX7_arrivesIn 1 = .ok (.getfield 10, 3) := by decide +kernel
theorem dX7_arrivesIn_4 : decode cX7_arrivesIn 4 = .ok (.iload_n 1, 1) := by decide +kernel
theorem dX7_arrivesIn_5 : decode cX7_arrivesIn 5 = .ok (.aload_n 0, 1) := by decide +kernel
theorem dX7_arrivesIn_6 : decode cX7_arrivesIn 6 = .ok (.getfield 41, 3) := by decide +kernel
theorem dX7_arrivesIn_9 : decode cX7_arrivesIn 9 = .ok (.invokevirtual 139, 3) := by decide +kernel
theorem dX7_arrivesIn_12 : decode cX7_arrivesIn 12 = .ok (.ireturn, 1) := by decide +kernel
theorem dX7_put_0 : decode cX7_put 0 = .ok (.aload_n 0, 1) := by decide +kernel
theorem dX7_put_1 : decode cX7_put 1 = .ok (.getfield 26, 3) := by decide +kernel
theorem dX7_put_4 : decode cX7_put 4 = .ok (.lload_n 1, 1) := by decide +kernel
theorem dX7_put_5 : decode cX7_put 5 = .ok (.invokevirtual 143, 3) := by decide +kernel
theorem dX7_put_8 : decode cX7_put 8 = .ok (.ireturn, 1) := by decide +kernel
theorem dX7_wipe_0 : decode cX7_wipe 0 = .ok (.aload_n 0, 1) := by decide +kernel
theorem dX7_wipe_1 : decode cX7_wipe 1 = .ok (.getfield 26, 3) := by decide +kernel
theorem dX7_wipe_4 : decode cX7_wipe 4 = .ok (.invokevirtual 147, 3) := by decide +kernel
theorem dX7_wipe_7 : decode cX7_wipe 7 = .ok (.ireturn, 1) := by decide +kernel
theorem dX7_fault_0 : decode cX7_fault 0 = .ok (.aload_n 0, 1) := by decide +kernel
theorem dX7_fault_1 : decode cX7_fault 1 = .ok (.getfield 26, 3) := by decide +kernel
theorem dX7_fault_4 : decode cX7_fault 4 = .ok (.invokevirtual 150, 3) := by decide +kernel
theorem dX7_fault_7 : decode cX7_fault 7 = .ok (.ireturn, 1) := by decide +kernel
theorem dX7_carryOut_0 : decode cX7_carryOut 0 = .ok (.aload_n 0, 1) := by decide +kernel
theorem dX7_carryOut_1 : decode cX7_carryOut 1 = .ok (.getfield 26, 3) := by decide +kernel
theorem dX7_carryOut_4 : decode cX7_carryOut 4 = .ok (.invokevirtual 150, 3) := by decide +kernel
theorem dX7_carryOut_7 : decode cX7_carryOut 7 = .ok (.bipush (-6), 2) := by decide +kernel
theorem dX7_carryOut_9 : decode cX7_carryOut 9 = .ok (.if_icmp .eq 6, 3) := by decide +kernel
theorem dX7_carryOut_12 : decode cX7_carryOut 12 = .ok (.bipush (-3), 2) := by decide +kernel
theorem dX7_carryOut_14 : decode cX7_carryOut 14 = .ok (.ireturn, 1) := by decide +kernel
theorem dX7_carryOut_15 : decode cX7_carryOut 15 = .ok (.aload_n 0, 1) := by decide +kernel
theorem dX7_carryOut_16 : decode cX7_carryOut 16 = .ok (.getfield 19, 3) := by decide +kernel
theorem dX7_carryOut_19 : decode cX7_carryOut 19 = .ok (.aload_n 0, 1) := by decide +kernel
theorem dX7_carryOut_20 : decode cX7_carryOut 20 = .ok (.getfield 10, 3) := by decide +kernel
theorem dX7_carryOut_23 : decode cX7_carryOut 23 = .ok (.invokevirtual 45, 3) := by decide +kernel
theorem dX7_carryOut_26 : decode cX7_carryOut 26 = .ok (.aload_n 0, 1) := by decide +kernel
theorem dX7_carryOut_27 : decode cX7_carryOut 27 = .ok (.getfield 26, 3) := by decide +kernel
theorem dX7_carryOut_30 : decode cX7_carryOut 30 = .ok (.invokevirtual 153, 3) := by decide +kernel
theorem dX7_carryOut_33 : decode cX7_carryOut 33 = .ok (.iconst 0, 1) := by decide +kernel
theorem dX7_carryOut_34 : decode cX7_carryOut 34 = .ok (.istore_n 1, 1) := by decide +kernel
theorem dX7_carryOut_35 : decode cX7_carryOut 35 = .ok (.iload_n 1, 1) := by decide +kernel
theorem dX7_carryOut_36 : decode cX7_carryOut 36 = .ok (.bipush 80, 2) := by decide +kernel
theorem dX7_carryOut_38 : decode cX7_carryOut 38 = .ok (.if_icmp .ge 33, 3) := by decide +kernel
theorem dX7_carryOut_41 : decode cX7_carryOut 41 = .ok (.aload_n 0, 1) := by decide +kernel
theorem dX7_carryOut_42 : decode cX7_carryOut 42 = .ok (.getfield 26, 3) := by decide +kernel
theorem dX7_carryOut_45 : decode cX7_carryOut 45 = .ok (.invokevirtual 156, 3) := by decide +kernel
theorem dX7_carryOut_48 : decode cX7_carryOut 48 = .ok (.ifCond .eq 23, 3) := by decide +kernel
theorem dX7_carryOut_51 : decode cX7_carryOut 51 = .ok (.aload_n 0, 1) := by decide +kernel
theorem dX7_carryOut_52 : decode cX7_carryOut 52 = .ok (.invokevirtual 160, 3) := by decide +kernel
theorem dX7_carryOut_55 : decode cX7_carryOut 55 = .ok (.ifCond .lt 16, 3) := by decide +kernel
theorem dX7_carryOut_58 : decode cX7_carryOut 58 = .ok (.iinc 1 1, 3) := by decide +kernel
theorem dX7_carryOut_61 : decode cX7_carryOut 61 = .ok (.aload_n 0, 1) := by decide +kernel
theorem dX7_carryOut_62 : decode cX7_carryOut 62 = .ok (.getfield 26, 3) := by decide +kernel
theorem dX7_carryOut_65 : decode cX7_carryOut 65 = .ok (.invokevirtual 163, 3) := by decide +kernel
theorem dX7_carryOut_68 : decode cX7_carryOut 68 = .ok (.goto (-33), 3) := by decide +kernel
theorem dX7_carryOut_71 : decode cX7_carryOut 71 = .ok (.aload_n 0, 1) := by decide +kernel
theorem dX7_carryOut_72 : decode cX7_carryOut 72 = .ok (.getfield 26, 3) := by decide +kernel
theorem dX7_carryOut_75 : decode cX7_carryOut 75 = .ok (.invokevirtual 147, 3) := by decide +kernel
theorem dX7_carryOut_78 : decode cX7_carryOut 78 = .ok (.pop, 1) := by decide +kernel
theorem dX7_carryOut_79 : decode cX7_carryOut 79 = .ok (.aload_n 0, 1) := by decide +kernel
theorem dX7_carryOut_80 : decode cX7_carryOut 80 = .ok (.getfield 19, 3) := by decide +kernel
theorem dX7_carryOut_83 : decode cX7_carryOut 83 = .ok (.iload_n 1, 1) := by decide +kernel
theorem dX7_carryOut_84 : decode cX7_carryOut 84 = .ok (.invokevirtual 53, 3) := by decide +kernel
theorem dX7_carryOut_87 : decode cX7_carryOut 87 = .ok (.ireturn, 1) := by decide +kernel
theorem dX7_undo_0 : decode cX7_undo 0 = .ok (.aload_n 0, 1) := by decide +kernel
theorem dX7_undo_1 : decode cX7_undo 1 = .ok (.getfield 19, 3) := by decide +kernel
theorem dX7_undo_4 : decode cX7_undo 4 = .ok (.aload_n 0, 1) := by decide +kernel
theorem dX7_undo_5 : decode cX7_undo 5 = .ok (.getfield 10, 3) := by decide +kernel
theorem dX7_undo_8 : decode cX7_undo 8 = .ok (.invokevirtual 166, 3) := by decide +kernel
theorem dX7_undo_11 : decode cX7_undo 11 = .ok (.ireturn, 1) := by decide +kernel
theorem dX7_save_0 : decode cX7_save 0 = .ok (.iload_n 1, 1) := by decide +kernel
theorem dX7_save_1 : decode cX7_save 1 = .ok (.invokestatic 170, 3) := by decide +kernel
theorem dX7_save_4 : decode cX7_save 4 = .ok (.ifCond .ne 6, 3) := by decide +kernel
theorem dX7_save_7 : decode cX7_save 7 = .ok (.bipush (-2), 2) := by decide +kernel
theorem dX7_save_9 : decode cX7_save 9 = .ok (.ireturn, 1) := by decide +kernel
theorem dX7_save_10 : decode cX7_save 10 = .ok (.aload_n 0, 1) := by decide +kernel
theorem dX7_save_11 : decode cX7_save 11 = .ok (.getfield 30, 3) := by decide +kernel
theorem dX7_save_14 : decode cX7_save 14 = .ok (.iload_n 1, 1) := by decide +kernel
theorem dX7_save_15 : decode cX7_save 15 = .ok (.aaload, 1) := by decide +kernel
theorem dX7_save_16 : decode cX7_save 16 = .ok (.aload_n 0, 1) := by decide +kernel
theorem dX7_save_17 : decode cX7_save 17 = .ok (.getfield 10, 3) := by decide +kernel
theorem dX7_save_20 : decode cX7_save 20 = .ok (.invokevirtual 173, 3) := by decide +kernel
theorem dX7_save_23 : decode cX7_save 23 = .ok (.aload_n 0, 1) := by decide +kernel
theorem dX7_save_24 : decode cX7_save 24 = .ok (.getfield 34, 3) := by decide +kernel
theorem dX7_save_27 : decode cX7_save 27 = .ok (.iload_n 1, 1) := by decide +kernel
theorem dX7_save_28 : decode cX7_save 28 = .ok (.iconst 1, 1) := by decide +kernel
theorem dX7_save_29 : decode cX7_save 29 = .ok (.bastore, 1) := by decide +kernel
theorem dX7_save_30 : decode cX7_save 30 = .ok (.aload_n 0, 1) := by decide +kernel
theorem dX7_save_31 : decode cX7_save 31 = .ok (.getfield 10, 3) := by decide +kernel
theorem dX7_save_34 : decode cX7_save 34 = .ok (.getfield 99, 3) := by decide +kernel
theorem dX7_save_37 : decode cX7_save 37 = .ok (.getfield 176, 3) := by decide +kernel
theorem dX7_save_40 : decode cX7_save 40 = .ok (.ireturn, 1) := by decide +kernel
theorem dX7_restore_0 : decode cX7_restore 0 = .ok (.iload_n 1, 1) := by decide +kernel
theorem dX7_restore_1 : decode cX7_restore 1 = .ok (.invokestatic 170, 3) := by decide +kernel
theorem dX7_restore_4 : decode cX7_restore 4 = .ok (.ifCond .ne 6, 3) := by decide +kernel
theorem dX7_restore_7 : decode cX7_restore 7 = .ok (.bipush (-2), 2) := by decide +kernel
theorem dX7_restore_9 : decode cX7_restore 9 = .ok (.ireturn, 1) := by decide +kernel
theorem dX7_restore_10 : decode cX7_restore 10 = .ok (.aload_n 0, 1) := by decide +kernel
theorem dX7_restore_11 : decode cX7_restore 11 = .ok (.getfield 34, 3) := by decide +kernel
theorem dX7_restore_14 : decode cX7_restore 14 = .ok (.iload_n 1, 1) := by decide +kernel
theorem dX7_restore_15 : decode cX7_restore 15 = .ok (.baload, 1) := by decide +kernel
theorem dX7_restore_16 : decode cX7_restore 16 = .ok (.ifCond .ne 6, 3) := by decide +kernel
theorem dX7_restore_19 : decode cX7_restore 19 = .ok (.bipush (-5), 2) := by decide +kernel
theorem dX7_restore_21 : decode cX7_restore 21 = .ok (.ireturn, 1) := by decide +kernel
theorem dX7_restore_22 : decode cX7_restore 22 = .ok (.aload_n 0, 1) := by decide +kernel
theorem dX7_restore_23 : decode cX7_restore 23 = .ok (.getfield 19, 3) := by decide +kernel
theorem dX7_restore_26 : decode cX7_restore 26 = .ok (.aload_n 0, 1) := by decide +kernel
theorem dX7_restore_27 : decode cX7_restore 27 = .ok (.getfield 10, 3) := by decide +kernel
theorem dX7_restore_30 : decode cX7_restore 30 = .ok (.invokevirtual 45, 3) := by decide +kernel
theorem dX7_restore_33 : decode cX7_restore 33 = .ok (.aload_n 0, 1) := by decide +kernel
theorem dX7_restore_34 : decode cX7_restore 34 = .ok (.getfield 10, 3) := by decide +kernel
theorem dX7_restore_37 : decode cX7_restore 37 = .ok (.aload_n 0, 1) := by decide +kernel
theorem dX7_restore_38 : decode cX7_restore 38 = .ok (.getfield 30, 3) := by decide +kernel
theorem dX7_restore_41 : decode cX7_restore 41 = .ok (.iload_n 1, 1) := by decide +kernel
theorem dX7_restore_42 : decode cX7_restore 42 = .ok (.aaload, 1) := by decide +kernel
theorem dX7_restore_43 : decode cX7_restore 43 = .ok (.invokevirtual 173, 3) := by decide +kernel
theorem dX7_restore_46 : decode cX7_restore 46 = .ok (.aload_n 0, 1) := by decide +kernel
theorem dX7_restore_47 : decode cX7_restore 47 = .ok (.getfield 19, 3) := by decide +kernel
theorem dX7_restore_50 : decode cX7_restore 50 = .ok (.aload_n 0, 1) := by decide +kernel
theorem dX7_restore_51 : decode cX7_restore 51 = .ok (.getfield 10, 3) := by decide +kernel
theorem dX7_restore_54 : decode cX7_restore 54 = .ok (.getfield 99, 3) := by decide +kernel
theorem dX7_restore_57 : decode cX7_restore 57 = .ok (.getfield 176, 3) := by decide +kernel
theorem dX7_restore_60 : decode cX7_restore 60 = .ok (.invokevirtual 53, 3) := by decide +kernel
theorem dX7_restore_63 : decode cX7_restore 63 = .ok (.ireturn, 1) := by decide +kernel
theorem dX7_obeyOrder_0 : decode cX7_obeyOrder 0 = .ok (.aload_n 0, 1) := by decide +kernel
theorem dX7_obeyOrder_1 : decode cX7_obeyOrder 1 = .ok (.getfield 26, 3) := by decide +kernel
theorem dX7_obeyOrder_4 : decode cX7_obeyOrder 4 = .ok (.getfield 179, 3) := by decide +kernel
theorem dX7_obeyOrder_7 : decode cX7_obeyOrder 7 = .ok (.lookupswitch 186 #[(42, 73), (99, 88), (103, 171), (109, 125), (110, 148), (111, 103), (115, 133), (122, 156)], 73) := by decide +kernel
theorem dX7_obeyOrder_80 : decode cX7_obeyOrder 80 = .ok (.aload_n 0, 1) := by decide +kernel
theorem dX7_obeyOrder_81 : decode cX7_obeyOrder 81 = .ok (.getfield 10, 3) := by decide +kernel
theorem dX7_obeyOrder_84 : decode cX7_obeyOrder 84 = .ok (.aload_n 0, 1) := by decide +kernel
theorem dX7_obeyOrder_85 : decode cX7_obeyOrder 85 = .ok (.getfield 26, 3) := by decide +kernel
theorem dX7_obeyOrder_88 : decode cX7_obeyOrder 88 = .ok (.getfield 182, 3) := by decide +kernel
theorem dX7_obeyOrder_91 : decode cX7_obeyOrder 91 = .ok (.invokevirtual 57, 3) := by decide +kernel
theorem dX7_obeyOrder_94 : decode cX7_obeyOrder 94 = .ok (.ireturn, 1) := by decide +kernel
theorem dX7_obeyOrder_95 : decode cX7_obeyOrder 95 = .ok (.aload_n 0, 1) := by decide +kernel
theorem dX7_obeyOrder_96 : decode cX7_obeyOrder 96 = .ok (.getfield 10, 3) := by decide +kernel
theorem dX7_obeyOrder_99 : decode cX7_obeyOrder 99 = .ok (.aload_n 0, 1) := by decide +kernel
theorem dX7_obeyOrder_100 : decode cX7_obeyOrder 100 = .ok (.getfield 26, 3) := by decide +kernel
theorem dX7_obeyOrder_103 : decode cX7_obeyOrder 103 = .ok (.getfield 182, 3) := by decide +kernel
theorem dX7_obeyOrder_106 : decode cX7_obeyOrder 106 = .ok (.invokevirtual 60, 3) := by decide +kernel
theorem dX7_obeyOrder_109 : decode cX7_obeyOrder 109 = .ok (.ireturn, 1) := by decide +kernel
theorem dX7_obeyOrder_110 : decode cX7_obeyOrder 110 = .ok (.aload_n 0, 1) := by decide +kernel
theorem dX7_obeyOrder_111 : decode cX7_obeyOrder 111 = .ok (.getfield 10, 3) := by decide +kernel
theorem dX7_obeyOrder_114 : decode cX7_obeyOrder 114 = .ok (.aload_n 0, 1) := by decide +kernel
theorem dX7_obeyOrder_115 : decode cX7_obeyOrder 115 = .ok (.getfield 26, 3) := by decide +kernel
theorem dX7_obeyOrder_118 : decode cX7_obeyOrder 118 = .ok (.getfield 182, 3) := by decide +kernel
theorem dX7_obeyOrder_121 : decode cX7_obeyOrder 121 = .ok (.aload_n 0, 1) := by decide +kernel
theorem dX7_obeyOrder_122 : decode cX7_obeyOrder 122 = .ok (.getfield 26, 3) := by decide +kernel
theorem dX7_obeyOrder_125 : decode cX7_obeyOrder 125 = .ok (.getfield 185, 3) := by decide +kernel
theorem dX7_obeyOrder_128 : decode cX7_obeyOrder 128 = .ok (.invokevirtual 73, 3) := by decide +kernel
theorem dX7_obeyOrder_131 : decode cX7_obeyOrder 131 = .ok (.ireturn, 1) := by decide +kernel
theorem dX7_obeyOrder_132 : decode cX7_obeyOrder 132 = .ok (.aload_n 0, 1) := by decide +kernel
theorem dX7_obeyOrder_133 : decode cX7_obeyOrder 133 = .ok (.getfield 10, 3) := by decide +kernel
theorem dX7_obeyOrder_136 : decode cX7_obeyOrder 136 = .ok (.invokevirtual 76, 3) := by decide +kernel
theorem dX7_obeyOrder_139 : decode cX7_obeyOrder 139 = .ok (.ireturn, 1) := by decide +kernel
theorem dX7_obeyOrder_140 : decode cX7_obeyOrder 140 = .ok (.aload_n 0, 1) := by decide +kernel
theorem dX7_obeyOrder_141 : decode cX7_obeyOrder 141 = .ok (.getfield 10, 3) := by decide +kernel
theorem dX7_obeyOrder_144 : decode cX7_obeyOrder 144 = .ok (.aload_n 0, 1) := by decide +kernel
theorem dX7_obeyOrder_145 : decode cX7_obeyOrder 145 = .ok (.getfield 26, 3) := by decide +kernel
theorem dX7_obeyOrder_148 : decode cX7_obeyOrder 148 = .ok (.getfield 182, 3) := by decide +kernel
theorem dX7_obeyOrder_151 : decode cX7_obeyOrder 151 = .ok (.invokevirtual 80, 3) := by decide +kernel
theorem dX7_obeyOrder_154 : decode cX7_obeyOrder 154 = .ok (.ireturn, 1) := by decide +kernel
theorem dX7_obeyOrder_155 : decode cX7_obeyOrder 155 = .ok (.aload_n 0, 1) := by decide +kernel
theorem dX7_obeyOrder_156 : decode cX7_obeyOrder 156 = .ok (.getfield 10, 3) := by decide +kernel
theorem dX7_obeyOrder_159 : decode cX7_obeyOrder 159 = .ok (.invokevirtual 83, 3) := by decide +kernel
theorem dX7_obeyOrder_162 : decode cX7_obeyOrder 162 = .ok (.ireturn, 1) := by decide +kernel
theorem dX7_obeyOrder_163 : decode cX7_obeyOrder 163 = .ok (.aload_n 0, 1) := by decide +kernel
theorem dX7_obeyOrder_164 : decode cX7_obeyOrder 164 = .ok (.getfield 10, 3) := by decide +kernel
theorem dX7_obeyOrder_167 : decode cX7_obeyOrder 167 = .ok (.aload_n 0, 1) := by decide +kernel
theorem dX7_obeyOrder_168 : decode cX7_obeyOrder 168 = .ok (.getfield 26, 3) := by decide +kernel
theorem dX7_obeyOrder_171 : decode cX7_obeyOrder 171 = .ok (.getfield 182, 3) := by decide +kernel
theorem dX7_obeyOrder_174 : decode cX7_obeyOrder 174 = .ok (.invokevirtual 67, 3) := by decide +kernel
theorem dX7_obeyOrder_177 : decode cX7_obeyOrder 177 = .ok (.ireturn, 1) := by decide +kernel
theorem dX7_obeyOrder_178 : decode cX7_obeyOrder 178 = .ok (.aload_n 0, 1) := by decide +kernel
theorem dX7_obeyOrder_179 : decode cX7_obeyOrder 179 = .ok (.getfield 10, 3) := by decide +kernel
theorem dX7_obeyOrder_182 : decode cX7_obeyOrder 182 = .ok (.aload_n 0, 1) := by decide +kernel
theorem dX7_obeyOrder_183 : decode cX7_obeyOrder 183 = .ok (.getfield 26, 3) := by decide +kernel
theorem dX7_obeyOrder_186 : decode cX7_obeyOrder 186 = .ok (.getfield 182, 3) := by decide +kernel
theorem dX7_obeyOrder_189 : decode cX7_obeyOrder 189 = .ok (.invokevirtual 70, 3) := by decide +kernel
theorem dX7_obeyOrder_192 : decode cX7_obeyOrder 192 = .ok (.ireturn, 1) := by decide +kernel
theorem dX7_obeyOrder_193 : decode cX7_obeyOrder 193 = .ok (.bipush (-3), 2) := by decide +kernel
theorem dX7_obeyOrder_195 : decode cX7_obeyOrder 195 = .ok (.ireturn, 1) := by decide +kernel
theorem dX7_isNavigator_0 : decode cX7_isNavigator 0 = .ok (.iload_n 0, 1) := by decide +kernel
theorem dX7_isNavigator_1 : decode cX7_isNavigator 1 = .ok (.ifCond .lt 13, 3) := by decide +kernel
theorem dX7_isNavigator_4 : decode cX7_isNavigator 4 = .ok (.iload_n 0, 1) := by decide +kernel
theorem dX7_isNavigator_5 : decode cX7_isNavigator 5 = .ok (.bipush 7, 2) := by decide +kernel
theorem dX7_isNavigator_7 : decode cX7_isNavigator 7 = .ok (.if_icmp .ge 7, 3) := by decide +kernel
theorem dX7_isNavigator_10 : decode cX7_isNavigator 10 = .ok (.iconst 1, 1) := by decide +kernel
theorem dX7_isNavigator_11 : decode cX7_isNavigator 11 = .ok (.goto 4, 3) := by decide +kernel
theorem dX7_isNavigator_14 : decode cX7_isNavigator 14 = .ok (.iconst 0, 1) := by decide +kernel
theorem dX7_isNavigator_15 : decode cX7_isNavigator 15 = .ok (.ireturn, 1) := by decide +kernel
theorem dX7_isSlot_0 : decode cX7_isSlot 0 = .ok (.iload_n 0, 1) := by decide +kernel
theorem dX7_isSlot_1 : decode cX7_isSlot 1 = .ok (.ifCond .lt 12, 3) := by decide +kernel
theorem dX7_isSlot_4 : decode cX7_isSlot 4 = .ok (.iload_n 0, 1) := by decide +kernel
theorem dX7_isSlot_5 : decode cX7_isSlot 5 = .ok (.iconst 2, 1) := by decide +kernel
theorem dX7_isSlot_6 : decode cX7_isSlot 6 = .ok (.if_icmp .ge 7, 3) := by decide +kernel
theorem dX7_isSlot_9 : decode cX7_isSlot 9 = .ok (.iconst 1, 1) := by decide +kernel
theorem dX7_isSlot_10 : decode cX7_isSlot 10 = .ok (.goto 4, 3) := by decide +kernel
theorem dX7_isSlot_13 : decode cX7_isSlot 13 = .ok (.iconst 0, 1) := by decide +kernel
theorem dX7_isSlot_14 : decode cX7_isSlot 14 = .ok (.ireturn, 1) := by decide +kernel
theorem dX7_isOnEarth_0 : decode cX7_isOnEarth 0 = .ok (.iload_n 0, 1) := by decide +kernel
theorem dX7_isOnEarth_1 : decode cX7_isOnEarth 1 = .ok (.sipush (-5400), 3) := by decide +kernel
theorem dX7_isOnEarth_4 : decode cX7_isOnEarth 4 = .ok (.if_icmp .lt 14, 3) := by decide +kernel
theorem dX7_isOnEarth_7 : decode cX7_isOnEarth 7 = .ok (.iload_n 0, 1) := by decide +kernel
theorem dX7_isOnEarth_8 : decode cX7_isOnEarth 8 = .ok (.sipush 5400, 3) := by decide +kernel
theorem dX7_isOnEarth_11 : decode cX7_isOnEarth 11 = .ok (.if_icmp .gt 7, 3) := by decide +kernel
theorem dX7_isOnEarth_14 : decode cX7_isOnEarth 14 = .ok (.iconst 1, 1) := by decide +kernel
theorem dX7_isOnEarth_15 : decode cX7_isOnEarth 15 = .ok (.goto 4, 3) := by decide +kernel
theorem dX7_isOnEarth_18 : decode cX7_isOnEarth 18 = .ok (.iconst 0, 1) := by decide +kernel
theorem dX7_isOnEarth_19 : decode cX7_isOnEarth 19 = .ok (.ireturn, 1) := by decide +kernel
theorem dX7_keptOnEarth_0 : decode cX7_keptOnEarth 0 = .ok (.sipush (-5400), 3) := by decide +kernel
theorem dX7_keptOnEarth_3 : decode cX7_keptOnEarth 3 = .ok (.sipush 5400, 3) := by decide +kernel
theorem dX7_keptOnEarth_6 : decode cX7_keptOnEarth 6 = .ok (.iload_n 0, 1) := by decide +kernel
theorem dX7_keptOnEarth_7 : decode cX7_keptOnEarth 7 = .ok (.invokestatic 188, 3) := by decide +kernel
theorem dX7_keptOnEarth_10 : decode cX7_keptOnEarth 10 = .ok (.invokestatic 193, 3) := by decide +kernel
theorem dX7_keptOnEarth_13 : decode cX7_keptOnEarth 13 = .ok (.ireturn, 1) := by decide +kernel
theorem dX7_toldLatitude_0 : decode cX7_toldLatitude 0 = .ok (.iload_n 0, 1) := by decide +kernel
theorem dX7_toldLatitude_1 : decode cX7_toldLatitude 1 = .ok (.sipush 9999, 3) := by decide +kernel
theorem dX7_toldLatitude_4 : decode cX7_toldLatitude 4 = .ok (.if_icmp .ne 8, 3) := by decide +kernel
theorem dX7_toldLatitude_7 : decode cX7_toldLatitude 7 = .ok (.bipush (-6), 2) := by decide +kernel
theorem dX7_toldLatitude_9 : decode cX7_toldLatitude 9 = .ok (.goto 8, 3) := by decide +kernel
theorem dX7_toldLatitude_12 : decode cX7_toldLatitude 12 = .ok (.iload_n 0, 1) := by decide +kernel
theorem dX7_toldLatitude_13 : decode cX7_toldLatitude 13 = .ok (.sipush 5400, 3) := by decide +kernel
theorem dX7_toldLatitude_16 : decode cX7_toldLatitude 16 = .ok (.iadd, 1) := by decide +kernel
theorem dX7_toldLatitude_17 : decode cX7_toldLatitude 17 = .ok (.ireturn, 1) := by decide +kernel
theorem dX8_init_0 : decode cX8_init 0 = .ok (.aload_n 0, 1) := by decide +kernel
theorem dX8_init_1 : decode cX8_init 1 = .ok (.invokespecial 1, 3) := by decide +kernel
theorem dX8_init_4 : decode cX8_init 4 = .ok (.aload_n 0, 1) := by decide +kernel
theorem dX8_init_5 : decode cX8_init 5 = .ok (.bipush 119, 2) := by decide +kernel
theorem dX8_init_7 : decode cX8_init 7 = .ok (.newarray .int, 2) := by decide +kernel
theorem dX8_init_9 : decode cX8_init 9 = .ok (.putfield 7, 3) := by decide +kernel
theorem dX8_init_12 : decode cX8_init 12 = .ok (.aload_n 0, 1) := by decide +kernel
theorem dX8_init_13 : decode cX8_init 13 = .ok (.bipush 119, 2) := by decide +kernel
theorem dX8_init_15 : decode cX8_init 15 = .ok (.newarray .int, 2) := by decide +kernel
theorem dX8_init_17 : decode cX8_init 17 = .ok (.putfield 13, 3) := by decide +kernel
theorem dX8_init_20 : decode cX8_init 20 = .ok (.aload_n 0, 1) := by decide +kernel
theorem dX8_init_21 : decode cX8_init 21 = .ok (.sipush 714, 3) := by decide +kernel
theorem dX8_init_24 : decode cX8_init 24 = .ok (.newarray .int, 2) := by decide +kernel
theorem dX8_init_26 : decode cX8_init 26 = .ok (.putfield 16, 3) := by decide +kernel
theorem dX8_init_29 : decode cX8_init 29 = .ok (.aload_n 0, 1) := by decide +kernel
theorem dX8_init_30 : decode cX8_init 30 = .ok (.sipush 238, 3) := by decide +kernel
theorem dX8_init_33 : decode cX8_init 33 = .ok (.newarray .int, 2) := by decide +kernel
theorem dX8_init_35 : decode cX8_init 35 = .ok (.putfield 19, 3) := by decide +kernel
theorem dX8_init_38 : decode cX8_init 38 = .ok (.aload_n 0, 1) := by decide +kernel
theorem dX8_init_39 : decode cX8_init 39 = .ok (.iconst 2, 1) := by decide +kernel
theorem dX8_init_40 : decode cX8_init 40 = .ok (.newarray .int, 2) := by decide +kernel
theorem dX8_init_42 : decode cX8_init 42 = .ok (.putfield 22, 3) := by decide +kernel
theorem dX8_init_45 : decode cX8_init 45 = .ok (.aload_n 0, 1) := by decide +kernel
theorem dX8_init_46 : decode cX8_init 46 = .ok (.bipush 80, 2) := by decide +kernel
theorem dX8_init_48 : decode cX8_init 48 = .ok (.newarray .int, 2) := by decide +kernel
theorem dX8_init_50 : decode cX8_init 50 = .ok (.putfield 25, 3) := by decide +kernel
theorem dX8_init_53 : decode cX8_init 53 = .ok (.aload_n 0, 1) := by decide +kernel
theorem dX8_init_54 : decode cX8_init 54 = .ok (.getfield 7, 3) := by decide +kernel
theorem dX8_init_57 : decode cX8_init 57 = .ok (.iconst 0, 1) := by decide +kernel
theorem dX8_init_58 : decode cX8_init 58 = .ok (.iconst 4, 1) := by decide +kernel
theorem dX8_init_59 : decode cX8_init 59 = .ok (.iastore, 1) := by decide +kernel
theorem dX8_init_60 : decode cX8_init 60 = .ok (.aload_n 0, 1) := by decide +kernel
theorem dX8_init_61 : decode cX8_init 61 = .ok (.getfield 7, 3) := by decide +kernel
theorem dX8_init_64 : decode cX8_init 64 = .ok (.iconst 1, 1) := by decide +kernel
theorem dX8_init_65 : decode cX8_init 65 = .ok (.bipush 6, 2) := by decide +kernel
theorem dX8_init_67 : decode cX8_init 67 = .ok (.iastore, 1) := by decide +kernel
theorem dX8_init_68 : decode cX8_init 68 = .ok (.aload_n 0, 1) := by decide +kernel
theorem dX8_init_69 : decode cX8_init 69 = .ok (.getfield 7, 3) := by decide +kernel
theorem dX8_init_72 : decode cX8_init 72 = .ok (.iconst 2, 1) := by decide +kernel
theorem dX8_init_73 : decode cX8_init 73 = .ok (.bipush 60, 2) := by decide +kernel
theorem dX8_init_75 : decode cX8_init 75 = .ok (.iastore, 1) := by decide +kernel
theorem dX8_init_76 : decode cX8_init 76 = .ok (.aload_n 0, 1) := by decide +kernel
theorem dX8_init_77 : decode cX8_init 77 = .ok (.getfield 7, 3) := by decide +kernel
theorem dX8_init_80 : decode cX8_init 80 = .ok (.iconst 3, 1) := by decide +kernel
theorem dX8_init_81 : decode cX8_init 81 = .ok (.sipush 300, 3) := by decide +kernel
theorem dX8_init_84 : decode cX8_init 84 = .ok (.iastore, 1) := by decide +kernel
theorem dX8_init_85 : decode cX8_init 85 = .ok (.iconst 0, 1) := by decide +kernel
theorem dX8_init_86 : decode cX8_init 86 = .ok (.istore_n 1, 1) := by decide +kernel
theorem dX8_init_87 : decode cX8_init 87 = .ok (.iload_n 1, 1) := by decide +kernel
theorem dX8_init_88 : decode cX8_init 88 = .ok (.bipush 7, 2) := by decide +kernel
theorem dX8_init_90 : decode cX8_init 90 = .ok (.if_icmp .ge 23, 3) := by decide +kernel
theorem dX8_init_93 : decode cX8_init 93 = .ok (.aload_n 0, 1) := by decide +kernel
theorem dX8_init_94 : decode cX8_init 94 = .ok (.iload_n 1, 1) := by decide +kernel
theorem dX8_init_95 : decode cX8_init 95 = .ok (.iconst 0, 1) := by decide +kernel
theorem dX8_init_96 : decode cX8_init 96 = .ok (.iconst 5, 1) := by decide +kernel
theorem dX8_init_97 : decode cX8_init 97 = .ok (.invokevirtual 28, 3) := by decide +kernel
theorem dX8_init_100 : decode cX8_init 100 = .ok (.aload_n 0, 1) := by decide +kernel
theorem dX8_init_101 : decode cX8_init 101 = .ok (.iload_n 1, 1) := by decide +kernel
theorem dX8_init_102 : decode cX8_init 102 = .ok (.iconst 2, 1) := by decide +kernel
theorem dX8_init_103 : decode cX8_init 103 = .ok (.iconst 1, 1) := by decide +kernel
theorem dX8_init_104 : decode cX8_init 104 = .ok (.invokevirtual 28, 3) := by decide +kernel
theorem dX8_init_107 : decode cX8_init 107 = .ok (.iinc 1 1, 3) := by decide +kernel
theorem dX8_init_110 : decode cX8_init 110 = .ok (.goto (-23), 3) := by decide +kernel
theorem dX8_init_113 : decode cX8_init 113 = .ok (.return_, 1) := by decide +kernel
theorem dX8_within_0 : decode cX8_within 0 = .ok (.iload_n 0, 1) := by decide +kernel
theorem dX8_within_1 : decode cX8_within 1 = .ok (.iload_n 1, 1) := by decide +kernel
theorem dX8_within_2 : decode cX8_within 2 = .ok (.if_icmp .lt 12, 3) := by decide +kernel
theorem dX8_within_5 : decode cX8_within 5 = .ok (.iload_n 0, 1) := by decide +kernel
theorem dX8_within_6 : decode cX8_within 6 = .ok (.iload_n 2, 1) := by decide +kernel
theorem dX8_within_7 : decode cX8_within 7 = .ok (.if_icmp .gt 7, 3) := by decide +kernel
theorem dX8_within_10 : decode cX8_within 10 = .ok (.iconst 1, 1) := by decide +kernel
theorem dX8_within_11 : decode cX8_within 11 = .ok (.goto 4, 3) := by decide +kernel
theorem dX8_within_14 : decode cX8_within 14 = .ok (.iconst 0, 1) := by decide +kernel
theorem dX8_within_15 : decode cX8_within 15 = .ok (.ireturn, 1) := by decide +kernel
theorem dX8_sizeOf_0 : decode cX8_sizeOf 0 = .ok (.iload_n 0, 1) := by decide +kernel
theorem dX8_sizeOf_1 : decode cX8_sizeOf 1 = .ok (.ifCond .ge 8, 3) := by decide +kernel
theorem dX8_sizeOf_4 : decode cX8_sizeOf 4 = .ok (.iload_n 0, 1) := by decide +kernel
theorem dX8_sizeOf_5 : decode cX8_sizeOf 5 = .ok (.ineg, 1) := by decide +kernel
theorem dX8_sizeOf_6 : decode cX8_sizeOf 6 = .ok (.goto 4, 3) := by decide +kernel
theorem dX8_sizeOf_9 : decode cX8_sizeOf 9 = .ok (.iload_n 0, 1) := by decide +kernel
theorem dX8_sizeOf_10 : decode cX8_sizeOf 10 = .ok (.ireturn, 1) := by decide +kernel
theorem dX8_bounded_0 : decode cX8_bounded 0 = .ok (.iload_n 0, 1) := by decide +kernel
theorem dX8_bounded_1 : decode cX8_bounded 1 = .ok (.sipush (-5400), 3) := by decide +kernel
theorem dX8_bounded_4 : decode cX8_bounded 4 = .ok (.if_icmp .ge 9, 3) := by decide +kernel
theorem dX8_bounded_7 : decode cX8_bounded 7 = .ok (.sipush (-5400), 3) := by decide +kernel
theorem dX8_bounded_10 : decode cX8_bounded 10 = .ok (.goto 17, 3) := by decide +kernel
theorem dX8_bounded_13 : decode cX8_bounded 13 = .ok (.iload_n 0, 1) := by decide +kernel
theorem dX8_bounded_14 : decode cX8_bounded 14 = .ok (.sipush 5400, 3) := by decide +kernel
theorem dX8_bounded_17 : decode cX8_bounded 17 = .ok (.if_icmp .le 9, 3) := by decide +kernel
theorem dX8_bounded_20 : decode cX8_bounded 20 = .ok (.sipush 5400, 3) := by decide +kernel
theorem dX8_bounded_23 : decode cX8_bounded 23 = .ok (.goto 4, 3) := by decide +kernel
theorem dX8_bounded_26 : decode cX8_bounded 26 = .ok (.iload_n 0, 1) := by decide +kernel
theorem dX8_bounded_27 : decode cX8_bounded 27 = .ok (.ireturn, 1) := by decide +kernel
theorem dX8_isLatitude_0 : decode cX8_isLatitude 0 = .ok (.iload_n 0, 1) := by decide +kernel
theorem dX8_isLatitude_1 : decode cX8_isLatitude 1 = .ok (.sipush (-5400), 3) := by decide +kernel
theorem dX8_isLatitude_4 : decode cX8_isLatitude 4 = .ok (.sipush 5400, 3) := by decide +kernel
theorem dX8_isLatitude_7 : decode cX8_isLatitude 7 = .ok (.invokestatic 32, 3) := by decide +kernel
theorem dX8_isLatitude_10 : decode cX8_isLatitude 10 = .ok (.ireturn, 1) := by decide +kernel
theorem dX8_isStar_0 : decode cX8_isStar 0 = .ok (.iload_n 1, 1) := by decide +kernel
theorem dX8_isStar_1 : decode cX8_isStar 1 = .ok (.iconst 0, 1) := by decide +kernel
theorem dX8_isStar_2 : decode cX8_isStar 2 = .ok (.aload_n 0, 1) := by decide +kernel
theorem dX8_isStar_3 : decode cX8_isStar 3 = .ok (.getfield 7, 3) := by decide +kernel
theorem dX8_isStar_6 : decode cX8_isStar 6 = .ok (.bipush 13, 2) := by decide +kernel
theorem dX8_isStar_8 : decode cX8_isStar 8 = .ok (.iaload, 1) := by decide +kernel
theorem dX8_isStar_9 : decode cX8_isStar 9 = .ok (.iconst 1, 1) := by decide +kernel
theorem dX8_isStar_10 : decode cX8_isStar 10 = .ok (.isub, 1) := by decide +kernel
theorem dX8_isStar_11 : decode cX8_isStar 11 = .ok (.invokestatic 32, 3) := by decide +kernel
theorem dX8_isStar_14 : decode cX8_isStar 14 = .ok (.ireturn, 1) := by decide +kernel
theorem dX8_isNavigator_0 : decode cX8_isNavigator 0 = .ok (.iload_n 0, 1) := by decide +kernel
theorem dX8_isNavigator_1 : decode cX8_isNavigator 1 = .ok (.iconst 0, 1) := by decide +kernel
theorem dX8_isNavigator_2 : decode cX8_isNavigator 2 = .ok (.bipush 6, 2) := by decide +kernel
theorem dX8_isNavigator_4 : decode cX8_isNavigator 4 = .ok (.invokestatic 32, 3) := by decide +kernel
theorem dX8_isNavigator_7 : decode cX8_isNavigator 7 = .ok (.ireturn, 1) := by decide +kernel
theorem dX8_number_0 : decode cX8_number 0 = .ok (.aload_n 0, 1) := by decide +kernel
theorem dX8_number_1 : decode cX8_number 1 = .ok (.getfield 7, 3) := by decide +kernel
theorem dX8_number_4 : decode cX8_number 4 = .ok (.bipush 31, 2) := by decide +kernel
theorem dX8_number_6 : decode cX8_number 6 = .ok (.bipush 8, 2) := by decide +kernel
theorem dX8_number_8 : decode cX8_number 8 = .ok (.iload_n 1, 1) := by decide +kernel
theorem dX8_number_9 : decode cX8_number 9 = .ok (.imul, 1) := by decide +kernel
theorem dX8_number_10 : decode cX8_number 10 = .ok (.iadd, 1) := by decide +kernel
theorem dX8_number_11 : decode cX8_number 11 = .ok (.iload_n 2, 1) := by decide +kernel
theorem dX8_number_12 : decode cX8_number 12 = .ok (.iadd, 1) := by decide +kernel
theorem dX8_number_13 : decode cX8_number 13 = .ok (.iaload, 1) := by decide +kernel
theorem dX8_number_14 : decode cX8_number 14 = .ok (.ireturn, 1) := by decide +kernel
theorem dX8_setOf_0 : decode cX8_setOf 0 = .ok (.aload_n 0, 1) := by decide +kernel
theorem dX8_setOf_1 : decode cX8_setOf 1 = .ok (.getfield 7, 3) := by decide +kernel
theorem dX8_setOf_4 : decode cX8_setOf 4 = .ok (.bipush 31, 2) := by decide +kernel
theorem dX8_setOf_6 : decode cX8_setOf 6 = .ok (.bipush 8, 2) := by decide +kernel
theorem dX8_setOf_8 : decode cX8_setOf 8 = .ok (.iload_n 1, 1) := by decide +kernel
theorem dX8_setOf_9 : decode cX8_setOf 9 = .ok (.imul, 1) := by decide +kernel
theorem dX8_setOf_10 : decode cX8_setOf 10 = .ok (.iadd, 1) := by decide +kernel
theorem dX8_setOf_11 : decode cX8_setOf 11 = .ok (.iload_n 2, 1) := by decide +kernel
theorem dX8_setOf_12 : decode cX8_setOf 12 = .ok (.iadd, 1) := by decide +kernel
theorem dX8_setOf_13 : decode cX8_setOf 13 = .ok (.iload_n 3, 1) := by decide +kernel
theorem dX8_setOf_14 : decode cX8_setOf 14 = .ok (.iastore, 1) := by decide +kernel
theorem dX8_setOf_15 : decode cX8_setOf 15 = .ok (.return_, 1) := by decide +kernel
theorem dX8_putAside_0 : decode cX8_putAside 0 = .ok (.iconst 0, 1) := by decide +kernel
theorem dX8_putAside_1 : decode cX8_putAside 1 = .ok (.istore_n 1, 1) := by decide +kernel
theorem dX8_putAside_2 : decode cX8_putAside 2 = .ok (.iload_n 1, 1) := by decide +kernel
theorem dX8_putAside_3 : decode cX8_putAside 3 = .ok (.bipush 119, 2) := by decide +kernel
theorem dX8_putAside_5 : decode cX8_putAside 5 = .ok (.if_icmp .ge 21, 3) := by decide +kernel
theorem dX8_putAside_8 : decode cX8_putAside 8 = .ok (.aload_n 0, 1) := by decide +kernel
theorem dX8_putAside_9 : decode cX8_putAside 9 = .ok (.getfield 13, 3) := by decide +kernel
theorem dX8_putAside_12 : decode cX8_putAside 12 = .ok (.iload_n 1, 1) := by decide +kernel
theorem dX8_putAside_13 : decode cX8_putAside 13 = .ok (.aload_n 0, 1) := by decide +kernel
theorem dX8_putAside_14 : decode cX8_putAside 14 = .ok (.getfield 7, 3) := by decide +kernel
theorem dX8_putAside_17 : decode cX8_putAside 17 = .ok (.iload_n 1, 1) := by decide +kernel
theorem dX8_putAside_18 : decode cX8_putAside 18 = .ok (.iaload, 1) := by decide +kernel
theorem dX8_putAside_19 : decode cX8_putAside 19 = .ok (.iastore, 1) := by decide +kernel
theorem dX8_putAside_20 : decode cX8_putAside 20 = .ok (.iinc 1 1, 3) := by decide +kernel
theorem dX8_putAside_23 : decode cX8_putAside 23 = .ok (.goto (-21), 3) := by decide +kernel
theorem dX8_putAside_26 : decode cX8_putAside 26 = .ok (.return_, 1) := by decide +kernel
theorem dX8_takeBack_0 : decode cX8_takeBack 0 = .ok (.iconst 0, 1) := by decide +kernel
theorem dX8_takeBack_1 : decode cX8_takeBack 1 = .ok (.istore_n 1, 1) := by decide +kernel
theorem dX8_takeBack_2 : decode cX8_takeBack 2 = .ok (.iload_n 1, 1) := by decide +kernel
theorem dX8_takeBack_3 : decode cX8_takeBack 3 = .ok (.bipush 119, 2) := by decide +kernel
theorem dX8_takeBack_5 : decode cX8_takeBack 5 = .ok (.if_icmp .ge 21, 3) := by decide +kernel
theorem dX8_takeBack_8 : decode cX8_takeBack 8 = .ok (.aload_n 0, 1) := by decide +kernel
theorem dX8_takeBack_9 : decode cX8_takeBack 9 = .ok (.getfield 7, 3) := by decide +kernel
theorem dX8_takeBack_12 : decode cX8_takeBack 12 = .ok (.iload_n 1, 1) := by decide +kernel
theorem dX8_takeBack_13 : decode cX8_takeBack 13 = .ok (.aload_n 0, 1) := by decide +kernel
theorem dX8_takeBack_14 : decode cX8_takeBack 14 = .ok (.getfield 13, 3) := by decide +kernel
theorem dX8_takeBack_17 : decode cX8_takeBack 17 = .ok (.iload_n 1, 1) := by decide +kernel
theorem dX8_takeBack_18 : decode cX8_takeBack 18 = .ok (.iaload, 1) := by decide +kernel
theorem dX8_takeBack_19 : decode cX8_takeBack 19 = .ok (.iastore, 1) := by decide +kernel
theorem dX8_takeBack_20 : decode cX8_takeBack 20 = .ok (.iinc 1 1, 3) := by decide +kernel
theorem dX8_takeBack_23 : decode cX8_takeBack 23 = .ok (.goto (-21), 3) := by decide +kernel
theorem dX8_takeBack_26 : decode cX8_takeBack 26 = .ok (.return_, 1) := by decide +kernel
theorem dX8_push_0 : decode cX8_push 0 = .ok (.aload_n 0, 1) := by decide +kernel
theorem dX8_push_1 : decode cX8_push 1 = .ok (.getfield 36, 3) := by decide +kernel
theorem dX8_push_4 : decode cX8_push 4 = .ok (.bipush 6, 2) := by decide +kernel
theorem dX8_push_6 : decode cX8_push 6 = .ok (.if_icmp .ne 43, 3) := by decide +kernel
theorem dX8_push_9 : decode cX8_push 9 = .ok (.iconst 0, 1) := by decide +kernel
theorem dX8_push_10 : decode cX8_push 10 = .ok (.istore_n 1, 1) := by decide +kernel
theorem dX8_push_11 : decode cX8_push 11 = .ok (.iload_n 1, 1) := by decide +kernel
theorem dX8_push_12 : decode cX8_push 12 = .ok (.sipush 595, 3) := by decide +kernel
theorem dX8_push_15 : decode cX8_push 15 = .ok (.if_icmp .ge 24, 3) := by decide +kernel
theorem dX8_push_18 : decode cX8_push 18 = .ok (.aload_n 0, 1) := by decide +kernel
theorem dX8_push_19 : decode cX8_push 19 = .ok (.getfield 16, 3) := by decide +kernel
theorem dX8_push_22 : decode cX8_push 22 = .ok (.iload_n 1, 1) := by decide +kernel
theorem dX8_push_23 : decode cX8_push 23 = .ok (.aload_n 0, 1) := by decide +kernel
theorem dX8_push_24 : decode cX8_push 24 = .ok (.getfield 16, 3) := by decide +kernel
theorem dX8_push_27 : decode cX8_push 27 = .ok (.iload_n 1, 1) := by decide +kernel
theorem dX8_push_28 : decode cX8_push 28 = .ok (.bipush 119, 2) := by decide +kernel
theorem dX8_push_30 : decode cX8_push 30 = .ok (.iadd, 1) := by decide +kernel
theorem dX8_push_31 : decode cX8_push 31 = .ok (.iaload, 1) := by decide +kernel
theorem dX8_push_32 : decode cX8_push 32 = .ok (.iastore, 1) := by decide +kernel
theorem dX8_push_33 : decode cX8_push 33 = .ok (.iinc 1 1, 3) := by decide +kernel
theorem dX8_push_36 : decode cX8_push 36 = .ok (.goto (-25), 3) := by decide +kernel
theorem dX8_push_39 : decode cX8_push 39 = .ok (.aload_n 0, 1) := by decide +kernel
theorem dX8_push_40 : decode cX8_push 40 = .ok (.dup, 1) := by decide +kernel
theorem dX8_push_41 : decode cX8_push 41 = .ok (.getfield 36, 3) := by decide +kernel
theorem dX8_push_44 : decode cX8_push 44 = .ok (.iconst 1, 1) := by decide +kernel
theorem dX8_push_45 : decode cX8_push 45 = .ok (.isub, 1) := by decide +kernel
theorem dX8_push_46 : decode cX8_push 46 = .ok (.putfield 36, 3) := by decide +kernel
theorem dX8_push_49 : decode cX8_push 49 = .ok (.iconst 0, 1) := by decide +kernel
theorem dX8_push_50 : decode cX8_push 50 = .ok (.istore_n 1, 1) := by decide +kernel
theorem dX8_push_51 : decode cX8_push 51 = .ok (.iload_n 1, 1) := by decide +kernel
theorem dX8_push_52 : decode cX8_push 52 = .ok (.bipush 119, 2) := by decide +kernel
theorem dX8_push_54 : decode cX8_push 54 = .ok (.if_icmp .ge 29, 3) := by decide +kernel
theorem dX8_push_57 : decode cX8_push 57 = .ok (.aload_n 0, 1) := by decide +kernel
theorem dX8_push_58 : decode cX8_push 58 = .ok (.getfield 16, 3) := by decide +kernel
theorem dX8_push_61 : decode cX8_push 61 = .ok (.aload_n 0, 1) := by decide +kernel
theorem dX8_push_62 : decode cX8_push 62 = .ok (.getfield 36, 3) := by decide +kernel
theorem dX8_push_65 : decode cX8_push 65 = .ok (.bipush 119, 2) := by decide +kernel
theorem dX8_push_67 : decode cX8_push 67 = .ok (.imul, 1) := by decide +kernel
theorem dX8_push_68 : decode cX8_push 68 = .ok (.iload_n 1, 1) := by decide +kernel
theorem dX8_push_69 : decode cX8_push 69 = .ok (.iadd, 1) := by decide +kernel
theorem dX8_push_70 : decode cX8_push 70 = .ok (.aload_n 0, 1) := by decide +kernel
theorem dX8_push_71 : decode cX8_push 71 = .ok (.getfield 13, 3) := by decide +kernel
theorem dX8_push_74 : decode cX8_push 74 = .ok (.iload_n 1, 1) := by decide +kernel
theorem dX8_push_75 : decode cX8_push 75 = .ok (.iaload, 1) := by decide +kernel
theorem dX8_push_76 : decode cX8_push 76 = .ok (.iastore, 1) := by decide +kernel
theorem dX8_push_77 : decode cX8_push 77 = .ok (.iinc 1 1, 3) := by decide +kernel
theorem dX8_push_80 : decode cX8_push 80 = .ok (.goto (-29), 3) := by decide +kernel
theorem dX8_push_83 : decode cX8_push 83 = .ok (.aload_n 0, 1) := by decide +kernel
theorem dX8_push_84 : decode cX8_push 84 = .ok (.dup, 1) := by decide +kernel
theorem dX8_push_85 : decode cX8_push 85 = .ok (.getfield 36, 3) := by decide +kernel
theorem dX8_push_88 : decode cX8_push 88 = .ok (.iconst 1, 1) := by decide +kernel
theorem dX8_push_89 : decode cX8_push 89 = .ok (.iadd, 1) := by decide +kernel
theorem dX8_push_90 : decode cX8_push 90 = .ok (.putfield 36, 3) := by decide +kernel
theorem dX8_push_93 : decode cX8_push 93 = .ok (.return_, 1) := by decide +kernel
theorem dX8_recorded_0 : decode cX8_recorded 0 = .ok (.iload_n 1, 1) := by decide +kernel
theorem dX8_recorded_1 : decode cX8_recorded 1 = .ok (.ifCond .lt 7, 3) := by decide +kernel
theorem dX8_recorded_4 : decode cX8_recorded 4 = .ok (.aload_n 0, 1) := by decide +kernel
theorem dX8_recorded_5 : decode cX8_recorded 5 = .ok (.invokevirtual 40, 3) := by decide +kernel
theorem dX8_recorded_8 : decode cX8_recorded 8 = .ok (.iload_n 1, 1) := by decide +kernel
theorem dX8_recorded_9 : decode cX8_recorded 9 = .ok (.ireturn, 1) := by decide +kernel
theorem dX8_undo_0 : decode cX8_undo 0 = .ok (.aload_n 0, 1) := by decide +kernel
theorem dX8_undo_1 : decode cX8_undo 1 = .ok (.getfield 36, 3) := by decide +kernel
theorem dX8_undo_4 : decode cX8_undo 4 = .ok (.ifCond .ne 6, 3) := by decide +kernel
theorem dX8_undo_7 : decode cX8_undo 7 = .ok (.bipush (-5), 2) := by decide +kernel
theorem dX8_undo_9 : decode cX8_undo 9 = .ok (.ireturn, 1) := by decide +kernel
theorem dX8_undo_10 : decode cX8_undo 10 = .ok (.aload_n 0, 1) := by decide +kernel
theorem dX8_undo_11 : decode cX8_undo 11 = .ok (.dup, 1) := by decide +kernel
theorem dX8_undo_12 : decode cX8_undo 12 = .ok (.getfield 36, 3) := by decide +kernel
theorem dX8_undo_15 : decode cX8_undo 15 = .ok (.iconst 1, 1) := by decide +kernel
theorem dX8_undo_16 : decode cX8_undo 16 = .ok (.isub, 1) := by decide +kernel
theorem dX8_undo_17 : decode cX8_undo 17 = .ok (.putfield 36, 3) := by decide +kernel
theorem dX8_undo_20 : decode cX8_undo 20 = .ok (.iconst 0, 1) := by decide +kernel
theorem dX8_undo_21 : decode cX8_undo 21 = .ok (.istore_n 1, 1) := by decide +kernel
theorem dX8_undo_22 : decode cX8_undo 22 = .ok (.iload_n 1, 1) := by decide +kernel
theorem dX8_undo_23 : decode cX8_undo 23 = .ok (.bipush 119, 2) := by decide +kernel
theorem dX8_undo_25 : decode cX8_undo 25 = .ok (.if_icmp .ge 29, 3) := by decide +kernel
theorem dX8_undo_28 : decode cX8_undo 28 = .ok (.aload_n 0, 1) := by decide +kernel
theorem dX8_undo_29 : decode cX8_undo 29 = .ok (.getfield 7, 3) := by decide +kernel
theorem dX8_undo_32 : decode cX8_undo 32 = .ok (.iload_n 1, 1) := by decide +kernel
theorem dX8_undo_33 : decode cX8_undo 33 = .ok (.aload_n 0, 1) := by decide +kernel
theorem dX8_undo_34 : decode cX8_undo 34 = .ok (.getfield 16, 3) := by decide +kernel
theorem dX8_undo_37 : decode cX8_undo 37 = .ok (.aload_n 0, 1) := by decide +kernel
theorem dX8_undo_38 : decode cX8_undo 38 = .ok (.getfield 36, 3) := by decide +kernel
theorem dX8_undo_41 : decode cX8_undo 41 = .ok (.bipush 119, 2) := by decide +kernel
theorem dX8_undo_43 : decode cX8_undo 43 = .ok (.imul, 1) := by decide +kernel
theorem dX8_undo_44 : decode cX8_undo 44 = .ok (.iload_n 1, 1) := by decide +kernel
theorem dX8_undo_45 : decode cX8_undo 45 = .ok (.iadd, 1) := by decide +kernel
theorem dX8_undo_46 : decode cX8_undo 46 = .ok (.iaload, 1) := by decide +kernel
theorem dX8_undo_47 : decode cX8_undo 47 = .ok (.iastore, 1) := by decide +kernel
theorem dX8_undo_48 : decode cX8_undo 48 = .ok (.iinc 1 1, 3) := by decide +kernel
theorem dX8_undo_51 : decode cX8_undo 51 = .ok (.goto (-29), 3) := by decide +kernel
theorem dX8_undo_54 : decode cX8_undo 54 = .ok (.aload_n 0, 1) := by decide +kernel
theorem dX8_undo_55 : decode cX8_undo 55 = .ok (.getfield 36, 3) := by decide +kernel
theorem dX8_undo_58 : decode cX8_undo 58 = .ok (.ireturn, 1) := by decide +kernel
theorem dX8_isSlot_0 : decode cX8_isSlot 0 = .ok (.iload_n 0, 1) := by decide +kernel
theorem dX8_isSlot_1 : decode cX8_isSlot 1 = .ok (.iconst 0, 1) := by decide +kernel
theorem dX8_isSlot_2 : decode cX8_isSlot 2 = .ok (.iconst 1, 1) := by decide +kernel
theorem dX8_isSlot_3 : decode cX8_isSlot 3 = .ok (.invokestatic 32, 3) := by decide +kernel
theorem dX8_isSlot_6 : decode cX8_isSlot 6 = .ok (.ireturn, 1) := by decide +kernel
theorem dX8_save_0 : decode cX8_save 0 = .ok (.iload_n 1, 1) := by decide +kernel
theorem dX8_save_1 : decode cX8_save 1 = .ok (.invokestatic 43, 3) := by decide +kernel
theorem dX8_save_4 : decode cX8_save 4 = .ok (.ifCond .ne 6, 3) := by decide +kernel
theorem dX8_save_7 : decode cX8_save 7 = .ok (.bipush (-2), 2) := by decide +kernel
theorem dX8_save_9 : decode cX8_save 9 = .ok (.ireturn, 1) := by decide +kernel
theorem dX8_save_10 : decode cX8_save 10 = .ok (.iconst 0, 1) := by decide +kernel
theorem dX8_save_11 : decode cX8_save 11 = .ok (.istore_n 2, 1) := by decide +kernel
theorem dX8_save_12 : decode cX8_save 12 = .ok (.iload_n 2, 1) := by decide +kernel
theorem dX8_save_13 : decode cX8_save 13 = .ok (.bipush 119, 2) := by decide +kernel
theorem dX8_save_15 : decode cX8_save 15 = .ok (.if_icmp .ge 26, 3) := by decide +kernel
theorem dX8_save_18 : decode cX8_save 18 = .ok (.aload_n 0, 1) := by decide +kernel
theorem dX8_save_19 : decode cX8_save 19 = .ok (.getfield 19, 3) := by decide +kernel
theorem dX8_save_22 : decode cX8_save 22 = .ok (.iload_n 1, 1) := by decide +kernel
theorem dX8_save_23 : decode cX8_save 23 = .ok (.bipush 119, 2) := by decide +kernel
theorem dX8_save_25 : decode cX8_save 25 = .ok (.imul, 1) := by decide +kernel
theorem dX8_save_26 : decode cX8_save 26 = .ok (.iload_n 2, 1) := by decide +kernel
theorem dX8_save_27 : decode cX8_save 27 = .ok (.iadd, 1) := by decide +kernel
theorem dX8_save_28 : decode cX8_save 28 = .ok (.aload_n 0, 1) := by decide +kernel
theorem dX8_save_29 : decode cX8_save 29 = .ok (.getfield 7, 3) := by decide +kernel
theorem dX8_save_32 : decode cX8_save 32 = .ok (.iload_n 2, 1) := by decide +kernel
theorem dX8_save_33 : decode cX8_save 33 = .ok (.iaload, 1) := by decide +kernel
theorem dX8_save_34 : decode cX8_save 34 = .ok (.iastore, 1) := by decide +kernel
theorem dX8_save_35 : decode cX8_save 35 = .ok (.iinc 2 1, 3) := by decide +kernel
theorem dX8_save_38 : decode cX8_save 38 = .ok (.goto (-26), 3) := by decide +kernel
theorem dX8_save_41 : decode cX8_save 41 = .ok (.aload_n 0, 1) := by decide +kernel
theorem dX8_save_42 : decode cX8_save 42 = .ok (.getfield 22, 3) := by decide +kernel
theorem dX8_save_45 : decode cX8_save 45 = .ok (.iload_n 1, 1) := by decide +kernel
theorem dX8_save_46 : decode cX8_save 46 = .ok (.iconst 1, 1) := by decide +kernel
theorem dX8_save_47 : decode cX8_save 47 = .ok (.iastore, 1) := by decide +kernel
theorem dX8_save_48 : decode cX8_save 48 = .ok (.aload_n 0, 1) := by decide +kernel
theorem dX8_save_49 : decode cX8_save 49 = .ok (.getfield 7, 3) := by decide +kernel
theorem dX8_save_52 : decode cX8_save 52 = .ok (.bipush 13, 2) := by decide +kernel
theorem dX8_save_54 : decode cX8_save 54 = .ok (.iaload, 1) := by decide +kernel
theorem dX8_save_55 : decode cX8_save 55 = .ok (.ireturn, 1) := by decide +kernel
theorem dX8_restore_0 : decode cX8_restore 0 = .ok (.iload_n 1, 1) := by decide +kernel
theorem dX8_restore_1 : decode cX8_restore 1 = .ok (.invokestatic 43, 3) := by decide +kernel
theorem dX8_restore_4 : decode cX8_restore 4 = .ok (.ifCond .ne 6, 3) := by decide +kernel
theorem dX8_restore_7 : decode cX8_restore 7 = .ok (.bipush (-2), 2) := by decide +kernel
theorem dX8_restore_9 : decode cX8_restore 9 = .ok (.ireturn, 1) := by decide +kernel
theorem dX8_restore_10 : decode cX8_restore 10 = .ok (.aload_n 0, 1) := by decide +kernel
theorem dX8_restore_11 : decode cX8_restore 11 = .ok (.getfield 22, 3) := by decide +kernel
theorem dX8_restore_14 : decode cX8_restore 14 = .ok (.iload_n 1, 1) := by decide +kernel
theorem dX8_restore_15 : decode cX8_restore 15 = .ok (.iaload, 1) := by decide +kernel
theorem dX8_restore_16 : decode cX8_restore 16 = .ok (.ifCond .ne 6, 3) := by decide +kernel
theorem dX8_restore_19 : decode cX8_restore 19 = .ok (.bipush (-5), 2) := by decide +kernel
theorem dX8_restore_21 : decode cX8_restore 21 = .ok (.ireturn, 1) := by decide +kernel
theorem dX8_restore_22 : decode cX8_restore 22 = .ok (.aload_n 0, 1) := by decide +kernel
theorem dX8_restore_23 : decode cX8_restore 23 = .ok (.invokevirtual 47, 3) := by decide +kernel
theorem dX8_restore_26 : decode cX8_restore 26 = .ok (.aload_n 0, 1) := by decide +kernel
theorem dX8_restore_27 : decode cX8_restore 27 = .ok (.invokevirtual 40, 3) := by decide +kernel
theorem dX8_restore_30 : decode cX8_restore 30 = .ok (.iconst 0, 1) := by decide +kernel
theorem dX8_restore_31 : decode cX8_restore 31 = .ok (.istore_n 2, 1) := by decide +kernel
theorem dX8_restore_32 : decode cX8_restore 32 = .ok (.iload_n 2, 1) := by decide +kernel
theorem dX8_restore_33 : decode cX8_restore 33 = .ok (.bipush 119, 2) := by decide +kernel
theorem dX8_restore_35 : decode cX8_restore 35 = .ok (.if_icmp .ge 26, 3) := by decide +kernel
theorem dX8_restore_38 : decode cX8_restore 38 = .ok (.aload_n 0, 1) := by decide +kernel
theorem dX8_restore_39 : decode cX8_restore 39 = .ok (.getfield 7, 3) := by decide +kernel
theorem dX8_restore_42 : decode cX8_restore 42 = .ok (.iload_n 2, 1) := by decide +kernel
theorem dX8_restore_43 : decode cX8_restore 43 = .ok (.aload_n 0, 1) := by decide +kernel
theorem dX8_restore_44 : decode cX8_restore 44 = .ok (.getfield 19, 3) := by decide +kernel
theorem dX8_restore_47 : decode cX8_restore 47 = .ok (.iload_n 1, 1) := by decide +kernel
theorem dX8_restore_48 : decode cX8_restore 48 = .ok (.bipush 119, 2) := by decide +kernel
theorem dX8_restore_50 : decode cX8_restore 50 = .ok (.imul, 1) := by decide +kernel
theorem dX8_restore_51 : decode cX8_restore 51 = .ok (.iload_n 2, 1) := by decide +kernel
theorem dX8_restore_52 : decode cX8_restore 52 = .ok (.iadd, 1) := by decide +kernel
theorem dX8_restore_53 : decode cX8_restore 53 = .ok (.iaload, 1) := by decide +kernel
theorem dX8_restore_54 : decode cX8_restore 54 = .ok (.iastore, 1) := by decide +kernel
theorem dX8_restore_55 : decode cX8_restore 55 = .ok (.iinc 2 1, 3) := by decide +kernel
theorem dX8_restore_58 : decode cX8_restore 58 = .ok (.goto (-26), 3) := by decide +kernel
theorem dX8_restore_61 : decode cX8_restore 61 = .ok (.aload_n 0, 1) := by decide +kernel
theorem dX8_restore_62 : decode cX8_restore 62 = .ok (.getfield 7, 3) := by decide +kernel
theorem dX8_restore_65 : decode cX8_restore 65 = .ok (.bipush 13, 2) := by decide +kernel
theorem dX8_restore_67 : decode cX8_restore 67 = .ok (.iaload, 1) := by decide +kernel
theorem dX8_restore_68 : decode cX8_restore 68 = .ok (.ireturn, 1) := by decide +kernel
theorem dX8_height_0 : decode cX8_height 0 = .ok (.sipush 5400, 3) := by decide +kernel
theorem dX8_height_3 : decode cX8_height 3 = .ok (.aload_n 0, 1) := by decide +kernel
theorem dX8_height_4 : decode cX8_height 4 = .ok (.getfield 7, 3) := by decide +kernel
theorem dX8_height_7 : decode cX8_height 7 = .ok (.bipush 15, 2) := by decide +kernel
theorem dX8_height_9 : decode cX8_height 9 = .ok (.iload_n 1, 1) := by decide +kernel
theorem dX8_height_10 : decode cX8_height 10 = .ok (.iadd, 1) := by decide +kernel
theorem dX8_height_11 : decode cX8_height 11 = .ok (.iaload, 1) := by decide +kernel
theorem dX8_height_12 : decode cX8_height 12 = .ok (.aload_n 0, 1) := by decide +kernel
theorem dX8_height_13 : decode cX8_height 13 = .ok (.getfield 7, 3) := by decide +kernel
theorem dX8_height_16 : decode cX8_height 16 = .ok (.iconst 4, 1) := by decide +kernel
theorem dX8_height_17 : decode cX8_height 17 = .ok (.iaload, 1) := by decide +kernel
theorem dX8_height_18 : decode cX8_height 18 = .ok (.isub, 1) := by decide +kernel
theorem dX8_height_19 : decode cX8_height 19 = .ok (.invokestatic 50, 3) := by decide +kernel
theorem dX8_height_22 : decode cX8_height 22 = .ok (.isub, 1) := by decide +kernel
theorem dX8_height_23 : decode cX8_height 23 = .ok (.ireturn, 1) := by decide +kernel
theorem dX8_reason_0 : decode cX8_reason 0 = .ok (.aload_n 0, 1) := by decide +kernel
theorem dX8_reason_1 : decode cX8_reason 1 = .ok (.iload_n 1, 1) := by decide +kernel
theorem dX8_reason_2 : decode cX8_reason 2 = .ok (.bipush 7, 2) := by decide +kernel
theorem dX8_reason_4 : decode cX8_reason 4 = .ok (.invokevirtual 54, 3) := by decide +kernel
theorem dX8_reason_7 : decode cX8_reason 7 = .ok (.ifCond .eq 11, 3) := by decide +kernel
theorem dX8_reason_10 : decode cX8_reason 10 = .ok (.aload_n 0, 1) := by decide +kernel
theorem dX8_reason_11 : decode cX8_reason 11 = .ok (.iload_n 1, 1) := by decide +kernel
theorem dX8_reason_12 : decode cX8_reason 12 = .ok (.bipush 7, 2) := by decide +kernel
theorem dX8_reason_14 : decode cX8_reason 14 = .ok (.invokevirtual 54, 3) := by decide +kernel
theorem dX8_reason_17 : decode cX8_reason 17 = .ok (.ireturn, 1) := by decide +kernel
theorem dX8_reason_18 : decode cX8_reason 18 = .ok (.aload_n 0, 1) := by decide +kernel
theorem dX8_reason_19 : decode cX8_reason 19 = .ok (.getfield 7, 3) := by decide +kernel
theorem dX8_reason_22 : decode cX8_reason 22 = .ok (.bipush 23, 2) := by decide +kernel
theorem dX8_reason_24 : decode cX8_reason 24 = .ok (.iload_n 2, 1) := by decide +kernel
theorem dX8_reason_25 : decode cX8_reason 25 = .ok (.iadd, 1) := by decide +kernel
theorem dX8_reason_26 : decode cX8_reason 26 = .ok (.iaload, 1) := by decide +kernel
theorem dX8_reason_27 : decode cX8_reason 27 = .ok (.iconst 1, 1) := by decide +kernel
theorem dX8_reason_28 : decode cX8_reason 28 = .ok (.if_icmp .ne 7, 3) := by decide +kernel
theorem dX8_reason_31 : decode cX8_reason 31 = .ok (.iconst 3, 1) := by decide +kernel
theorem dX8_reason_32 : decode cX8_reason 32 = .ok (.goto 22, 3) := by decide +kernel
theorem dX8_reason_35 : decode cX8_reason 35 = .ok (.aload_n 0, 1) := by decide +kernel
theorem dX8_reason_36 : decode cX8_reason 36 = .ok (.iload_n 2, 1) := by decide +kernel
theorem dX8_reason_37 : decode cX8_reason 37 = .ok (.invokevirtual 58, 3) := by decide +kernel
theorem dX8_reason_40 : decode cX8_reason 40 = .ok (.aload_n 0, 1) := by decide +kernel
end
section
theorem dX8_reason_41 : decode cX8_reason 41 = .ok (.getfield 7, 3) := by decide +kernel
theorem dX8_reason_44 : decode cX8_reason 44 = .ok (.iconst 3, 1) := by decide +kernel
theorem dX8_reason_45 : decode cX8_reason 45 = .ok (.iaload, 1) := by decide +kernel
theorem dX8_reason_46 : decode cX8_reason 46 = .ok (.if_icmp .ge 7, 3) := by decide +kernel
theorem dX8_reason_49 : decode cX8_reason 49 = .ok (.iconst 4, 1) := by decide +kernel
theorem dX8_reason_50 : decode cX8_reason 50 = .ok (.goto 4, 3) := by decide +kernel
theorem dX8_reason_53 : decode cX8_reason 53 = .ok (.iconst 0, 1) := by decide +kernel
theorem dX8_reason_54 : decode cX8_reason 54 = .ok (.ireturn, 1) := by decide +kernel
theorem dX8_error_0 : decode cX8_error 0 = .ok (.iconst 3, 1) := by decide +kernel
theorem dX8_error_1 : decode cX8_error 1 = .ok (.iload_n 1, 1) := by decide +kernel
theorem dX8_error_2 : decode cX8_error 2 = .ok (.imul, 1) := by decide +kernel
theorem dX8_error_3 : decode cX8_error 3 = .ok (.bipush 7, 2) := by decide +kernel
theorem dX8_error_5 : decode cX8_error 5 = .ok (.aload_n 0, 1) := by decide +kernel
theorem dX8_error_6 : decode cX8_error 6 = .ok (.iload_n 1, 1) := by decide +kernel
theorem dX8_error_7 : decode cX8_error 7 = .ok (.iconst 4, 1) := by decide +kernel
theorem dX8_error_8 : decode cX8_error 8 = .ok (.invokevirtual 54, 3) := by decide +kernel
theorem dX8_error_11 : decode cX8_error 11 = .ok (.imul, 1) := by decide +kernel
theorem dX8_error_12 : decode cX8_error 12 = .ok (.iadd, 1) := by decide +kernel
theorem dX8_error_13 : decode cX8_error 13 = .ok (.bipush 11, 2) := by decide +kernel
theorem dX8_error_15 : decode cX8_error 15 = .ok (.irem, 1) := by decide +kernel
theorem dX8_error_16 : decode cX8_error 16 = .ok (.iconst 5, 1) := by decide +kernel
theorem dX8_error_17 : decode cX8_error 17 = .ok (.isub, 1) := by decide +kernel
theorem dX8_error_18 : decode cX8_error 18 = .ok (.istore_n 2, 1) := by decide +kernel
theorem dX8_error_19 : decode cX8_error 19 = .ok (.aload_n 0, 1) := by decide +kernel
theorem dX8_error_20 : decode cX8_error 20 = .ok (.iload_n 1, 1) := by decide +kernel
theorem dX8_error_21 : decode cX8_error 21 = .ok (.iconst 1, 1) := by decide +kernel
theorem dX8_error_22 : decode cX8_error 22 = .ok (.invokevirtual 54, 3) := by decide +kernel
theorem dX8_error_25 : decode cX8_error 25 = .ok (.bipush 9, 2) := by decide +kernel
theorem dX8_error_27 : decode cX8_error 27 = .ok (.aload_n 0, 1) := by decide +kernel
theorem dX8_error_28 : decode cX8_error 28 = .ok (.iload_n 1, 1) := by decide +kernel
theorem dX8_error_29 : decode cX8_error 29 = .ok (.iconst 0, 1) := by decide +kernel
theorem dX8_error_30 : decode cX8_error 30 = .ok (.invokevirtual 54, 3) := by decide +kernel
theorem dX8_error_33 : decode cX8_error 33 = .ok (.isub, 1) := by decide +kernel
theorem dX8_error_34 : decode cX8_error 34 = .ok (.iload_n 2, 1) := by decide +kernel
theorem dX8_error_35 : decode cX8_error 35 = .ok (.imul, 1) := by decide +kernel
theorem dX8_error_36 : decode cX8_error 36 = .ok (.iadd, 1) := by decide +kernel
theorem dX8_error_37 : decode cX8_error 37 = .ok (.ireturn, 1) := by decide +kernel
theorem dX8_wouldBelieve_0 : decode cX8_wouldBelieve 0 = .ok (.sipush 5400, 3) := by decide +kernel
theorem dX8_wouldBelieve_3 : decode cX8_wouldBelieve 3 = .ok (.aload_n 0, 1) := by decide +kernel
theorem dX8_wouldBelieve_4 : decode cX8_wouldBelieve 4 = .ok (.iload_n 2, 1) := by decide +kernel
theorem dX8_wouldBelieve_5 : decode cX8_wouldBelieve 5 = .ok (.invokevirtual 58, 3) := by decide +kernel
theorem dX8_wouldBelieve_8 : decode cX8_wouldBelieve 8 = .ok (.isub, 1) := by decide +kernel
theorem dX8_wouldBelieve_9 : decode cX8_wouldBelieve 9 = .ok (.aload_n 0, 1) := by decide +kernel
theorem dX8_wouldBelieve_10 : decode cX8_wouldBelieve 10 = .ok (.iload_n 1, 1) := by decide +kernel
theorem dX8_wouldBelieve_11 : decode cX8_wouldBelieve 11 = .ok (.invokevirtual 61, 3) := by decide +kernel
theorem dX8_wouldBelieve_14 : decode cX8_wouldBelieve 14 = .ok (.isub, 1) := by decide +kernel
theorem dX8_wouldBelieve_15 : decode cX8_wouldBelieve 15 = .ok (.invokestatic 50, 3) := by decide +kernel
theorem dX8_wouldBelieve_18 : decode cX8_wouldBelieve 18 = .ok (.istore_n 3, 1) := by decide +kernel
theorem dX8_wouldBelieve_19 : decode cX8_wouldBelieve 19 = .ok (.aload_n 0, 1) := by decide +kernel
theorem dX8_wouldBelieve_20 : decode cX8_wouldBelieve 20 = .ok (.getfield 7, 3) := by decide +kernel
theorem dX8_wouldBelieve_23 : decode cX8_wouldBelieve 23 = .ok (.bipush 15, 2) := by decide +kernel
theorem dX8_wouldBelieve_25 : decode cX8_wouldBelieve 25 = .ok (.iload_n 2, 1) := by decide +kernel
theorem dX8_wouldBelieve_26 : decode cX8_wouldBelieve 26 = .ok (.iadd, 1) := by decide +kernel
theorem dX8_wouldBelieve_27 : decode cX8_wouldBelieve 27 = .ok (.iaload, 1) := by decide +kernel
theorem dX8_wouldBelieve_28 : decode cX8_wouldBelieve 28 = .ok (.istore 4, 2) := by decide +kernel
theorem dX8_wouldBelieve_30 : decode cX8_wouldBelieve 30 = .ok (.aload_n 0, 1) := by decide +kernel
theorem dX8_wouldBelieve_31 : decode cX8_wouldBelieve 31 = .ok (.iload_n 1, 1) := by decide +kernel
theorem dX8_wouldBelieve_32 : decode cX8_wouldBelieve 32 = .ok (.iconst 2, 1) := by decide +kernel
theorem dX8_wouldBelieve_33 : decode cX8_wouldBelieve 33 = .ok (.invokevirtual 54, 3) := by decide +kernel
theorem dX8_wouldBelieve_36 : decode cX8_wouldBelieve 36 = .ok (.iconst 1, 1) := by decide +kernel
theorem dX8_wouldBelieve_37 : decode cX8_wouldBelieve 37 = .ok (.if_icmp .ne 10, 3) := by decide +kernel
theorem dX8_wouldBelieve_40 : decode cX8_wouldBelieve 40 = .ok (.iload 4, 2) := by decide +kernel
theorem dX8_wouldBelieve_42 : decode cX8_wouldBelieve 42 = .ok (.iload_n 3, 1) := by decide +kernel
theorem dX8_wouldBelieve_43 : decode cX8_wouldBelieve 43 = .ok (.iadd, 1) := by decide +kernel
theorem dX8_wouldBelieve_44 : decode cX8_wouldBelieve 44 = .ok (.goto 7, 3) := by decide +kernel
theorem dX8_wouldBelieve_47 : decode cX8_wouldBelieve 47 = .ok (.iload 4, 2) := by decide +kernel
theorem dX8_wouldBelieve_49 : decode cX8_wouldBelieve 49 = .ok (.iload_n 3, 1) := by decide +kernel
theorem dX8_wouldBelieve_50 : decode cX8_wouldBelieve 50 = .ok (.isub, 1) := by decide +kernel
theorem dX8_wouldBelieve_51 : decode cX8_wouldBelieve 51 = .ok (.invokestatic 64, 3) := by decide +kernel
theorem dX8_wouldBelieve_54 : decode cX8_wouldBelieve 54 = .ok (.ireturn, 1) := by decide +kernel
theorem dX8_whyNot_0 : decode cX8_whyNot 0 = .ok (.iload_n 1, 1) := by decide +kernel
theorem dX8_whyNot_1 : decode cX8_whyNot 1 = .ok (.invokestatic 67, 3) := by decide +kernel
theorem dX8_whyNot_4 : decode cX8_whyNot 4 = .ok (.ifCond .eq 11, 3) := by decide +kernel
theorem dX8_whyNot_7 : decode cX8_whyNot 7 = .ok (.aload_n 0, 1) := by decide +kernel
theorem dX8_whyNot_8 : decode cX8_whyNot 8 = .ok (.iload_n 2, 1) := by decide +kernel
theorem dX8_whyNot_9 : decode cX8_whyNot 9 = .ok (.invokevirtual 70, 3) := by decide +kernel
theorem dX8_whyNot_12 : decode cX8_whyNot 12 = .ok (.ifCond .ne 7, 3) := by decide +kernel
theorem dX8_whyNot_15 : decode cX8_whyNot 15 = .ok (.iconst (-1), 1) := by decide +kernel
theorem dX8_whyNot_16 : decode cX8_whyNot 16 = .ok (.goto 18, 3) := by decide +kernel
theorem dX8_whyNot_19 : decode cX8_whyNot 19 = .ok (.aload_n 0, 1) := by decide +kernel
theorem dX8_whyNot_20 : decode cX8_whyNot 20 = .ok (.iload_n 1, 1) := by decide +kernel
theorem dX8_whyNot_21 : decode cX8_whyNot 21 = .ok (.iload_n 2, 1) := by decide +kernel
theorem dX8_whyNot_22 : decode cX8_whyNot 22 = .ok (.invokevirtual 73, 3) := by decide +kernel
theorem dX8_whyNot_25 : decode cX8_whyNot 25 = .ok (.ifCond .eq 8, 3) := by decide +kernel
theorem dX8_whyNot_28 : decode cX8_whyNot 28 = .ok (.bipush (-5), 2) := by decide +kernel
theorem dX8_whyNot_30 : decode cX8_whyNot 30 = .ok (.goto 4, 3) := by decide +kernel
theorem dX8_whyNot_33 : decode cX8_whyNot 33 = .ok (.iconst 0, 1) := by decide +kernel
theorem dX8_whyNot_34 : decode cX8_whyNot 34 = .ok (.ireturn, 1) := by decide +kernel
theorem dX8_sights_0 : decode cX8_sights 0 = .ok (.aload_n 0, 1) := by decide +kernel
theorem dX8_sights_1 : decode cX8_sights 1 = .ok (.iload_n 1, 1) := by decide +kernel
theorem dX8_sights_2 : decode cX8_sights 2 = .ok (.iload_n 2, 1) := by decide +kernel
theorem dX8_sights_3 : decode cX8_sights 3 = .ok (.invokevirtual 76, 3) := by decide +kernel
theorem dX8_sights_6 : decode cX8_sights 6 = .ok (.istore_n 3, 1) := by decide +kernel
theorem dX8_sights_7 : decode cX8_sights 7 = .ok (.iload_n 3, 1) := by decide +kernel
theorem dX8_sights_8 : decode cX8_sights 8 = .ok (.ifCond .eq 5, 3) := by decide +kernel
theorem dX8_sights_11 : decode cX8_sights 11 = .ok (.iload_n 3, 1) := by decide +kernel
theorem dX8_sights_12 : decode cX8_sights 12 = .ok (.ireturn, 1) := by decide +kernel
theorem dX8_sights_13 : decode cX8_sights 13 = .ok (.aload_n 0, 1) := by decide +kernel
theorem dX8_sights_14 : decode cX8_sights 14 = .ok (.iload_n 1, 1) := by decide +kernel
theorem dX8_sights_15 : decode cX8_sights 15 = .ok (.bipush 6, 2) := by decide +kernel
theorem dX8_sights_17 : decode cX8_sights 17 = .ok (.aload_n 0, 1) := by decide +kernel
theorem dX8_sights_18 : decode cX8_sights 18 = .ok (.iload_n 1, 1) := by decide +kernel
theorem dX8_sights_19 : decode cX8_sights 19 = .ok (.iload_n 2, 1) := by decide +kernel
theorem dX8_sights_20 : decode cX8_sights 20 = .ok (.invokevirtual 79, 3) := by decide +kernel
theorem dX8_sights_23 : decode cX8_sights 23 = .ok (.invokevirtual 28, 3) := by decide +kernel
theorem dX8_sights_26 : decode cX8_sights 26 = .ok (.aload_n 0, 1) := by decide +kernel
theorem dX8_sights_27 : decode cX8_sights 27 = .ok (.iload_n 1, 1) := by decide +kernel
theorem dX8_sights_28 : decode cX8_sights 28 = .ok (.iconst 5, 1) := by decide +kernel
theorem dX8_sights_29 : decode cX8_sights 29 = .ok (.iconst 1, 1) := by decide +kernel
theorem dX8_sights_30 : decode cX8_sights 30 = .ok (.invokevirtual 28, 3) := by decide +kernel
theorem dX8_sights_33 : decode cX8_sights 33 = .ok (.aload_n 0, 1) := by decide +kernel
theorem dX8_sights_34 : decode cX8_sights 34 = .ok (.iload_n 1, 1) := by decide +kernel
theorem dX8_sights_35 : decode cX8_sights 35 = .ok (.iconst 4, 1) := by decide +kernel
theorem dX8_sights_36 : decode cX8_sights 36 = .ok (.aload_n 0, 1) := by decide +kernel
theorem dX8_sights_37 : decode cX8_sights 37 = .ok (.iload_n 1, 1) := by decide +kernel
theorem dX8_sights_38 : decode cX8_sights 38 = .ok (.iconst 4, 1) := by decide +kernel
theorem dX8_sights_39 : decode cX8_sights 39 = .ok (.invokevirtual 54, 3) := by decide +kernel
theorem dX8_sights_42 : decode cX8_sights 42 = .ok (.iconst 1, 1) := by decide +kernel
theorem dX8_sights_43 : decode cX8_sights 43 = .ok (.iadd, 1) := by decide +kernel
theorem dX8_sights_44 : decode cX8_sights 44 = .ok (.invokevirtual 28, 3) := by decide +kernel
theorem dX8_sights_47 : decode cX8_sights 47 = .ok (.aload_n 0, 1) := by decide +kernel
theorem dX8_sights_48 : decode cX8_sights 48 = .ok (.getfield 7, 3) := by decide +kernel
theorem dX8_sights_51 : decode cX8_sights 51 = .ok (.bipush 10, 2) := by decide +kernel
theorem dX8_sights_53 : decode cX8_sights 53 = .ok (.dup2, 1) := by decide +kernel
theorem dX8_sights_54 : decode cX8_sights 54 = .ok (.iaload, 1) := by decide +kernel
theorem dX8_sights_55 : decode cX8_sights 55 = .ok (.iconst 1, 1) := by decide +kernel
theorem dX8_sights_56 : decode cX8_sights 56 = .ok (.iadd, 1) := by decide +kernel
theorem dX8_sights_57 : decode cX8_sights 57 = .ok (.iastore, 1) := by decide +kernel
theorem dX8_sights_58 : decode cX8_sights 58 = .ok (.aload_n 0, 1) := by decide +kernel
theorem dX8_sights_59 : decode cX8_sights 59 = .ok (.iload_n 1, 1) := by decide +kernel
theorem dX8_sights_60 : decode cX8_sights 60 = .ok (.bipush 6, 2) := by decide +kernel
theorem dX8_sights_62 : decode cX8_sights 62 = .ok (.invokevirtual 54, 3) := by decide +kernel
theorem dX8_sights_65 : decode cX8_sights 65 = .ok (.sipush 5400, 3) := by decide +kernel
theorem dX8_sights_68 : decode cX8_sights 68 = .ok (.iadd, 1) := by decide +kernel
theorem dX8_sights_69 : decode cX8_sights 69 = .ok (.ireturn, 1) := by decide +kernel
theorem dX8_takesPart_0 : decode cX8_takesPart 0 = .ok (.iload_n 1, 1) := by decide +kernel
theorem dX8_takesPart_1 : decode cX8_takesPart 1 = .ok (.iload_n 2, 1) := by decide +kernel
theorem dX8_takesPart_2 : decode cX8_takesPart 2 = .ok (.if_icmp .eq 27, 3) := by decide +kernel
theorem dX8_takesPart_5 : decode cX8_takesPart 5 = .ok (.aload_n 0, 1) := by decide +kernel
theorem dX8_takesPart_6 : decode cX8_takesPart 6 = .ok (.iload_n 1, 1) := by decide +kernel
theorem dX8_takesPart_7 : decode cX8_takesPart 7 = .ok (.bipush 7, 2) := by decide +kernel
theorem dX8_takesPart_9 : decode cX8_takesPart 9 = .ok (.invokevirtual 54, 3) := by decide +kernel
theorem dX8_takesPart_12 : decode cX8_takesPart 12 = .ok (.ifCond .ne 17, 3) := by decide +kernel
theorem dX8_takesPart_15 : decode cX8_takesPart 15 = .ok (.aload_n 0, 1) := by decide +kernel
theorem dX8_takesPart_16 : decode cX8_takesPart 16 = .ok (.iload_n 1, 1) := by decide +kernel
theorem dX8_takesPart_17 : decode cX8_takesPart 17 = .ok (.iconst 5, 1) := by decide +kernel
theorem dX8_takesPart_18 : decode cX8_takesPart 18 = .ok (.invokevirtual 54, 3) := by decide +kernel
theorem dX8_takesPart_21 : decode cX8_takesPart 21 = .ok (.iconst 1, 1) := by decide +kernel
theorem dX8_takesPart_22 : decode cX8_takesPart 22 = .ok (.if_icmp .ne 7, 3) := by decide +kernel
theorem dX8_takesPart_25 : decode cX8_takesPart 25 = .ok (.iconst 1, 1) := by decide +kernel
theorem dX8_takesPart_26 : decode cX8_takesPart 26 = .ok (.goto 4, 3) := by decide +kernel
theorem dX8_takesPart_29 : decode cX8_takesPart 29 = .ok (.iconst 0, 1) := by decide +kernel
theorem dX8_takesPart_30 : decode cX8_takesPart 30 = .ok (.ireturn, 1) := by decide +kernel
theorem dX8_parts_0 : decode cX8_parts 0 = .ok (.iconst 0, 1) := by decide +kernel
theorem dX8_parts_1 : decode cX8_parts 1 = .ok (.istore_n 2, 1) := by decide +kernel
theorem dX8_parts_2 : decode cX8_parts 2 = .ok (.iconst 0, 1) := by decide +kernel
theorem dX8_parts_3 : decode cX8_parts 3 = .ok (.istore_n 3, 1) := by decide +kernel
theorem dX8_parts_4 : decode cX8_parts 4 = .ok (.iload_n 3, 1) := by decide +kernel
theorem dX8_parts_5 : decode cX8_parts 5 = .ok (.bipush 7, 2) := by decide +kernel
theorem dX8_parts_7 : decode cX8_parts 7 = .ok (.if_icmp .ge 26, 3) := by decide +kernel
theorem dX8_parts_10 : decode cX8_parts 10 = .ok (.iload_n 2, 1) := by decide +kernel
theorem dX8_parts_11 : decode cX8_parts 11 = .ok (.aload_n 0, 1) := by decide +kernel
theorem dX8_parts_12 : decode cX8_parts 12 = .ok (.iload_n 3, 1) := by decide +kernel
theorem dX8_parts_13 : decode cX8_parts 13 = .ok (.iload_n 1, 1) := by decide +kernel
theorem dX8_parts_14 : decode cX8_parts 14 = .ok (.invokevirtual 82, 3) := by decide +kernel
theorem dX8_parts_17 : decode cX8_parts 17 = .ok (.ifCond .eq 7, 3) := by decide +kernel
theorem dX8_parts_20 : decode cX8_parts 20 = .ok (.iconst 1, 1) := by decide +kernel
theorem dX8_parts_21 : decode cX8_parts 21 = .ok (.goto 4, 3) := by decide +kernel
theorem dX8_parts_24 : decode cX8_parts 24 = .ok (.iconst 0, 1) := by decide +kernel
theorem dX8_parts_25 : decode cX8_parts 25 = .ok (.iadd, 1) := by decide +kernel
theorem dX8_parts_26 : decode cX8_parts 26 = .ok (.istore_n 2, 1) := by decide +kernel
theorem dX8_parts_27 : decode cX8_parts 27 = .ok (.iinc 3 1, 3) := by decide +kernel
theorem dX8_parts_30 : decode cX8_parts 30 = .ok (.goto (-26), 3) := by decide +kernel
theorem dX8_parts_33 : decode cX8_parts 33 = .ok (.iload_n 2, 1) := by decide +kernel
theorem dX8_parts_34 : decode cX8_parts 34 = .ok (.ireturn, 1) := by decide +kernel
theorem dX8_lower_0 : decode cX8_lower 0 = .ok (.iconst 0, 1) := by decide +kernel
theorem dX8_lower_1 : decode cX8_lower 1 = .ok (.istore_n 3, 1) := by decide +kernel
theorem dX8_lower_2 : decode cX8_lower 2 = .ok (.aload_n 0, 1) := by decide +kernel
theorem dX8_lower_3 : decode cX8_lower 3 = .ok (.iload_n 1, 1) := by decide +kernel
theorem dX8_lower_4 : decode cX8_lower 4 = .ok (.bipush 6, 2) := by decide +kernel
theorem dX8_lower_6 : decode cX8_lower 6 = .ok (.invokevirtual 54, 3) := by decide +kernel
theorem dX8_lower_9 : decode cX8_lower 9 = .ok (.istore 4, 2) := by decide +kernel
theorem dX8_lower_11 : decode cX8_lower 11 = .ok (.iconst 0, 1) := by decide +kernel
theorem dX8_lower_12 : decode cX8_lower 12 = .ok (.istore 5, 2) := by decide +kernel
theorem dX8_lower_14 : decode cX8_lower 14 = .ok (.iload 5, 2) := by decide +kernel
theorem dX8_lower_16 : decode cX8_lower 16 = .ok (.bipush 7, 2) := by decide +kernel
theorem dX8_lower_18 : decode cX8_lower 18 = .ok (.if_icmp .ge 57, 3) := by decide +kernel
theorem dX8_lower_21 : decode cX8_lower 21 = .ok (.aload_n 0, 1) := by decide +kernel
theorem dX8_lower_22 : decode cX8_lower 22 = .ok (.iload 5, 2) := by decide +kernel
theorem dX8_lower_24 : decode cX8_lower 24 = .ok (.bipush 6, 2) := by decide +kernel
theorem dX8_lower_26 : decode cX8_lower 26 = .ok (.invokevirtual 54, 3) := by decide +kernel
theorem dX8_lower_29 : decode cX8_lower 29 = .ok (.istore 6, 2) := by decide +kernel
theorem dX8_lower_31 : decode cX8_lower 31 = .ok (.iload_n 3, 1) := by decide +kernel
theorem dX8_lower_32 : decode cX8_lower 32 = .ok (.aload_n 0, 1) := by decide +kernel
theorem dX8_lower_33 : decode cX8_lower 33 = .ok (.iload 5, 2) := by decide +kernel
theorem dX8_lower_35 : decode cX8_lower 35 = .ok (.iload_n 2, 1) := by decide +kernel
theorem dX8_lower_36 : decode cX8_lower 36 = .ok (.invokevirtual 82, 3) := by decide +kernel
theorem dX8_lower_39 : decode cX8_lower 39 = .ok (.ifCond .eq 27, 3) := by decide +kernel
theorem dX8_lower_42 : decode cX8_lower 42 = .ok (.iload 6, 2) := by decide +kernel
theorem dX8_lower_44 : decode cX8_lower 44 = .ok (.iload 4, 2) := by decide +kernel
theorem dX8_lower_46 : decode cX8_lower 46 = .ok (.if_icmp .lt 16, 3) := by decide +kernel
theorem dX8_lower_49 : decode cX8_lower 49 = .ok (.iload 6, 2) := by decide +kernel
theorem dX8_lower_51 : decode cX8_lower 51 = .ok (.iload 4, 2) := by decide +kernel
theorem dX8_lower_53 : decode cX8_lower 53 = .ok (.if_icmp .ne 13, 3) := by decide +kernel
theorem dX8_lower_56 : decode cX8_lower 56 = .ok (.iload 5, 2) := by decide +kernel
theorem dX8_lower_58 : decode cX8_lower 58 = .ok (.iload_n 1, 1) := by decide +kernel
theorem dX8_lower_59 : decode cX8_lower 59 = .ok (.if_icmp .ge 7, 3) := by decide +kernel
theorem dX8_lower_62 : decode cX8_lower 62 = .ok (.iconst 1, 1) := by decide +kernel
theorem dX8_lower_63 : decode cX8_lower 63 = .ok (.goto 4, 3) := by decide +kernel
theorem dX8_lower_66 : decode cX8_lower 66 = .ok (.iconst 0, 1) := by decide +kernel
theorem dX8_lower_67 : decode cX8_lower 67 = .ok (.iadd, 1) := by decide +kernel
theorem dX8_lower_68 : decode cX8_lower 68 = .ok (.istore_n 3, 1) := by decide +kernel
theorem dX8_lower_69 : decode cX8_lower 69 = .ok (.iinc 5 1, 3) := by decide +kernel
theorem dX8_lower_72 : decode cX8_lower 72 = .ok (.goto (-58), 3) := by decide +kernel
theorem dX8_lower_75 : decode cX8_lower 75 = .ok (.iload_n 3, 1) := by decide +kernel
theorem dX8_lower_76 : decode cX8_lower 76 = .ok (.ireturn, 1) := by decide +kernel
theorem dX8_middle_0 : decode cX8_middle 0 = .ok (.aload_n 0, 1) := by decide +kernel
theorem dX8_middle_1 : decode cX8_middle 1 = .ok (.iload_n 1, 1) := by decide +kernel
theorem dX8_middle_2 : decode cX8_middle 2 = .ok (.invokevirtual 86, 3) := by decide +kernel
theorem dX8_middle_5 : decode cX8_middle 5 = .ok (.iconst 1, 1) := by decide +kernel
theorem dX8_middle_6 : decode cX8_middle 6 = .ok (.isub, 1) := by decide +kernel
theorem dX8_middle_7 : decode cX8_middle 7 = .ok (.iconst 2, 1) := by decide +kernel
theorem dX8_middle_8 : decode cX8_middle 8 = .ok (.idiv, 1) := by decide +kernel
theorem dX8_middle_9 : decode cX8_middle 9 = .ok (.istore_n 2, 1) := by decide +kernel
theorem dX8_middle_10 : decode cX8_middle 10 = .ok (.iconst 0, 1) := by decide +kernel
theorem dX8_middle_11 : decode cX8_middle 11 = .ok (.istore_n 3, 1) := by decide +kernel
theorem dX8_middle_12 : decode cX8_middle 12 = .ok (.iconst 0, 1) := by decide +kernel
theorem dX8_middle_13 : decode cX8_middle 13 = .ok (.istore 4, 2) := by decide +kernel
theorem dX8_middle_15 : decode cX8_middle 15 = .ok (.iload 4, 2) := by decide +kernel
theorem dX8_middle_17 : decode cX8_middle 17 = .ok (.bipush 7, 2) := by decide +kernel
theorem dX8_middle_19 : decode cX8_middle 19 = .ok (.if_icmp .ge 43, 3) := by decide +kernel
theorem dX8_middle_22 : decode cX8_middle 22 = .ok (.aload_n 0, 1) := by decide +kernel
theorem dX8_middle_23 : decode cX8_middle 23 = .ok (.iload 4, 2) := by decide +kernel
theorem dX8_middle_25 : decode cX8_middle 25 = .ok (.iload_n 1, 1) := by decide +kernel
theorem dX8_middle_26 : decode cX8_middle 26 = .ok (.invokevirtual 82, 3) := by decide +kernel
theorem dX8_middle_29 : decode cX8_middle 29 = .ok (.ifCond .eq 25, 3) := by decide +kernel
theorem dX8_middle_32 : decode cX8_middle 32 = .ok (.aload_n 0, 1) := by decide +kernel
theorem dX8_middle_33 : decode cX8_middle 33 = .ok (.iload 4, 2) := by decide +kernel
theorem dX8_middle_35 : decode cX8_middle 35 = .ok (.iload_n 1, 1) := by decide +kernel
theorem dX8_middle_36 : decode cX8_middle 36 = .ok (.invokevirtual 89, 3) := by decide +kernel
theorem dX8_middle_39 : decode cX8_middle 39 = .ok (.iload_n 2, 1) := by decide +kernel
theorem dX8_middle_40 : decode cX8_middle 40 = .ok (.if_icmp .ne 14, 3) := by decide +kernel
theorem dX8_middle_43 : decode cX8_middle 43 = .ok (.aload_n 0, 1) := by decide +kernel
theorem dX8_middle_44 : decode cX8_middle 44 = .ok (.iload 4, 2) := by decide +kernel
theorem dX8_middle_46 : decode cX8_middle 46 = .ok (.bipush 6, 2) := by decide +kernel
theorem dX8_middle_48 : decode cX8_middle 48 = .ok (.invokevirtual 54, 3) := by decide +kernel
theorem dX8_middle_51 : decode cX8_middle 51 = .ok (.goto 4, 3) := by decide +kernel
theorem dX8_middle_54 : decode cX8_middle 54 = .ok (.iload_n 3, 1) := by decide +kernel
theorem dX8_middle_55 : decode cX8_middle 55 = .ok (.istore_n 3, 1) := by decide +kernel
theorem dX8_middle_56 : decode cX8_middle 56 = .ok (.iinc 4 1, 3) := by decide +kernel
theorem dX8_middle_59 : decode cX8_middle 59 = .ok (.goto (-44), 3) := by decide +kernel
theorem dX8_middle_62 : decode cX8_middle 62 = .ok (.iload_n 3, 1) := by decide +kernel
theorem dX8_middle_63 : decode cX8_middle 63 = .ok (.ireturn, 1) := by decide +kernel
theorem dX8_judge_0 : decode cX8_judge 0 = .ok (.aload_n 0, 1) := by decide +kernel
theorem dX8_judge_1 : decode cX8_judge 1 = .ok (.iload_n 1, 1) := by decide +kernel
theorem dX8_judge_2 : decode cX8_judge 2 = .ok (.bipush 6, 2) := by decide +kernel
theorem dX8_judge_4 : decode cX8_judge 4 = .ok (.invokevirtual 54, 3) := by decide +kernel
theorem dX8_judge_7 : decode cX8_judge 7 = .ok (.iload_n 2, 1) := by decide +kernel
theorem dX8_judge_8 : decode cX8_judge 8 = .ok (.isub, 1) := by decide +kernel
theorem dX8_judge_9 : decode cX8_judge 9 = .ok (.invokestatic 50, 3) := by decide +kernel
theorem dX8_judge_12 : decode cX8_judge 12 = .ok (.aload_n 0, 1) := by decide +kernel
theorem dX8_judge_13 : decode cX8_judge 13 = .ok (.getfield 7, 3) := by decide +kernel
theorem dX8_judge_16 : decode cX8_judge 16 = .ok (.iconst 2, 1) := by decide +kernel
theorem dX8_judge_17 : decode cX8_judge 17 = .ok (.iaload, 1) := by decide +kernel
theorem dX8_judge_18 : decode cX8_judge 18 = .ok (.if_icmp .le 7, 3) := by decide +kernel
theorem dX8_judge_21 : decode cX8_judge 21 = .ok (.iconst 1, 1) := by decide +kernel
theorem dX8_judge_22 : decode cX8_judge 22 = .ok (.goto 4, 3) := by decide +kernel
theorem dX8_judge_25 : decode cX8_judge 25 = .ok (.iconst 0, 1) := by decide +kernel
theorem dX8_judge_26 : decode cX8_judge 26 = .ok (.istore_n 3, 1) := by decide +kernel
theorem dX8_judge_27 : decode cX8_judge 27 = .ok (.iload_n 3, 1) := by decide +kernel
theorem dX8_judge_28 : decode cX8_judge 28 = .ok (.ifCond .eq 14, 3) := by decide +kernel
theorem dX8_judge_31 : decode cX8_judge 31 = .ok (.aload_n 0, 1) := by decide +kernel
theorem dX8_judge_32 : decode cX8_judge 32 = .ok (.iload_n 1, 1) := by decide +kernel
theorem dX8_judge_33 : decode cX8_judge 33 = .ok (.iconst 3, 1) := by decide +kernel
theorem dX8_judge_34 : decode cX8_judge 34 = .ok (.invokevirtual 54, 3) := by decide +kernel
theorem dX8_judge_37 : decode cX8_judge 37 = .ok (.iconst 1, 1) := by decide +kernel
theorem dX8_judge_38 : decode cX8_judge 38 = .ok (.iadd, 1) := by decide +kernel
theorem dX8_judge_39 : decode cX8_judge 39 = .ok (.goto 4, 3) := by decide +kernel
theorem dX8_judge_42 : decode cX8_judge 42 = .ok (.iconst 0, 1) := by decide +kernel
theorem dX8_judge_43 : decode cX8_judge 43 = .ok (.istore 4, 2) := by decide +kernel
theorem dX8_judge_45 : decode cX8_judge 45 = .ok (.aload_n 0, 1) := by decide +kernel
theorem dX8_judge_46 : decode cX8_judge 46 = .ok (.iload_n 1, 1) := by decide +kernel
theorem dX8_judge_47 : decode cX8_judge 47 = .ok (.iconst 3, 1) := by decide +kernel
theorem dX8_judge_48 : decode cX8_judge 48 = .ok (.iload 4, 2) := by decide +kernel
theorem dX8_judge_50 : decode cX8_judge 50 = .ok (.invokevirtual 28, 3) := by decide +kernel
theorem dX8_judge_53 : decode cX8_judge 53 = .ok (.aload_n 0, 1) := by decide +kernel
theorem dX8_judge_54 : decode cX8_judge 54 = .ok (.getfield 7, 3) := by decide +kernel
theorem dX8_judge_57 : decode cX8_judge 57 = .ok (.bipush 12, 2) := by decide +kernel
theorem dX8_judge_59 : decode cX8_judge 59 = .ok (.dup2, 1) := by decide +kernel
theorem dX8_judge_60 : decode cX8_judge 60 = .ok (.iaload, 1) := by decide +kernel
theorem dX8_judge_61 : decode cX8_judge 61 = .ok (.iload_n 3, 1) := by decide +kernel
theorem dX8_judge_62 : decode cX8_judge 62 = .ok (.ifCond .eq 7, 3) := by decide +kernel
theorem dX8_judge_65 : decode cX8_judge 65 = .ok (.iconst 1, 1) := by decide +kernel
theorem dX8_judge_66 : decode cX8_judge 66 = .ok (.goto 4, 3) := by decide +kernel
theorem dX8_judge_69 : decode cX8_judge 69 = .ok (.iconst 0, 1) := by decide +kernel
theorem dX8_judge_70 : decode cX8_judge 70 = .ok (.iadd, 1) := by decide +kernel
theorem dX8_judge_71 : decode cX8_judge 71 = .ok (.iastore, 1) := by decide +kernel
theorem dX8_judge_72 : decode cX8_judge 72 = .ok (.aload_n 0, 1) := by decide +kernel
theorem dX8_judge_73 : decode cX8_judge 73 = .ok (.iload_n 1, 1) := by decide +kernel
theorem dX8_judge_74 : decode cX8_judge 74 = .ok (.iconst 5, 1) := by decide +kernel
theorem dX8_judge_75 : decode cX8_judge 75 = .ok (.iconst 0, 1) := by decide +kernel
theorem dX8_judge_76 : decode cX8_judge 76 = .ok (.invokevirtual 28, 3) := by decide +kernel
theorem dX8_judge_79 : decode cX8_judge 79 = .ok (.aload_n 0, 1) := by decide +kernel
theorem dX8_judge_80 : decode cX8_judge 80 = .ok (.iload_n 1, 1) := by decide +kernel
theorem dX8_judge_81 : decode cX8_judge 81 = .ok (.bipush 6, 2) := by decide +kernel
theorem dX8_judge_83 : decode cX8_judge 83 = .ok (.iconst 0, 1) := by decide +kernel
theorem dX8_judge_84 : decode cX8_judge 84 = .ok (.invokevirtual 28, 3) := by decide +kernel
theorem dX8_judge_87 : decode cX8_judge 87 = .ok (.iload 4, 2) := by decide +kernel
theorem dX8_judge_89 : decode cX8_judge 89 = .ok (.iconst 3, 1) := by decide +kernel
theorem dX8_judge_90 : decode cX8_judge 90 = .ok (.if_icmp .lt 11, 3) := by decide +kernel
theorem dX8_judge_93 : decode cX8_judge 93 = .ok (.aload_n 0, 1) := by decide +kernel
theorem dX8_judge_94 : decode cX8_judge 94 = .ok (.iload_n 1, 1) := by decide +kernel
theorem dX8_judge_95 : decode cX8_judge 95 = .ok (.bipush 7, 2) := by decide +kernel
theorem dX8_judge_97 : decode cX8_judge 97 = .ok (.iconst 2, 1) := by decide +kernel
theorem dX8_judge_98 : decode cX8_judge 98 = .ok (.invokevirtual 28, 3) := by decide +kernel
theorem dX8_judge_101 : decode cX8_judge 101 = .ok (.return_, 1) := by decide +kernel
theorem dX8_agrees_0 : decode cX8_agrees 0 = .ok (.aload_n 0, 1) := by decide +kernel
theorem dX8_agrees_1 : decode cX8_agrees 1 = .ok (.bipush (-6), 2) := by decide +kernel
theorem dX8_agrees_3 : decode cX8_agrees 3 = .ok (.invokevirtual 86, 3) := by decide +kernel
theorem dX8_agrees_6 : decode cX8_agrees 6 = .ok (.iconst 3, 1) := by decide +kernel
theorem dX8_agrees_7 : decode cX8_agrees 7 = .ok (.if_icmp .ge 6, 3) := by decide +kernel
theorem dX8_agrees_10 : decode cX8_agrees 10 = .ok (.bipush (-5), 2) := by decide +kernel
theorem dX8_agrees_12 : decode cX8_agrees 12 = .ok (.ireturn, 1) := by decide +kernel
theorem dX8_agrees_13 : decode cX8_agrees 13 = .ok (.aload_n 0, 1) := by decide +kernel
theorem dX8_agrees_14 : decode cX8_agrees 14 = .ok (.bipush (-6), 2) := by decide +kernel
theorem dX8_agrees_16 : decode cX8_agrees 16 = .ok (.invokevirtual 92, 3) := by decide +kernel
theorem dX8_agrees_19 : decode cX8_agrees 19 = .ok (.istore_n 1, 1) := by decide +kernel
theorem dX8_agrees_20 : decode cX8_agrees 20 = .ok (.iconst 0, 1) := by decide +kernel
theorem dX8_agrees_21 : decode cX8_agrees 21 = .ok (.istore_n 2, 1) := by decide +kernel
theorem dX8_agrees_22 : decode cX8_agrees 22 = .ok (.iload_n 2, 1) := by decide +kernel
theorem dX8_agrees_23 : decode cX8_agrees 23 = .ok (.bipush 7, 2) := by decide +kernel
theorem dX8_agrees_25 : decode cX8_agrees 25 = .ok (.if_icmp .ge 25, 3) := by decide +kernel
theorem dX8_agrees_28 : decode cX8_agrees 28 = .ok (.aload_n 0, 1) := by decide +kernel
theorem dX8_agrees_29 : decode cX8_agrees 29 = .ok (.iload_n 2, 1) := by decide +kernel
theorem dX8_agrees_30 : decode cX8_agrees 30 = .ok (.bipush (-6), 2) := by decide +kernel
theorem dX8_agrees_32 : decode cX8_agrees 32 = .ok (.invokevirtual 82, 3) := by decide +kernel
theorem dX8_agrees_35 : decode cX8_agrees 35 = .ok (.ifCond .eq 9, 3) := by decide +kernel
theorem dX8_agrees_38 : decode cX8_agrees 38 = .ok (.aload_n 0, 1) := by decide +kernel
theorem dX8_agrees_39 : decode cX8_agrees 39 = .ok (.iload_n 2, 1) := by decide +kernel
theorem dX8_agrees_40 : decode cX8_agrees 40 = .ok (.iload_n 1, 1) := by decide +kernel
theorem dX8_agrees_41 : decode cX8_agrees 41 = .ok (.invokevirtual 95, 3) := by decide +kernel
theorem dX8_agrees_44 : decode cX8_agrees 44 = .ok (.iinc 2 1, 3) := by decide +kernel
theorem dX8_agrees_47 : decode cX8_agrees 47 = .ok (.goto (-25), 3) := by decide +kernel
theorem dX8_agrees_50 : decode cX8_agrees 50 = .ok (.aload_n 0, 1) := by decide +kernel
theorem dX8_agrees_51 : decode cX8_agrees 51 = .ok (.getfield 7, 3) := by decide +kernel
theorem dX8_agrees_54 : decode cX8_agrees 54 = .ok (.iconst 5, 1) := by decide +kernel
theorem dX8_agrees_55 : decode cX8_agrees 55 = .ok (.iconst 1, 1) := by decide +kernel
theorem dX8_agrees_56 : decode cX8_agrees 56 = .ok (.iastore, 1) := by decide +kernel
theorem dX8_agrees_57 : decode cX8_agrees 57 = .ok (.aload_n 0, 1) := by decide +kernel
theorem dX8_agrees_58 : decode cX8_agrees 58 = .ok (.getfield 7, 3) := by decide +kernel
theorem dX8_agrees_61 : decode cX8_agrees 61 = .ok (.bipush 6, 2) := by decide +kernel
theorem dX8_agrees_63 : decode cX8_agrees 63 = .ok (.iload_n 1, 1) := by decide +kernel
theorem dX8_agrees_64 : decode cX8_agrees 64 = .ok (.iastore, 1) := by decide +kernel
theorem dX8_agrees_65 : decode cX8_agrees 65 = .ok (.aload_n 0, 1) := by decide +kernel
theorem dX8_agrees_66 : decode cX8_agrees 66 = .ok (.getfield 7, 3) := by decide +kernel
theorem dX8_agrees_69 : decode cX8_agrees 69 = .ok (.bipush 11, 2) := by decide +kernel
theorem dX8_agrees_71 : decode cX8_agrees 71 = .ok (.dup2, 1) := by decide +kernel
theorem dX8_agrees_72 : decode cX8_agrees 72 = .ok (.iaload, 1) := by decide +kernel
theorem dX8_agrees_73 : decode cX8_agrees 73 = .ok (.iconst 1, 1) := by decide +kernel
theorem dX8_agrees_74 : decode cX8_agrees 74 = .ok (.iadd, 1) := by decide +kernel
theorem dX8_agrees_75 : decode cX8_agrees 75 = .ok (.iastore, 1) := by decide +kernel
theorem dX8_agrees_76 : decode cX8_agrees 76 = .ok (.iload_n 1, 1) := by decide +kernel
theorem dX8_agrees_77 : decode cX8_agrees 77 = .ok (.sipush 5400, 3) := by decide +kernel
theorem dX8_agrees_80 : decode cX8_agrees 80 = .ok (.iadd, 1) := by decide +kernel
theorem dX8_agrees_81 : decode cX8_agrees 81 = .ok (.ireturn, 1) := by decide +kernel
theorem dX8_passHour_0 : decode cX8_passHour 0 = .ok (.aload_n 0, 1) := by decide +kernel
theorem dX8_passHour_1 : decode cX8_passHour 1 = .ok (.getfield 7, 3) := by decide +kernel
theorem dX8_passHour_4 : decode cX8_passHour 4 = .ok (.bipush 7, 2) := by decide +kernel
theorem dX8_passHour_6 : decode cX8_passHour 6 = .ok (.iaload, 1) := by decide +kernel
theorem dX8_passHour_7 : decode cX8_passHour 7 = .ok (.aload_n 0, 1) := by decide +kernel
theorem dX8_passHour_8 : decode cX8_passHour 8 = .ok (.getfield 7, 3) := by decide +kernel
theorem dX8_passHour_11 : decode cX8_passHour 11 = .ok (.bipush 6, 2) := by decide +kernel
theorem dX8_passHour_13 : decode cX8_passHour 13 = .ok (.iaload, 1) := by decide +kernel
theorem dX8_passHour_14 : decode cX8_passHour 14 = .ok (.isub, 1) := by decide +kernel
theorem dX8_passHour_15 : decode cX8_passHour 15 = .ok (.istore_n 1, 1) := by decide +kernel
theorem dX8_passHour_16 : decode cX8_passHour 16 = .ok (.iload_n 1, 1) := by decide +kernel
theorem dX8_passHour_17 : decode cX8_passHour 17 = .ok (.invokestatic 50, 3) := by decide +kernel
theorem dX8_passHour_20 : decode cX8_passHour 20 = .ok (.aload_n 0, 1) := by decide +kernel
theorem dX8_passHour_21 : decode cX8_passHour 21 = .ok (.getfield 7, 3) := by decide +kernel
theorem dX8_passHour_24 : decode cX8_passHour 24 = .ok (.iconst 1, 1) := by decide +kernel
theorem dX8_passHour_25 : decode cX8_passHour 25 = .ok (.iaload, 1) := by decide +kernel
theorem dX8_passHour_26 : decode cX8_passHour 26 = .ok (.if_icmp .ge 10, 3) := by decide +kernel
theorem dX8_passHour_29 : decode cX8_passHour 29 = .ok (.iload_n 1, 1) := by decide +kernel
theorem dX8_passHour_30 : decode cX8_passHour 30 = .ok (.invokestatic 50, 3) := by decide +kernel
theorem dX8_passHour_33 : decode cX8_passHour 33 = .ok (.goto 9, 3) := by decide +kernel
theorem dX8_passHour_36 : decode cX8_passHour 36 = .ok (.aload_n 0, 1) := by decide +kernel
theorem dX8_passHour_37 : decode cX8_passHour 37 = .ok (.getfield 7, 3) := by decide +kernel
theorem dX8_passHour_40 : decode cX8_passHour 40 = .ok (.iconst 1, 1) := by decide +kernel
theorem dX8_passHour_41 : decode cX8_passHour 41 = .ok (.iaload, 1) := by decide +kernel
theorem dX8_passHour_42 : decode cX8_passHour 42 = .ok (.istore_n 2, 1) := by decide +kernel
theorem dX8_passHour_43 : decode cX8_passHour 43 = .ok (.aload_n 0, 1) := by decide +kernel
theorem dX8_passHour_44 : decode cX8_passHour 44 = .ok (.getfield 7, 3) := by decide +kernel
theorem dX8_passHour_47 : decode cX8_passHour 47 = .ok (.iconst 5, 1) := by decide +kernel
theorem dX8_passHour_48 : decode cX8_passHour 48 = .ok (.iaload, 1) := by decide +kernel
theorem dX8_passHour_49 : decode cX8_passHour 49 = .ok (.ifCond .ne 7, 3) := by decide +kernel
theorem dX8_passHour_52 : decode cX8_passHour 52 = .ok (.iconst 0, 1) := by decide +kernel
theorem dX8_passHour_53 : decode cX8_passHour 53 = .ok (.goto 13, 3) := by decide +kernel
theorem dX8_passHour_56 : decode cX8_passHour 56 = .ok (.iload_n 1, 1) := by decide +kernel
theorem dX8_passHour_57 : decode cX8_passHour 57 = .ok (.ifCond .ge 8, 3) := by decide +kernel
theorem dX8_passHour_60 : decode cX8_passHour 60 = .ok (.iload_n 2, 1) := by decide +kernel
theorem dX8_passHour_61 : decode cX8_passHour 61 = .ok (.ineg, 1) := by decide +kernel
theorem dX8_passHour_62 : decode cX8_passHour 62 = .ok (.goto 4, 3) := by decide +kernel
theorem dX8_passHour_65 : decode cX8_passHour 65 = .ok (.iload_n 2, 1) := by decide +kernel
theorem dX8_passHour_66 : decode cX8_passHour 66 = .ok (.istore_n 2, 1) := by decide +kernel
theorem dX8_passHour_67 : decode cX8_passHour 67 = .ok (.aload_n 0, 1) := by decide +kernel
theorem dX8_passHour_68 : decode cX8_passHour 68 = .ok (.getfield 7, 3) := by decide +kernel
theorem dX8_passHour_71 : decode cX8_passHour 71 = .ok (.iconst 4, 1) := by decide +kernel
theorem dX8_passHour_72 : decode cX8_passHour 72 = .ok (.aload_n 0, 1) := by decide +kernel
theorem dX8_passHour_73 : decode cX8_passHour 73 = .ok (.getfield 7, 3) := by decide +kernel
theorem dX8_passHour_76 : decode cX8_passHour 76 = .ok (.iconst 4, 1) := by decide +kernel
theorem dX8_passHour_77 : decode cX8_passHour 77 = .ok (.iaload, 1) := by decide +kernel
theorem dX8_passHour_78 : decode cX8_passHour 78 = .ok (.iload_n 2, 1) := by decide +kernel
theorem dX8_passHour_79 : decode cX8_passHour 79 = .ok (.iadd, 1) := by decide +kernel
theorem dX8_passHour_80 : decode cX8_passHour 80 = .ok (.invokestatic 64, 3) := by decide +kernel
theorem dX8_passHour_83 : decode cX8_passHour 83 = .ok (.iastore, 1) := by decide +kernel
theorem dX8_passHour_84 : decode cX8_passHour 84 = .ok (.aload_n 0, 1) := by decide +kernel
theorem dX8_passHour_85 : decode cX8_passHour 85 = .ok (.getfield 7, 3) := by decide +kernel
theorem dX8_passHour_88 : decode cX8_passHour 88 = .ok (.bipush 6, 2) := by decide +kernel
theorem dX8_passHour_90 : decode cX8_passHour 90 = .ok (.aload_n 0, 1) := by decide +kernel
theorem dX8_passHour_91 : decode cX8_passHour 91 = .ok (.getfield 7, 3) := by decide +kernel
theorem dX8_passHour_94 : decode cX8_passHour 94 = .ok (.bipush 6, 2) := by decide +kernel
theorem dX8_passHour_96 : decode cX8_passHour 96 = .ok (.iaload, 1) := by decide +kernel
theorem dX8_passHour_97 : decode cX8_passHour 97 = .ok (.iload_n 2, 1) := by decide +kernel
theorem dX8_passHour_98 : decode cX8_passHour 98 = .ok (.iadd, 1) := by decide +kernel
theorem dX8_passHour_99 : decode cX8_passHour 99 = .ok (.invokestatic 64, 3) := by decide +kernel
theorem dX8_passHour_102 : decode cX8_passHour 102 = .ok (.iastore, 1) := by decide +kernel
theorem dX8_passHour_103 : decode cX8_passHour 103 = .ok (.aload_n 0, 1) := by decide +kernel
theorem dX8_passHour_104 : decode cX8_passHour 104 = .ok (.getfield 7, 3) := by decide +kernel
theorem dX8_passHour_107 : decode cX8_passHour 107 = .ok (.iconst 4, 1) := by decide +kernel
theorem dX8_passHour_108 : decode cX8_passHour 108 = .ok (.aload_n 0, 1) := by decide +kernel
theorem dX8_passHour_109 : decode cX8_passHour 109 = .ok (.getfield 7, 3) := by decide +kernel
theorem dX8_passHour_112 : decode cX8_passHour 112 = .ok (.iconst 4, 1) := by decide +kernel
theorem dX8_passHour_113 : decode cX8_passHour 113 = .ok (.iaload, 1) := by decide +kernel
theorem dX8_passHour_114 : decode cX8_passHour 114 = .ok (.aload_n 0, 1) := by decide +kernel
theorem dX8_passHour_115 : decode cX8_passHour 115 = .ok (.getfield 7, 3) := by decide +kernel
theorem dX8_passHour_118 : decode cX8_passHour 118 = .ok (.iconst 0, 1) := by decide +kernel
theorem dX8_passHour_119 : decode cX8_passHour 119 = .ok (.iaload, 1) := by decide +kernel
theorem dX8_passHour_120 : decode cX8_passHour 120 = .ok (.iadd, 1) := by decide +kernel
theorem dX8_passHour_121 : decode cX8_passHour 121 = .ok (.invokestatic 64, 3) := by decide +kernel
theorem dX8_passHour_124 : decode cX8_passHour 124 = .ok (.iastore, 1) := by decide +kernel
theorem dX8_passHour_125 : decode cX8_passHour 125 = .ok (.aload_n 0, 1) := by decide +kernel
theorem dX8_passHour_126 : decode cX8_passHour 126 = .ok (.getfield 7, 3) := by decide +kernel
theorem dX8_passHour_129 : decode cX8_passHour 129 = .ok (.bipush 8, 2) := by decide +kernel
theorem dX8_passHour_131 : decode cX8_passHour 131 = .ok (.dup2, 1) := by decide +kernel
theorem dX8_passHour_132 : decode cX8_passHour 132 = .ok (.iaload, 1) := by decide +kernel
theorem dX8_passHour_133 : decode cX8_passHour 133 = .ok (.iconst 1, 1) := by decide +kernel
theorem dX8_passHour_134 : decode cX8_passHour 134 = .ok (.iadd, 1) := by decide +kernel
theorem dX8_passHour_135 : decode cX8_passHour 135 = .ok (.iastore, 1) := by decide +kernel
theorem dX8_passHour_136 : decode cX8_passHour 136 = .ok (.return_, 1) := by decide +kernel
theorem dX8_sails_0 : decode cX8_sails 0 = .ok (.iload_n 1, 1) := by decide +kernel
theorem dX8_sails_1 : decode cX8_sails 1 = .ok (.iconst 1, 1) := by decide +kernel
theorem dX8_sails_2 : decode cX8_sails 2 = .ok (.bipush 99, 2) := by decide +kernel
theorem dX8_sails_4 : decode cX8_sails 4 = .ok (.invokestatic 32, 3) := by decide +kernel
theorem dX8_sails_7 : decode cX8_sails 7 = .ok (.ifCond .ne 6, 3) := by decide +kernel
theorem dX8_sails_10 : decode cX8_sails 10 = .ok (.bipush (-2), 2) := by decide +kernel
theorem dX8_sails_12 : decode cX8_sails 12 = .ok (.ireturn, 1) := by decide +kernel
theorem dX8_sails_13 : decode cX8_sails 13 = .ok (.aload_n 0, 1) := by decide +kernel
theorem dX8_sails_14 : decode cX8_sails 14 = .ok (.getfield 7, 3) := by decide +kernel
theorem dX8_sails_17 : decode cX8_sails 17 = .ok (.bipush 8, 2) := by decide +kernel
theorem dX8_sails_19 : decode cX8_sails 19 = .ok (.iaload, 1) := by decide +kernel
theorem dX8_sails_20 : decode cX8_sails 20 = .ok (.iload_n 1, 1) := by decide +kernel
theorem dX8_sails_21 : decode cX8_sails 21 = .ok (.iadd, 1) := by decide +kernel
theorem dX8_sails_22 : decode cX8_sails 22 = .ok (.sipush 9999, 3) := by decide +kernel
theorem dX8_sails_25 : decode cX8_sails 25 = .ok (.if_icmp .le 6, 3) := by decide +kernel
theorem dX8_sails_28 : decode cX8_sails 28 = .ok (.bipush (-5), 2) := by decide +kernel
theorem dX8_sails_30 : decode cX8_sails 30 = .ok (.ireturn, 1) := by decide +kernel
theorem dX8_sails_31 : decode cX8_sails 31 = .ok (.iconst 0, 1) := by decide +kernel
theorem dX8_sails_32 : decode cX8_sails 32 = .ok (.istore_n 2, 1) := by decide +kernel
theorem dX8_sails_33 : decode cX8_sails 33 = .ok (.iload_n 2, 1) := by decide +kernel
theorem dX8_sails_34 : decode cX8_sails 34 = .ok (.iload_n 1, 1) := by decide +kernel
theorem dX8_sails_35 : decode cX8_sails 35 = .ok (.if_icmp .ge 13, 3) := by decide +kernel
theorem dX8_sails_38 : decode cX8_sails 38 = .ok (.aload_n 0, 1) := by decide +kernel
theorem dX8_sails_39 : decode cX8_sails 39 = .ok (.invokevirtual 99, 3) := by decide +kernel
theorem dX8_sails_42 : decode cX8_sails 42 = .ok (.iinc 2 1, 3) := by decide +kernel
theorem dX8_sails_45 : decode cX8_sails 45 = .ok (.goto (-12), 3) := by decide +kernel
theorem dX8_sails_48 : decode cX8_sails 48 = .ok (.aload_n 0, 1) := by decide +kernel
theorem dX8_sails_49 : decode cX8_sails 49 = .ok (.getfield 7, 3) := by decide +kernel
theorem dX8_sails_52 : decode cX8_sails 52 = .ok (.iconst 4, 1) := by decide +kernel
theorem dX8_sails_53 : decode cX8_sails 53 = .ok (.iaload, 1) := by decide +kernel
theorem dX8_sails_54 : decode cX8_sails 54 = .ok (.sipush 5400, 3) := by decide +kernel
theorem dX8_sails_57 : decode cX8_sails 57 = .ok (.iadd, 1) := by decide +kernel
theorem dX8_sails_58 : decode cX8_sails 58 = .ok (.ireturn, 1) := by decide +kernel
theorem dX8_belief_0 : decode cX8_belief 0 = .ok (.aload_n 0, 1) := by decide +kernel
theorem dX8_belief_1 : decode cX8_belief 1 = .ok (.getfield 7, 3) := by decide +kernel
theorem dX8_belief_4 : decode cX8_belief 4 = .ok (.iconst 5, 1) := by decide +kernel
theorem dX8_belief_5 : decode cX8_belief 5 = .ok (.iaload, 1) := by decide +kernel
theorem dX8_belief_6 : decode cX8_belief 6 = .ok (.iconst 1, 1) := by decide +kernel
theorem dX8_belief_7 : decode cX8_belief 7 = .ok (.if_icmp .ne 17, 3) := by decide +kernel
theorem dX8_belief_10 : decode cX8_belief 10 = .ok (.aload_n 0, 1) := by decide +kernel
theorem dX8_belief_11 : decode cX8_belief 11 = .ok (.getfield 7, 3) := by decide +kernel
theorem dX8_belief_14 : decode cX8_belief 14 = .ok (.bipush 6, 2) := by decide +kernel
theorem dX8_belief_16 : decode cX8_belief 16 = .ok (.iaload, 1) := by decide +kernel
theorem dX8_belief_17 : decode cX8_belief 17 = .ok (.sipush 5400, 3) := by decide +kernel
theorem dX8_belief_20 : decode cX8_belief 20 = .ok (.iadd, 1) := by decide +kernel
theorem dX8_belief_21 : decode cX8_belief 21 = .ok (.goto 5, 3) := by decide +kernel
theorem dX8_belief_24 : decode cX8_belief 24 = .ok (.bipush (-6), 2) := by decide +kernel
theorem dX8_belief_26 : decode cX8_belief 26 = .ok (.ireturn, 1) := by decide +kernel
theorem dX8_ends_0 : decode cX8_ends 0 = .ok (.aload_n 0, 1) := by decide +kernel
theorem dX8_ends_1 : decode cX8_ends 1 = .ok (.getfield 7, 3) := by decide +kernel
theorem dX8_ends_4 : decode cX8_ends 4 = .ok (.bipush 9, 2) := by decide +kernel
theorem dX8_ends_6 : decode cX8_ends 6 = .ok (.iaload, 1) := by decide +kernel
theorem dX8_ends_7 : decode cX8_ends 7 = .ok (.sipush 999, 3) := by decide +kernel
theorem dX8_ends_10 : decode cX8_ends 10 = .ok (.if_icmp .ne 6, 3) := by decide +kernel
theorem dX8_ends_13 : decode cX8_ends 13 = .ok (.bipush (-5), 2) := by decide +kernel
theorem dX8_ends_15 : decode cX8_ends 15 = .ok (.ireturn, 1) := by decide +kernel
theorem dX8_ends_16 : decode cX8_ends 16 = .ok (.bipush 31, 2) := by decide +kernel
theorem dX8_ends_18 : decode cX8_ends 18 = .ok (.istore_n 1, 1) := by decide +kernel
theorem dX8_ends_19 : decode cX8_ends 19 = .ok (.iload_n 1, 1) := by decide +kernel
theorem dX8_ends_20 : decode cX8_ends 20 = .ok (.iconst 3, 1) := by decide +kernel
theorem dX8_ends_21 : decode cX8_ends 21 = .ok (.if_icmp .le 29, 3) := by decide +kernel
theorem dX8_ends_24 : decode cX8_ends 24 = .ok (.aload_n 0, 1) := by decide +kernel
theorem dX8_ends_25 : decode cX8_ends 25 = .ok (.getfield 7, 3) := by decide +kernel
theorem dX8_ends_28 : decode cX8_ends 28 = .ok (.bipush 87, 2) := by decide +kernel
theorem dX8_ends_30 : decode cX8_ends 30 = .ok (.iload_n 1, 1) := by decide +kernel
theorem dX8_ends_31 : decode cX8_ends 31 = .ok (.iadd, 1) := by decide +kernel
theorem dX8_ends_32 : decode cX8_ends 32 = .ok (.aload_n 0, 1) := by decide +kernel
theorem dX8_ends_33 : decode cX8_ends 33 = .ok (.getfield 7, 3) := by decide +kernel
theorem dX8_ends_36 : decode cX8_ends 36 = .ok (.bipush 87, 2) := by decide +kernel
theorem dX8_ends_38 : decode cX8_ends 38 = .ok (.iload_n 1, 1) := by decide +kernel
theorem dX8_ends_39 : decode cX8_ends 39 = .ok (.iadd, 1) := by decide +kernel
theorem dX8_ends_40 : decode cX8_ends 40 = .ok (.iconst 4, 1) := by decide +kernel
theorem dX8_ends_41 : decode cX8_ends 41 = .ok (.isub, 1) := by decide +kernel
theorem dX8_ends_42 : decode cX8_ends 42 = .ok (.iaload, 1) := by decide +kernel
theorem dX8_ends_43 : decode cX8_ends 43 = .ok (.iastore, 1) := by decide +kernel
theorem dX8_ends_44 : decode cX8_ends 44 = .ok (.iinc 1 (-1), 3) := by decide +kernel
theorem dX8_ends_47 : decode cX8_ends 47 = .ok (.goto (-28), 3) := by decide +kernel
theorem dX8_ends_50 : decode cX8_ends 50 = .ok (.aload_n 0, 1) := by decide +kernel
theorem dX8_ends_51 : decode cX8_ends 51 = .ok (.getfield 7, 3) := by decide +kernel
theorem dX8_ends_54 : decode cX8_ends 54 = .ok (.bipush 87, 2) := by decide +kernel
theorem dX8_ends_56 : decode cX8_ends 56 = .ok (.aload_n 0, 1) := by decide +kernel
theorem dX8_ends_57 : decode cX8_ends 57 = .ok (.getfield 7, 3) := by decide +kernel
theorem dX8_ends_60 : decode cX8_ends 60 = .ok (.bipush 9, 2) := by decide +kernel
theorem dX8_ends_62 : decode cX8_ends 62 = .ok (.iaload, 1) := by decide +kernel
theorem dX8_ends_63 : decode cX8_ends 63 = .ok (.iastore, 1) := by decide +kernel
theorem dX8_ends_64 : decode cX8_ends 64 = .ok (.aload_n 0, 1) := by decide +kernel
theorem dX8_ends_65 : decode cX8_ends 65 = .ok (.getfield 7, 3) := by decide +kernel
theorem dX8_ends_68 : decode cX8_ends 68 = .ok (.bipush 88, 2) := by decide +kernel
theorem dX8_ends_70 : decode cX8_ends 70 = .ok (.aload_n 0, 1) := by decide +kernel
theorem dX8_ends_71 : decode cX8_ends 71 = .ok (.getfield 7, 3) := by decide +kernel
theorem dX8_ends_74 : decode cX8_ends 74 = .ok (.iconst 4, 1) := by decide +kernel
theorem dX8_ends_75 : decode cX8_ends 75 = .ok (.iaload, 1) := by decide +kernel
theorem dX8_ends_76 : decode cX8_ends 76 = .ok (.sipush 5400, 3) := by decide +kernel
theorem dX8_ends_79 : decode cX8_ends 79 = .ok (.iadd, 1) := by decide +kernel
theorem dX8_ends_80 : decode cX8_ends 80 = .ok (.iastore, 1) := by decide +kernel
theorem dX8_ends_81 : decode cX8_ends 81 = .ok (.aload_n 0, 1) := by decide +kernel
theorem dX8_ends_82 : decode cX8_ends 82 = .ok (.getfield 7, 3) := by decide +kernel
theorem dX8_ends_85 : decode cX8_ends 85 = .ok (.bipush 89, 2) := by decide +kernel
theorem dX8_ends_87 : decode cX8_ends 87 = .ok (.aload_n 0, 1) := by decide +kernel
theorem dX8_ends_88 : decode cX8_ends 88 = .ok (.invokevirtual 102, 3) := by decide +kernel
theorem dX8_ends_91 : decode cX8_ends 91 = .ok (.iastore, 1) := by decide +kernel
theorem dX8_ends_92 : decode cX8_ends 92 = .ok (.aload_n 0, 1) := by decide +kernel
theorem dX8_ends_93 : decode cX8_ends 93 = .ok (.getfield 7, 3) := by decide +kernel
theorem dX8_ends_96 : decode cX8_ends 96 = .ok (.bipush 90, 2) := by decide +kernel
theorem dX8_ends_98 : decode cX8_ends 98 = .ok (.aload_n 0, 1) := by decide +kernel
theorem dX8_ends_99 : decode cX8_ends 99 = .ok (.getfield 7, 3) := by decide +kernel
theorem dX8_ends_102 : decode cX8_ends 102 = .ok (.bipush 12, 2) := by decide +kernel
theorem dX8_ends_104 : decode cX8_ends 104 = .ok (.iaload, 1) := by decide +kernel
theorem dX8_ends_105 : decode cX8_ends 105 = .ok (.iastore, 1) := by decide +kernel
theorem dX8_ends_106 : decode cX8_ends 106 = .ok (.aload_n 0, 1) := by decide +kernel
theorem dX8_ends_107 : decode cX8_ends 107 = .ok (.getfield 7, 3) := by decide +kernel
theorem dX8_ends_110 : decode cX8_ends 110 = .ok (.bipush 14, 2) := by decide +kernel
theorem dX8_ends_112 : decode cX8_ends 112 = .ok (.dup2, 1) := by decide +kernel
theorem dX8_ends_113 : decode cX8_ends 113 = .ok (.iaload, 1) := by decide +kernel
theorem dX8_ends_114 : decode cX8_ends 114 = .ok (.aload_n 0, 1) := by decide +kernel
theorem dX8_ends_115 : decode cX8_ends 115 = .ok (.getfield 7, 3) := by decide +kernel
theorem dX8_ends_118 : decode cX8_ends 118 = .ok (.bipush 14, 2) := by decide +kernel
theorem dX8_ends_120 : decode cX8_ends 120 = .ok (.iaload, 1) := by decide +kernel
theorem dX8_ends_121 : decode cX8_ends 121 = .ok (.bipush 8, 2) := by decide +kernel
theorem dX8_ends_123 : decode cX8_ends 123 = .ok (.if_icmp .ge 7, 3) := by decide +kernel
theorem dX8_ends_126 : decode cX8_ends 126 = .ok (.iconst 1, 1) := by decide +kernel
theorem dX8_ends_127 : decode cX8_ends 127 = .ok (.goto 4, 3) := by decide +kernel
theorem dX8_ends_130 : decode cX8_ends 130 = .ok (.iconst 0, 1) := by decide +kernel
theorem dX8_ends_131 : decode cX8_ends 131 = .ok (.iadd, 1) := by decide +kernel
theorem dX8_ends_132 : decode cX8_ends 132 = .ok (.iastore, 1) := by decide +kernel
theorem dX8_ends_133 : decode cX8_ends 133 = .ok (.iconst 0, 1) := by decide +kernel
theorem dX8_ends_134 : decode cX8_ends 134 = .ok (.istore_n 1, 1) := by decide +kernel
theorem dX8_ends_135 : decode cX8_ends 135 = .ok (.iload_n 1, 1) := by decide +kernel
theorem dX8_ends_136 : decode cX8_ends 136 = .ok (.bipush 7, 2) := by decide +kernel
theorem dX8_ends_138 : decode cX8_ends 138 = .ok (.if_icmp .ge 83, 3) := by decide +kernel
theorem dX8_ends_141 : decode cX8_ends 141 = .ok (.aload_n 0, 1) := by decide +kernel
theorem dX8_ends_142 : decode cX8_ends 142 = .ok (.iload_n 1, 1) := by decide +kernel
theorem dX8_ends_143 : decode cX8_ends 143 = .ok (.bipush 7, 2) := by decide +kernel
theorem dX8_ends_145 : decode cX8_ends 145 = .ok (.invokevirtual 54, 3) := by decide +kernel
theorem dX8_ends_148 : decode cX8_ends 148 = .ok (.iconst 2, 1) := by decide +kernel
theorem dX8_ends_149 : decode cX8_ends 149 = .ok (.if_icmp .ne 7, 3) := by decide +kernel
theorem dX8_ends_152 : decode cX8_ends 152 = .ok (.iconst 1, 1) := by decide +kernel
theorem dX8_ends_153 : decode cX8_ends 153 = .ok (.goto 4, 3) := by decide +kernel
theorem dX8_ends_156 : decode cX8_ends 156 = .ok (.iconst 0, 1) := by decide +kernel
theorem dX8_ends_157 : decode cX8_ends 157 = .ok (.istore_n 2, 1) := by decide +kernel
theorem dX8_ends_158 : decode cX8_ends 158 = .ok (.aload_n 0, 1) := by decide +kernel
theorem dX8_ends_159 : decode cX8_ends 159 = .ok (.iload_n 1, 1) := by decide +kernel
theorem dX8_ends_160 : decode cX8_ends 160 = .ok (.iconst 5, 1) := by decide +kernel
theorem dX8_ends_161 : decode cX8_ends 161 = .ok (.iconst 0, 1) := by decide +kernel
theorem dX8_ends_162 : decode cX8_ends 162 = .ok (.invokevirtual 28, 3) := by decide +kernel
theorem dX8_ends_165 : decode cX8_ends 165 = .ok (.aload_n 0, 1) := by decide +kernel
theorem dX8_ends_166 : decode cX8_ends 166 = .ok (.iload_n 1, 1) := by decide +kernel
theorem dX8_ends_167 : decode cX8_ends 167 = .ok (.bipush 6, 2) := by decide +kernel
theorem dX8_ends_169 : decode cX8_ends 169 = .ok (.iconst 0, 1) := by decide +kernel
theorem dX8_ends_170 : decode cX8_ends 170 = .ok (.invokevirtual 28, 3) := by decide +kernel
theorem dX8_ends_173 : decode cX8_ends 173 = .ok (.aload_n 0, 1) := by decide +kernel
theorem dX8_ends_174 : decode cX8_ends 174 = .ok (.iload_n 1, 1) := by decide +kernel
theorem dX8_ends_175 : decode cX8_ends 175 = .ok (.iconst 3, 1) := by decide +kernel
theorem dX8_ends_176 : decode cX8_ends 176 = .ok (.iload_n 2, 1) := by decide +kernel
theorem dX8_ends_177 : decode cX8_ends 177 = .ok (.ifCond .eq 7, 3) := by decide +kernel
theorem dX8_ends_180 : decode cX8_ends 180 = .ok (.iconst 0, 1) := by decide +kernel
theorem dX8_ends_181 : decode cX8_ends 181 = .ok (.goto 9, 3) := by decide +kernel
theorem dX8_ends_184 : decode cX8_ends 184 = .ok (.aload_n 0, 1) := by decide +kernel
theorem dX8_ends_185 : decode cX8_ends 185 = .ok (.iload_n 1, 1) := by decide +kernel
theorem dX8_ends_186 : decode cX8_ends 186 = .ok (.iconst 3, 1) := by decide +kernel
theorem dX8_ends_187 : decode cX8_ends 187 = .ok (.invokevirtual 54, 3) := by decide +kernel
theorem dX8_ends_190 : decode cX8_ends 190 = .ok (.invokevirtual 28, 3) := by decide +kernel
theorem dX8_ends_193 : decode cX8_ends 193 = .ok (.aload_n 0, 1) := by decide +kernel
theorem dX8_ends_194 : decode cX8_ends 194 = .ok (.iload_n 1, 1) := by decide +kernel
theorem dX8_ends_195 : decode cX8_ends 195 = .ok (.bipush 7, 2) := by decide +kernel
theorem dX8_ends_197 : decode cX8_ends 197 = .ok (.iload_n 2, 1) := by decide +kernel
theorem dX8_ends_198 : decode cX8_ends 198 = .ok (.ifCond .eq 7, 3) := by decide +kernel
theorem dX8_ends_201 : decode cX8_ends 201 = .ok (.iconst 0, 1) := by decide +kernel
theorem dX8_ends_202 : decode cX8_ends 202 = .ok (.goto 10, 3) := by decide +kernel
theorem dX8_ends_205 : decode cX8_ends 205 = .ok (.aload_n 0, 1) := by decide +kernel
theorem dX8_ends_206 : decode cX8_ends 206 = .ok (.iload_n 1, 1) := by decide +kernel
theorem dX8_ends_207 : decode cX8_ends 207 = .ok (.bipush 7, 2) := by decide +kernel
theorem dX8_ends_209 : decode cX8_ends 209 = .ok (.invokevirtual 54, 3) := by decide +kernel
theorem dX8_ends_212 : decode cX8_ends 212 = .ok (.invokevirtual 28, 3) := by decide +kernel
theorem dX8_ends_215 : decode cX8_ends 215 = .ok (.iinc 1 1, 3) := by decide +kernel
theorem dX8_ends_218 : decode cX8_ends 218 = .ok (.goto (-83), 3) := by decide +kernel
theorem dX8_ends_221 : decode cX8_ends 221 = .ok (.aload_n 0, 1) := by decide +kernel
theorem dX8_ends_222 : decode cX8_ends 222 = .ok (.getfield 7, 3) := by decide +kernel
theorem dX8_ends_225 : decode cX8_ends 225 = .ok (.bipush 12, 2) := by decide +kernel
theorem dX8_ends_227 : decode cX8_ends 227 = .ok (.iconst 0, 1) := by decide +kernel
theorem dX8_ends_228 : decode cX8_ends 228 = .ok (.iastore, 1) := by decide +kernel
theorem dX8_ends_229 : decode cX8_ends 229 = .ok (.aload_n 0, 1) := by decide +kernel
theorem dX8_ends_230 : decode cX8_ends 230 = .ok (.getfield 7, 3) := by decide +kernel
theorem dX8_ends_233 : decode cX8_ends 233 = .ok (.bipush 9, 2) := by decide +kernel
theorem dX8_ends_235 : decode cX8_ends 235 = .ok (.dup2, 1) := by decide +kernel
theorem dX8_ends_236 : decode cX8_ends 236 = .ok (.iaload, 1) := by decide +kernel
theorem dX8_ends_237 : decode cX8_ends 237 = .ok (.iconst 1, 1) := by decide +kernel
theorem dX8_ends_238 : decode cX8_ends 238 = .ok (.iadd, 1) := by decide +kernel
theorem dX8_ends_239 : decode cX8_ends 239 = .ok (.iastore, 1) := by decide +kernel
theorem dX8_ends_240 : decode cX8_ends 240 = .ok (.aload_n 0, 1) := by decide +kernel
theorem dX8_ends_241 : decode cX8_ends 241 = .ok (.getfield 7, 3) := by decide +kernel
theorem dX8_ends_244 : decode cX8_ends 244 = .ok (.bipush 9, 2) := by decide +kernel
theorem dX8_ends_246 : decode cX8_ends 246 = .ok (.iaload, 1) := by decide +kernel
theorem dX8_ends_247 : decode cX8_ends 247 = .ok (.ireturn, 1) := by decide +kernel
theorem dX8_comes_0 : decode cX8_comes 0 = .ok (.iload_n 1, 1) := by decide +kernel
theorem dX8_comes_1 : decode cX8_comes 1 = .ok (.invokestatic 106, 3) := by decide +kernel
theorem dX8_comes_4 : decode cX8_comes 4 = .ok (.ifCond .ne 6, 3) := by decide +kernel
theorem dX8_comes_7 : decode cX8_comes 7 = .ok (.bipush (-2), 2) := by decide +kernel
theorem dX8_comes_9 : decode cX8_comes 9 = .ok (.ireturn, 1) := by decide +kernel
theorem dX8_comes_10 : decode cX8_comes 10 = .ok (.aload_n 0, 1) := by decide +kernel
theorem dX8_comes_11 : decode cX8_comes 11 = .ok (.getfield 7, 3) := by decide +kernel
theorem dX8_comes_14 : decode cX8_comes 14 = .ok (.bipush 13, 2) := by decide +kernel
theorem dX8_comes_16 : decode cX8_comes 16 = .ok (.iaload, 1) := by decide +kernel
theorem dX8_comes_17 : decode cX8_comes 17 = .ok (.bipush 8, 2) := by decide +kernel
theorem dX8_comes_19 : decode cX8_comes 19 = .ok (.if_icmp .ne 6, 3) := by decide +kernel
theorem dX8_comes_22 : decode cX8_comes 22 = .ok (.bipush (-4), 2) := by decide +kernel
theorem dX8_comes_24 : decode cX8_comes 24 = .ok (.ireturn, 1) := by decide +kernel
theorem dX8_comes_25 : decode cX8_comes 25 = .ok (.aload_n 0, 1) := by decide +kernel
theorem dX8_comes_26 : decode cX8_comes 26 = .ok (.getfield 7, 3) := by decide +kernel
theorem dX8_comes_29 : decode cX8_comes 29 = .ok (.bipush 15, 2) := by decide +kernel
theorem dX8_comes_31 : decode cX8_comes 31 = .ok (.aload_n 0, 1) := by decide +kernel
theorem dX8_comes_32 : decode cX8_comes 32 = .ok (.getfield 7, 3) := by decide +kernel
theorem dX8_comes_35 : decode cX8_comes 35 = .ok (.bipush 13, 2) := by decide +kernel
theorem dX8_comes_37 : decode cX8_comes 37 = .ok (.iaload, 1) := by decide +kernel
theorem dX8_comes_38 : decode cX8_comes 38 = .ok (.iadd, 1) := by decide +kernel
theorem dX8_comes_39 : decode cX8_comes 39 = .ok (.iload_n 1, 1) := by decide +kernel
theorem dX8_comes_40 : decode cX8_comes 40 = .ok (.iastore, 1) := by decide +kernel
theorem dX8_comes_41 : decode cX8_comes 41 = .ok (.aload_n 0, 1) := by decide +kernel
theorem dX8_comes_42 : decode cX8_comes 42 = .ok (.getfield 7, 3) := by decide +kernel
theorem dX8_comes_45 : decode cX8_comes 45 = .ok (.bipush 13, 2) := by decide +kernel
theorem dX8_comes_47 : decode cX8_comes 47 = .ok (.dup2, 1) := by decide +kernel
theorem dX8_comes_48 : decode cX8_comes 48 = .ok (.iaload, 1) := by decide +kernel
theorem dX8_comes_49 : decode cX8_comes 49 = .ok (.iconst 1, 1) := by decide +kernel
theorem dX8_comes_50 : decode cX8_comes 50 = .ok (.iadd, 1) := by decide +kernel
theorem dX8_comes_51 : decode cX8_comes 51 = .ok (.iastore, 1) := by decide +kernel
theorem dX8_comes_52 : decode cX8_comes 52 = .ok (.aload_n 0, 1) := by decide +kernel
theorem dX8_comes_53 : decode cX8_comes 53 = .ok (.getfield 7, 3) := by decide +kernel
theorem dX8_comes_56 : decode cX8_comes 56 = .ok (.bipush 13, 2) := by decide +kernel
theorem dX8_comes_58 : decode cX8_comes 58 = .ok (.iaload, 1) := by decide +kernel
theorem dX8_comes_59 : decode cX8_comes 59 = .ok (.iconst 1, 1) := by decide +kernel
theorem dX8_comes_60 : decode cX8_comes 60 = .ok (.isub, 1) := by decide +kernel
theorem dX8_comes_61 : decode cX8_comes 61 = .ok (.ireturn, 1) := by decide +kernel
theorem dX8_clouds_0 : decode cX8_clouds 0 = .ok (.aload_n 0, 1) := by decide +kernel
theorem dX8_clouds_1 : decode cX8_clouds 1 = .ok (.iload_n 1, 1) := by decide +kernel
theorem dX8_clouds_2 : decode cX8_clouds 2 = .ok (.invokevirtual 70, 3) := by decide +kernel
theorem dX8_clouds_5 : decode cX8_clouds 5 = .ok (.ifCond .ne 5, 3) := by decide +kernel
theorem dX8_clouds_8 : decode cX8_clouds 8 = .ok (.iconst (-1), 1) := by decide +kernel
theorem dX8_clouds_9 : decode cX8_clouds 9 = .ok (.ireturn, 1) := by decide +kernel
theorem dX8_clouds_10 : decode cX8_clouds 10 = .ok (.aload_n 0, 1) := by decide +kernel
theorem dX8_clouds_11 : decode cX8_clouds 11 = .ok (.getfield 7, 3) := by decide +kernel
theorem dX8_clouds_14 : decode cX8_clouds 14 = .ok (.bipush 23, 2) := by decide +kernel
theorem dX8_clouds_16 : decode cX8_clouds 16 = .ok (.iload_n 1, 1) := by decide +kernel
theorem dX8_clouds_17 : decode cX8_clouds 17 = .ok (.iadd, 1) := by decide +kernel
theorem dX8_clouds_18 : decode cX8_clouds 18 = .ok (.iconst 1, 1) := by decide +kernel
theorem dX8_clouds_19 : decode cX8_clouds 19 = .ok (.aload_n 0, 1) := by decide +kernel
theorem dX8_clouds_20 : decode cX8_clouds 20 = .ok (.getfield 7, 3) := by decide +kernel
theorem dX8_clouds_23 : decode cX8_clouds 23 = .ok (.bipush 23, 2) := by decide +kernel
theorem dX8_clouds_25 : decode cX8_clouds 25 = .ok (.iload_n 1, 1) := by decide +kernel
theorem dX8_clouds_26 : decode cX8_clouds 26 = .ok (.iadd, 1) := by decide +kernel
theorem dX8_clouds_27 : decode cX8_clouds 27 = .ok (.iaload, 1) := by decide +kernel
theorem dX8_clouds_28 : decode cX8_clouds 28 = .ok (.isub, 1) := by decide +kernel
end
section
theorem dX8_clouds_29 : decode cX8_clouds 29 = .ok (.iastore, 1) := by decide +kernel
theorem dX8_clouds_30 : decode cX8_clouds 30 = .ok (.aload_n 0, 1) := by decide +kernel
theorem dX8_clouds_31 : decode cX8_clouds 31 = .ok (.getfield 7, 3) := by decide +kernel
theorem dX8_clouds_34 : decode cX8_clouds 34 = .ok (.bipush 23, 2) := by decide +kernel
theorem dX8_clouds_36 : decode cX8_clouds 36 = .ok (.iload_n 1, 1) := by decide +kernel
theorem dX8_clouds_37 : decode cX8_clouds 37 = .ok (.iadd, 1) := by decide +kernel
theorem dX8_clouds_38 : decode cX8_clouds 38 = .ok (.iaload, 1) := by decide +kernel
theorem dX8_clouds_39 : decode cX8_clouds 39 = .ok (.ireturn, 1) := by decide +kernel
theorem dX8_sleeps_0 : decode cX8_sleeps 0 = .ok (.iload_n 1, 1) := by decide +kernel
theorem dX8_sleeps_1 : decode cX8_sleeps 1 = .ok (.invokestatic 67, 3) := by decide +kernel
theorem dX8_sleeps_4 : decode cX8_sleeps 4 = .ok (.ifCond .ne 5, 3) := by decide +kernel
theorem dX8_sleeps_7 : decode cX8_sleeps 7 = .ok (.iconst (-1), 1) := by decide +kernel
theorem dX8_sleeps_8 : decode cX8_sleeps 8 = .ok (.ireturn, 1) := by decide +kernel
theorem dX8_sleeps_9 : decode cX8_sleeps 9 = .ok (.aload_n 0, 1) := by decide +kernel
theorem dX8_sleeps_10 : decode cX8_sleeps 10 = .ok (.iload_n 1, 1) := by decide +kernel
theorem dX8_sleeps_11 : decode cX8_sleeps 11 = .ok (.bipush 7, 2) := by decide +kernel
theorem dX8_sleeps_13 : decode cX8_sleeps 13 = .ok (.invokevirtual 54, 3) := by decide +kernel
theorem dX8_sleeps_16 : decode cX8_sleeps 16 = .ok (.iconst 2, 1) := by decide +kernel
theorem dX8_sleeps_17 : decode cX8_sleeps 17 = .ok (.if_icmp .ne 6, 3) := by decide +kernel
theorem dX8_sleeps_20 : decode cX8_sleeps 20 = .ok (.bipush (-5), 2) := by decide +kernel
theorem dX8_sleeps_22 : decode cX8_sleeps 22 = .ok (.ireturn, 1) := by decide +kernel
theorem dX8_sleeps_23 : decode cX8_sleeps 23 = .ok (.aload_n 0, 1) := by decide +kernel
theorem dX8_sleeps_24 : decode cX8_sleeps 24 = .ok (.iload_n 1, 1) := by decide +kernel
theorem dX8_sleeps_25 : decode cX8_sleeps 25 = .ok (.bipush 7, 2) := by decide +kernel
theorem dX8_sleeps_27 : decode cX8_sleeps 27 = .ok (.iconst 1, 1) := by decide +kernel
theorem dX8_sleeps_28 : decode cX8_sleeps 28 = .ok (.aload_n 0, 1) := by decide +kernel
theorem dX8_sleeps_29 : decode cX8_sleeps 29 = .ok (.iload_n 1, 1) := by decide +kernel
theorem dX8_sleeps_30 : decode cX8_sleeps 30 = .ok (.bipush 7, 2) := by decide +kernel
theorem dX8_sleeps_32 : decode cX8_sleeps 32 = .ok (.invokevirtual 54, 3) := by decide +kernel
theorem dX8_sleeps_35 : decode cX8_sleeps 35 = .ok (.isub, 1) := by decide +kernel
theorem dX8_sleeps_36 : decode cX8_sleeps 36 = .ok (.invokevirtual 28, 3) := by decide +kernel
theorem dX8_sleeps_39 : decode cX8_sleeps 39 = .ok (.aload_n 0, 1) := by decide +kernel
theorem dX8_sleeps_40 : decode cX8_sleeps 40 = .ok (.iload_n 1, 1) := by decide +kernel
theorem dX8_sleeps_41 : decode cX8_sleeps 41 = .ok (.bipush 7, 2) := by decide +kernel
theorem dX8_sleeps_43 : decode cX8_sleeps 43 = .ok (.invokevirtual 54, 3) := by decide +kernel
theorem dX8_sleeps_46 : decode cX8_sleeps 46 = .ok (.ireturn, 1) := by decide +kernel
theorem dX8_aims_0 : decode cX8_aims 0 = .ok (.iload_n 1, 1) := by decide +kernel
theorem dX8_aims_1 : decode cX8_aims 1 = .ok (.invokestatic 106, 3) := by decide +kernel
theorem dX8_aims_4 : decode cX8_aims 4 = .ok (.ifCond .ne 6, 3) := by decide +kernel
theorem dX8_aims_7 : decode cX8_aims 7 = .ok (.bipush (-2), 2) := by decide +kernel
theorem dX8_aims_9 : decode cX8_aims 9 = .ok (.ireturn, 1) := by decide +kernel
theorem dX8_aims_10 : decode cX8_aims 10 = .ok (.aload_n 0, 1) := by decide +kernel
theorem dX8_aims_11 : decode cX8_aims 11 = .ok (.getfield 7, 3) := by decide +kernel
theorem dX8_aims_14 : decode cX8_aims 14 = .ok (.bipush 7, 2) := by decide +kernel
theorem dX8_aims_16 : decode cX8_aims 16 = .ok (.iaload, 1) := by decide +kernel
theorem dX8_aims_17 : decode cX8_aims 17 = .ok (.istore_n 2, 1) := by decide +kernel
theorem dX8_aims_18 : decode cX8_aims 18 = .ok (.aload_n 0, 1) := by decide +kernel
theorem dX8_aims_19 : decode cX8_aims 19 = .ok (.getfield 7, 3) := by decide +kernel
theorem dX8_aims_22 : decode cX8_aims 22 = .ok (.bipush 7, 2) := by decide +kernel
theorem dX8_aims_24 : decode cX8_aims 24 = .ok (.iload_n 1, 1) := by decide +kernel
theorem dX8_aims_25 : decode cX8_aims 25 = .ok (.iastore, 1) := by decide +kernel
theorem dX8_aims_26 : decode cX8_aims 26 = .ok (.iload_n 2, 1) := by decide +kernel
theorem dX8_aims_27 : decode cX8_aims 27 = .ok (.sipush 5400, 3) := by decide +kernel
theorem dX8_aims_30 : decode cX8_aims 30 = .ok (.iadd, 1) := by decide +kernel
theorem dX8_aims_31 : decode cX8_aims 31 = .ok (.ireturn, 1) := by decide +kernel
theorem dX8_leastOf_0 : decode cX8_leastOf 0 = .ok (.iload_n 0, 1) := by decide +kernel
theorem dX8_leastOf_1 : decode cX8_leastOf 1 = .ok (.ifCond .ne 8, 3) := by decide +kernel
theorem dX8_leastOf_4 : decode cX8_leastOf 4 = .ok (.bipush (-30), 2) := by decide +kernel
theorem dX8_leastOf_6 : decode cX8_leastOf 6 = .ok (.goto 13, 3) := by decide +kernel
theorem dX8_leastOf_9 : decode cX8_leastOf 9 = .ok (.iload_n 0, 1) := by decide +kernel
theorem dX8_leastOf_10 : decode cX8_leastOf 10 = .ok (.iconst 2, 1) := by decide +kernel
theorem dX8_leastOf_11 : decode cX8_leastOf 11 = .ok (.if_icmp .ne 7, 3) := by decide +kernel
theorem dX8_leastOf_14 : decode cX8_leastOf 14 = .ok (.iconst 1, 1) := by decide +kernel
theorem dX8_leastOf_15 : decode cX8_leastOf 15 = .ok (.goto 4, 3) := by decide +kernel
theorem dX8_leastOf_18 : decode cX8_leastOf 18 = .ok (.iconst 0, 1) := by decide +kernel
theorem dX8_leastOf_19 : decode cX8_leastOf 19 = .ok (.ireturn, 1) := by decide +kernel
theorem dX8_mostOf_0 : decode cX8_mostOf 0 = .ok (.iload_n 0, 1) := by decide +kernel
theorem dX8_mostOf_1 : decode cX8_mostOf 1 = .ok (.iconst 2, 1) := by decide +kernel
theorem dX8_mostOf_2 : decode cX8_mostOf 2 = .ok (.if_icmp .ne 9, 3) := by decide +kernel
theorem dX8_mostOf_5 : decode cX8_mostOf 5 = .ok (.sipush 999, 3) := by decide +kernel
theorem dX8_mostOf_8 : decode cX8_mostOf 8 = .ok (.goto 16, 3) := by decide +kernel
theorem dX8_mostOf_11 : decode cX8_mostOf 11 = .ok (.iload_n 0, 1) := by decide +kernel
theorem dX8_mostOf_12 : decode cX8_mostOf 12 = .ok (.iconst 3, 1) := by decide +kernel
theorem dX8_mostOf_13 : decode cX8_mostOf 13 = .ok (.if_icmp .ne 9, 3) := by decide +kernel
theorem dX8_mostOf_16 : decode cX8_mostOf 16 = .ok (.sipush 1800, 3) := by decide +kernel
theorem dX8_mostOf_19 : decode cX8_mostOf 19 = .ok (.goto 5, 3) := by decide +kernel
theorem dX8_mostOf_22 : decode cX8_mostOf 22 = .ok (.bipush 30, 2) := by decide +kernel
theorem dX8_mostOf_24 : decode cX8_mostOf 24 = .ok (.ireturn, 1) := by decide +kernel
theorem dX8_set_0 : decode cX8_set 0 = .ok (.iload_n 1, 1) := by decide +kernel
theorem dX8_set_1 : decode cX8_set 1 = .ok (.iconst 0, 1) := by decide +kernel
theorem dX8_set_2 : decode cX8_set 2 = .ok (.iconst 3, 1) := by decide +kernel
theorem dX8_set_3 : decode cX8_set 3 = .ok (.invokestatic 32, 3) := by decide +kernel
theorem dX8_set_6 : decode cX8_set 6 = .ok (.ifCond .eq 18, 3) := by decide +kernel
theorem dX8_set_9 : decode cX8_set 9 = .ok (.iload_n 2, 1) := by decide +kernel
theorem dX8_set_10 : decode cX8_set 10 = .ok (.iload_n 1, 1) := by decide +kernel
theorem dX8_set_11 : decode cX8_set 11 = .ok (.invokestatic 109, 3) := by decide +kernel
theorem dX8_set_14 : decode cX8_set 14 = .ok (.iload_n 1, 1) := by decide +kernel
theorem dX8_set_15 : decode cX8_set 15 = .ok (.invokestatic 112, 3) := by decide +kernel
theorem dX8_set_18 : decode cX8_set 18 = .ok (.invokestatic 32, 3) := by decide +kernel
theorem dX8_set_21 : decode cX8_set 21 = .ok (.ifCond .ne 6, 3) := by decide +kernel
theorem dX8_set_24 : decode cX8_set 24 = .ok (.bipush (-2), 2) := by decide +kernel
theorem dX8_set_26 : decode cX8_set 26 = .ok (.ireturn, 1) := by decide +kernel
theorem dX8_set_27 : decode cX8_set 27 = .ok (.aload_n 0, 1) := by decide +kernel
theorem dX8_set_28 : decode cX8_set 28 = .ok (.invokevirtual 47, 3) := by decide +kernel
theorem dX8_set_31 : decode cX8_set 31 = .ok (.aload_n 0, 1) := by decide +kernel
theorem dX8_set_32 : decode cX8_set 32 = .ok (.getfield 7, 3) := by decide +kernel
theorem dX8_set_35 : decode cX8_set 35 = .ok (.iload_n 1, 1) := by decide +kernel
theorem dX8_set_36 : decode cX8_set 36 = .ok (.iaload, 1) := by decide +kernel
theorem dX8_set_37 : decode cX8_set 37 = .ok (.istore_n 3, 1) := by decide +kernel
theorem dX8_set_38 : decode cX8_set 38 = .ok (.aload_n 0, 1) := by decide +kernel
theorem dX8_set_39 : decode cX8_set 39 = .ok (.getfield 7, 3) := by decide +kernel
theorem dX8_set_42 : decode cX8_set 42 = .ok (.iload_n 1, 1) := by decide +kernel
theorem dX8_set_43 : decode cX8_set 43 = .ok (.iload_n 2, 1) := by decide +kernel
theorem dX8_set_44 : decode cX8_set 44 = .ok (.iastore, 1) := by decide +kernel
theorem dX8_set_45 : decode cX8_set 45 = .ok (.aload_n 0, 1) := by decide +kernel
theorem dX8_set_46 : decode cX8_set 46 = .ok (.iload_n 3, 1) := by decide +kernel
theorem dX8_set_47 : decode cX8_set 47 = .ok (.bipush 30, 2) := by decide +kernel
theorem dX8_set_49 : decode cX8_set 49 = .ok (.iadd, 1) := by decide +kernel
theorem dX8_set_50 : decode cX8_set 50 = .ok (.invokevirtual 115, 3) := by decide +kernel
theorem dX8_set_53 : decode cX8_set 53 = .ok (.ireturn, 1) := by decide +kernel
theorem dX8_star_0 : decode cX8_star 0 = .ok (.aload_n 0, 1) := by decide +kernel
theorem dX8_star_1 : decode cX8_star 1 = .ok (.invokevirtual 47, 3) := by decide +kernel
theorem dX8_star_4 : decode cX8_star 4 = .ok (.aload_n 0, 1) := by decide +kernel
theorem dX8_star_5 : decode cX8_star 5 = .ok (.aload_n 0, 1) := by decide +kernel
theorem dX8_star_6 : decode cX8_star 6 = .ok (.iload_n 1, 1) := by decide +kernel
theorem dX8_star_7 : decode cX8_star 7 = .ok (.invokevirtual 118, 3) := by decide +kernel
theorem dX8_star_10 : decode cX8_star 10 = .ok (.invokevirtual 115, 3) := by decide +kernel
theorem dX8_star_13 : decode cX8_star 13 = .ok (.ireturn, 1) := by decide +kernel
theorem dX8_cloud_0 : decode cX8_cloud 0 = .ok (.aload_n 0, 1) := by decide +kernel
theorem dX8_cloud_1 : decode cX8_cloud 1 = .ok (.invokevirtual 47, 3) := by decide +kernel
theorem dX8_cloud_4 : decode cX8_cloud 4 = .ok (.aload_n 0, 1) := by decide +kernel
theorem dX8_cloud_5 : decode cX8_cloud 5 = .ok (.aload_n 0, 1) := by decide +kernel
theorem dX8_cloud_6 : decode cX8_cloud 6 = .ok (.iload_n 1, 1) := by decide +kernel
theorem dX8_cloud_7 : decode cX8_cloud 7 = .ok (.invokevirtual 121, 3) := by decide +kernel
theorem dX8_cloud_10 : decode cX8_cloud 10 = .ok (.invokevirtual 115, 3) := by decide +kernel
theorem dX8_cloud_13 : decode cX8_cloud 13 = .ok (.ireturn, 1) := by decide +kernel
theorem dX8_isValue_0 : decode cX8_isValue 0 = .ok (.iload_n 0, 1) := by decide +kernel
theorem dX8_isValue_1 : decode cX8_isValue 1 = .ok (.ifCond .ne 13, 3) := by decide +kernel
theorem dX8_isValue_4 : decode cX8_isValue 4 = .ok (.iload_n 1, 1) := by decide +kernel
theorem dX8_isValue_5 : decode cX8_isValue 5 = .ok (.iconst 0, 1) := by decide +kernel
theorem dX8_isValue_6 : decode cX8_isValue 6 = .ok (.bipush 9, 2) := by decide +kernel
theorem dX8_isValue_8 : decode cX8_isValue 8 = .ok (.invokestatic 32, 3) := by decide +kernel
theorem dX8_isValue_11 : decode cX8_isValue 11 = .ok (.goto 38, 3) := by decide +kernel
theorem dX8_isValue_14 : decode cX8_isValue 14 = .ok (.iload_n 0, 1) := by decide +kernel
theorem dX8_isValue_15 : decode cX8_isValue 15 = .ok (.iconst 1, 1) := by decide +kernel
theorem dX8_isValue_16 : decode cX8_isValue 16 = .ok (.if_icmp .ne 14, 3) := by decide +kernel
theorem dX8_isValue_19 : decode cX8_isValue 19 = .ok (.iload_n 1, 1) := by decide +kernel
theorem dX8_isValue_20 : decode cX8_isValue 20 = .ok (.bipush (-60), 2) := by decide +kernel
theorem dX8_isValue_22 : decode cX8_isValue 22 = .ok (.bipush 60, 2) := by decide +kernel
theorem dX8_isValue_24 : decode cX8_isValue 24 = .ok (.invokestatic 32, 3) := by decide +kernel
theorem dX8_isValue_27 : decode cX8_isValue 27 = .ok (.goto 22, 3) := by decide +kernel
theorem dX8_isValue_30 : decode cX8_isValue 30 = .ok (.iload_n 0, 1) := by decide +kernel
theorem dX8_isValue_31 : decode cX8_isValue 31 = .ok (.iconst 2, 1) := by decide +kernel
theorem dX8_isValue_32 : decode cX8_isValue 32 = .ok (.if_icmp .ne 16, 3) := by decide +kernel
theorem dX8_isValue_35 : decode cX8_isValue 35 = .ok (.iload_n 1, 1) := by decide +kernel
theorem dX8_isValue_36 : decode cX8_isValue 36 = .ok (.iconst 0, 1) := by decide +kernel
theorem dX8_isValue_37 : decode cX8_isValue 37 = .ok (.iconst 1, 1) := by decide +kernel
theorem dX8_isValue_38 : decode cX8_isValue 38 = .ok (.invokestatic 32, 3) := by decide +kernel
theorem dX8_isValue_41 : decode cX8_isValue 41 = .ok (.ifCond .eq 7, 3) := by decide +kernel
theorem dX8_isValue_44 : decode cX8_isValue 44 = .ok (.iconst 1, 1) := by decide +kernel
theorem dX8_isValue_45 : decode cX8_isValue 45 = .ok (.goto 4, 3) := by decide +kernel
theorem dX8_isValue_48 : decode cX8_isValue 48 = .ok (.iconst 0, 1) := by decide +kernel
theorem dX8_isValue_49 : decode cX8_isValue 49 = .ok (.ireturn, 1) := by decide +kernel
theorem dX8_navigator_0 : decode cX8_navigator 0 = .ok (.iload_n 1, 1) := by decide +kernel
theorem dX8_navigator_1 : decode cX8_navigator 1 = .ok (.invokestatic 67, 3) := by decide +kernel
theorem dX8_navigator_4 : decode cX8_navigator 4 = .ok (.ifCond .ne 5, 3) := by decide +kernel
theorem dX8_navigator_7 : decode cX8_navigator 7 = .ok (.iconst (-1), 1) := by decide +kernel
theorem dX8_navigator_8 : decode cX8_navigator 8 = .ok (.ireturn, 1) := by decide +kernel
theorem dX8_navigator_9 : decode cX8_navigator 9 = .ok (.iload_n 2, 1) := by decide +kernel
theorem dX8_navigator_10 : decode cX8_navigator 10 = .ok (.iload_n 3, 1) := by decide +kernel
theorem dX8_navigator_11 : decode cX8_navigator 11 = .ok (.invokestatic 124, 3) := by decide +kernel
theorem dX8_navigator_14 : decode cX8_navigator 14 = .ok (.ifCond .ne 6, 3) := by decide +kernel
theorem dX8_navigator_17 : decode cX8_navigator 17 = .ok (.bipush (-2), 2) := by decide +kernel
theorem dX8_navigator_19 : decode cX8_navigator 19 = .ok (.ireturn, 1) := by decide +kernel
theorem dX8_navigator_20 : decode cX8_navigator 20 = .ok (.aload_n 0, 1) := by decide +kernel
theorem dX8_navigator_21 : decode cX8_navigator 21 = .ok (.invokevirtual 47, 3) := by decide +kernel
theorem dX8_navigator_24 : decode cX8_navigator 24 = .ok (.aload_n 0, 1) := by decide +kernel
theorem dX8_navigator_25 : decode cX8_navigator 25 = .ok (.iload_n 1, 1) := by decide +kernel
theorem dX8_navigator_26 : decode cX8_navigator 26 = .ok (.iload_n 2, 1) := by decide +kernel
theorem dX8_navigator_27 : decode cX8_navigator 27 = .ok (.invokevirtual 54, 3) := by decide +kernel
theorem dX8_navigator_30 : decode cX8_navigator 30 = .ok (.istore 4, 2) := by decide +kernel
theorem dX8_navigator_32 : decode cX8_navigator 32 = .ok (.aload_n 0, 1) := by decide +kernel
theorem dX8_navigator_33 : decode cX8_navigator 33 = .ok (.iload_n 1, 1) := by decide +kernel
theorem dX8_navigator_34 : decode cX8_navigator 34 = .ok (.iload_n 2, 1) := by decide +kernel
theorem dX8_navigator_35 : decode cX8_navigator 35 = .ok (.iload_n 3, 1) := by decide +kernel
theorem dX8_navigator_36 : decode cX8_navigator 36 = .ok (.invokevirtual 28, 3) := by decide +kernel
theorem dX8_navigator_39 : decode cX8_navigator 39 = .ok (.aload_n 0, 1) := by decide +kernel
theorem dX8_navigator_40 : decode cX8_navigator 40 = .ok (.iload 4, 2) := by decide +kernel
theorem dX8_navigator_42 : decode cX8_navigator 42 = .ok (.bipush 60, 2) := by decide +kernel
theorem dX8_navigator_44 : decode cX8_navigator 44 = .ok (.iadd, 1) := by decide +kernel
theorem dX8_navigator_45 : decode cX8_navigator 45 = .ok (.invokevirtual 115, 3) := by decide +kernel
theorem dX8_navigator_48 : decode cX8_navigator 48 = .ok (.ireturn, 1) := by decide +kernel
theorem dX8_sleep_0 : decode cX8_sleep 0 = .ok (.aload_n 0, 1) := by decide +kernel
theorem dX8_sleep_1 : decode cX8_sleep 1 = .ok (.invokevirtual 47, 3) := by decide +kernel
theorem dX8_sleep_4 : decode cX8_sleep 4 = .ok (.aload_n 0, 1) := by decide +kernel
theorem dX8_sleep_5 : decode cX8_sleep 5 = .ok (.aload_n 0, 1) := by decide +kernel
theorem dX8_sleep_6 : decode cX8_sleep 6 = .ok (.iload_n 1, 1) := by decide +kernel
theorem dX8_sleep_7 : decode cX8_sleep 7 = .ok (.invokevirtual 127, 3) := by decide +kernel
theorem dX8_sleep_10 : decode cX8_sleep 10 = .ok (.invokevirtual 115, 3) := by decide +kernel
theorem dX8_sleep_13 : decode cX8_sleep 13 = .ok (.ireturn, 1) := by decide +kernel
theorem dX8_goal_0 : decode cX8_goal 0 = .ok (.aload_n 0, 1) := by decide +kernel
theorem dX8_goal_1 : decode cX8_goal 1 = .ok (.invokevirtual 47, 3) := by decide +kernel
theorem dX8_goal_4 : decode cX8_goal 4 = .ok (.aload_n 0, 1) := by decide +kernel
theorem dX8_goal_5 : decode cX8_goal 5 = .ok (.aload_n 0, 1) := by decide +kernel
theorem dX8_goal_6 : decode cX8_goal 6 = .ok (.iload_n 1, 1) := by decide +kernel
theorem dX8_goal_7 : decode cX8_goal 7 = .ok (.invokevirtual 130, 3) := by decide +kernel
theorem dX8_goal_10 : decode cX8_goal 10 = .ok (.invokevirtual 115, 3) := by decide +kernel
theorem dX8_goal_13 : decode cX8_goal 13 = .ok (.ireturn, 1) := by decide +kernel
theorem dX8_sight_0 : decode cX8_sight 0 = .ok (.aload_n 0, 1) := by decide +kernel
theorem dX8_sight_1 : decode cX8_sight 1 = .ok (.invokevirtual 47, 3) := by decide +kernel
theorem dX8_sight_4 : decode cX8_sight 4 = .ok (.aload_n 0, 1) := by decide +kernel
theorem dX8_sight_5 : decode cX8_sight 5 = .ok (.aload_n 0, 1) := by decide +kernel
theorem dX8_sight_6 : decode cX8_sight 6 = .ok (.iload_n 1, 1) := by decide +kernel
theorem dX8_sight_7 : decode cX8_sight 7 = .ok (.iload_n 2, 1) := by decide +kernel
theorem dX8_sight_8 : decode cX8_sight 8 = .ok (.invokevirtual 133, 3) := by decide +kernel
theorem dX8_sight_11 : decode cX8_sight 11 = .ok (.invokevirtual 115, 3) := by decide +kernel
theorem dX8_sight_14 : decode cX8_sight 14 = .ok (.ireturn, 1) := by decide +kernel
theorem dX8_agree_0 : decode cX8_agree 0 = .ok (.aload_n 0, 1) := by decide +kernel
theorem dX8_agree_1 : decode cX8_agree 1 = .ok (.invokevirtual 47, 3) := by decide +kernel
theorem dX8_agree_4 : decode cX8_agree 4 = .ok (.aload_n 0, 1) := by decide +kernel
theorem dX8_agree_5 : decode cX8_agree 5 = .ok (.aload_n 0, 1) := by decide +kernel
theorem dX8_agree_6 : decode cX8_agree 6 = .ok (.invokevirtual 136, 3) := by decide +kernel
theorem dX8_agree_9 : decode cX8_agree 9 = .ok (.invokevirtual 115, 3) := by decide +kernel
theorem dX8_agree_12 : decode cX8_agree 12 = .ok (.ireturn, 1) := by decide +kernel
theorem dX8_sail_0 : decode cX8_sail 0 = .ok (.aload_n 0, 1) := by decide +kernel
theorem dX8_sail_1 : decode cX8_sail 1 = .ok (.invokevirtual 47, 3) := by decide +kernel
theorem dX8_sail_4 : decode cX8_sail 4 = .ok (.aload_n 0, 1) := by decide +kernel
theorem dX8_sail_5 : decode cX8_sail 5 = .ok (.aload_n 0, 1) := by decide +kernel
theorem dX8_sail_6 : decode cX8_sail 6 = .ok (.iload_n 1, 1) := by decide +kernel
theorem dX8_sail_7 : decode cX8_sail 7 = .ok (.invokevirtual 139, 3) := by decide +kernel
theorem dX8_sail_10 : decode cX8_sail 10 = .ok (.invokevirtual 115, 3) := by decide +kernel
theorem dX8_sail_13 : decode cX8_sail 13 = .ok (.ireturn, 1) := by decide +kernel
theorem dX8_night_0 : decode cX8_night 0 = .ok (.aload_n 0, 1) := by decide +kernel
theorem dX8_night_1 : decode cX8_night 1 = .ok (.invokevirtual 47, 3) := by decide +kernel
theorem dX8_night_4 : decode cX8_night 4 = .ok (.aload_n 0, 1) := by decide +kernel
theorem dX8_night_5 : decode cX8_night 5 = .ok (.aload_n 0, 1) := by decide +kernel
theorem dX8_night_6 : decode cX8_night 6 = .ok (.invokevirtual 142, 3) := by decide +kernel
theorem dX8_night_9 : decode cX8_night 9 = .ok (.invokevirtual 115, 3) := by decide +kernel
theorem dX8_night_12 : decode cX8_night 12 = .ok (.ireturn, 1) := by decide +kernel
theorem dX8_estimate_0 : decode cX8_estimate 0 = .ok (.aload_n 0, 1) := by decide +kernel
theorem dX8_estimate_1 : decode cX8_estimate 1 = .ok (.iload_n 1, 1) := by decide +kernel
theorem dX8_estimate_2 : decode cX8_estimate 2 = .ok (.iconst 5, 1) := by decide +kernel
theorem dX8_estimate_3 : decode cX8_estimate 3 = .ok (.invokevirtual 54, 3) := by decide +kernel
theorem dX8_estimate_6 : decode cX8_estimate 6 = .ok (.iconst 1, 1) := by decide +kernel
theorem dX8_estimate_7 : decode cX8_estimate 7 = .ok (.if_icmp .ne 17, 3) := by decide +kernel
theorem dX8_estimate_10 : decode cX8_estimate 10 = .ok (.aload_n 0, 1) := by decide +kernel
theorem dX8_estimate_11 : decode cX8_estimate 11 = .ok (.iload_n 1, 1) := by decide +kernel
theorem dX8_estimate_12 : decode cX8_estimate 12 = .ok (.bipush 6, 2) := by decide +kernel
theorem dX8_estimate_14 : decode cX8_estimate 14 = .ok (.invokevirtual 54, 3) := by decide +kernel
theorem dX8_estimate_17 : decode cX8_estimate 17 = .ok (.sipush 5400, 3) := by decide +kernel
theorem dX8_estimate_20 : decode cX8_estimate 20 = .ok (.iadd, 1) := by decide +kernel
theorem dX8_estimate_21 : decode cX8_estimate 21 = .ok (.goto 5, 3) := by decide +kernel
theorem dX8_estimate_24 : decode cX8_estimate 24 = .ok (.bipush (-6), 2) := by decide +kernel
theorem dX8_estimate_26 : decode cX8_estimate 26 = .ok (.ireturn, 1) := by decide +kernel
theorem dX8_of_0 : decode cX8_of 0 = .ok (.iload_n 1, 1) := by decide +kernel
theorem dX8_of_1 : decode cX8_of 1 = .ok (.invokestatic 67, 3) := by decide +kernel
theorem dX8_of_4 : decode cX8_of 4 = .ok (.ifCond .ne 5, 3) := by decide +kernel
theorem dX8_of_7 : decode cX8_of 7 = .ok (.iconst (-1), 1) := by decide +kernel
theorem dX8_of_8 : decode cX8_of 8 = .ok (.ireturn, 1) := by decide +kernel
theorem dX8_of_9 : decode cX8_of 9 = .ok (.iload_n 2, 1) := by decide +kernel
theorem dX8_of_10 : decode cX8_of 10 = .ok (.tableswitch 87 0 7 #[46, 53, 46, 46, 46, 63, 69, 77], 46) := by decide +kernel
theorem dX8_of_56 : decode cX8_of 56 = .ok (.aload_n 0, 1) := by decide +kernel
theorem dX8_of_57 : decode cX8_of 57 = .ok (.iload_n 1, 1) := by decide +kernel
theorem dX8_of_58 : decode cX8_of 58 = .ok (.iload_n 2, 1) := by decide +kernel
theorem dX8_of_59 : decode cX8_of 59 = .ok (.invokevirtual 54, 3) := by decide +kernel
theorem dX8_of_62 : decode cX8_of 62 = .ok (.ireturn, 1) := by decide +kernel
theorem dX8_of_63 : decode cX8_of 63 = .ok (.aload_n 0, 1) := by decide +kernel
theorem dX8_of_64 : decode cX8_of 64 = .ok (.iload_n 1, 1) := by decide +kernel
theorem dX8_of_65 : decode cX8_of 65 = .ok (.iconst 1, 1) := by decide +kernel
theorem dX8_of_66 : decode cX8_of 66 = .ok (.invokevirtual 54, 3) := by decide +kernel
theorem dX8_of_69 : decode cX8_of 69 = .ok (.bipush 60, 2) := by decide +kernel
theorem dX8_of_71 : decode cX8_of 71 = .ok (.iadd, 1) := by decide +kernel
theorem dX8_of_72 : decode cX8_of 72 = .ok (.ireturn, 1) := by decide +kernel
theorem dX8_of_73 : decode cX8_of 73 = .ok (.aload_n 0, 1) := by decide +kernel
theorem dX8_of_74 : decode cX8_of 74 = .ok (.iload_n 1, 1) := by decide +kernel
theorem dX8_of_75 : decode cX8_of 75 = .ok (.invokevirtual 145, 3) := by decide +kernel
theorem dX8_of_78 : decode cX8_of 78 = .ok (.ireturn, 1) := by decide +kernel
theorem dX8_of_79 : decode cX8_of 79 = .ok (.aload_n 0, 1) := by decide +kernel
theorem dX8_of_80 : decode cX8_of 80 = .ok (.iload_n 1, 1) := by decide +kernel
theorem dX8_of_81 : decode cX8_of 81 = .ok (.bipush 7, 2) := by decide +kernel
theorem dX8_of_83 : decode cX8_of 83 = .ok (.invokevirtual 54, 3) := by decide +kernel
theorem dX8_of_86 : decode cX8_of 86 = .ok (.ireturn, 1) := by decide +kernel
theorem dX8_of_87 : decode cX8_of 87 = .ok (.aload_n 0, 1) := by decide +kernel
theorem dX8_of_88 : decode cX8_of 88 = .ok (.iload_n 1, 1) := by decide +kernel
theorem dX8_of_89 : decode cX8_of 89 = .ok (.invokevirtual 61, 3) := by decide +kernel
theorem dX8_of_92 : decode cX8_of 92 = .ok (.sipush 999, 3) := by decide +kernel
theorem dX8_of_95 : decode cX8_of 95 = .ok (.iadd, 1) := by decide +kernel
theorem dX8_of_96 : decode cX8_of 96 = .ok (.ireturn, 1) := by decide +kernel
theorem dX8_of_97 : decode cX8_of 97 = .ok (.bipush (-2), 2) := by decide +kernel
theorem dX8_of_99 : decode cX8_of 99 = .ok (.ireturn, 1) := by decide +kernel
theorem dX8_whoCan_0 : decode cX8_whoCan 0 = .ok (.iconst 0, 1) := by decide +kernel
theorem dX8_whoCan_1 : decode cX8_whoCan 1 = .ok (.istore_n 2, 1) := by decide +kernel
theorem dX8_whoCan_2 : decode cX8_whoCan 2 = .ok (.iconst 0, 1) := by decide +kernel
theorem dX8_whoCan_3 : decode cX8_whoCan 3 = .ok (.istore_n 3, 1) := by decide +kernel
theorem dX8_whoCan_4 : decode cX8_whoCan 4 = .ok (.iload_n 3, 1) := by decide +kernel
theorem dX8_whoCan_5 : decode cX8_whoCan 5 = .ok (.bipush 7, 2) := by decide +kernel
theorem dX8_whoCan_7 : decode cX8_whoCan 7 = .ok (.if_icmp .ge 28, 3) := by decide +kernel
theorem dX8_whoCan_10 : decode cX8_whoCan 10 = .ok (.iload_n 2, 1) := by decide +kernel
theorem dX8_whoCan_11 : decode cX8_whoCan 11 = .ok (.aload_n 0, 1) := by decide +kernel
theorem dX8_whoCan_12 : decode cX8_whoCan 12 = .ok (.iload_n 3, 1) := by decide +kernel
theorem dX8_whoCan_13 : decode cX8_whoCan 13 = .ok (.iload_n 1, 1) := by decide +kernel
theorem dX8_whoCan_14 : decode cX8_whoCan 14 = .ok (.invokevirtual 73, 3) := by decide +kernel
theorem dX8_whoCan_17 : decode cX8_whoCan 17 = .ok (.ifCond .ne 9, 3) := by decide +kernel
theorem dX8_whoCan_20 : decode cX8_whoCan 20 = .ok (.iconst 1, 1) := by decide +kernel
theorem dX8_whoCan_21 : decode cX8_whoCan 21 = .ok (.iload_n 3, 1) := by decide +kernel
theorem dX8_whoCan_22 : decode cX8_whoCan 22 = .ok (.ishl, 1) := by decide +kernel
theorem dX8_whoCan_23 : decode cX8_whoCan 23 = .ok (.goto 4, 3) := by decide +kernel
theorem dX8_whoCan_26 : decode cX8_whoCan 26 = .ok (.iconst 0, 1) := by decide +kernel
theorem dX8_whoCan_27 : decode cX8_whoCan 27 = .ok (.ior, 1) := by decide +kernel
theorem dX8_whoCan_28 : decode cX8_whoCan 28 = .ok (.istore_n 2, 1) := by decide +kernel
theorem dX8_whoCan_29 : decode cX8_whoCan 29 = .ok (.iinc 3 1, 3) := by decide +kernel
theorem dX8_whoCan_32 : decode cX8_whoCan 32 = .ok (.goto (-28), 3) := by decide +kernel
theorem dX8_whoCan_35 : decode cX8_whoCan 35 = .ok (.iload_n 2, 1) := by decide +kernel
theorem dX8_whoCan_36 : decode cX8_whoCan 36 = .ok (.ireturn, 1) := by decide +kernel
theorem dX8_ofStar_0 : decode cX8_ofStar 0 = .ok (.aload_n 0, 1) := by decide +kernel
theorem dX8_ofStar_1 : decode cX8_ofStar 1 = .ok (.iload_n 1, 1) := by decide +kernel
theorem dX8_ofStar_2 : decode cX8_ofStar 2 = .ok (.invokevirtual 70, 3) := by decide +kernel
theorem dX8_ofStar_5 : decode cX8_ofStar 5 = .ok (.ifCond .ne 5, 3) := by decide +kernel
theorem dX8_ofStar_8 : decode cX8_ofStar 8 = .ok (.iconst (-1), 1) := by decide +kernel
theorem dX8_ofStar_9 : decode cX8_ofStar 9 = .ok (.ireturn, 1) := by decide +kernel
theorem dX8_ofStar_10 : decode cX8_ofStar 10 = .ok (.iload_n 2, 1) := by decide +kernel
theorem dX8_ofStar_11 : decode cX8_ofStar 11 = .ok (.tableswitch 69 0 3 #[29, 43, 53, 63], 29) := by decide +kernel
theorem dX8_ofStar_40 : decode cX8_ofStar 40 = .ok (.aload_n 0, 1) := by decide +kernel
theorem dX8_ofStar_41 : decode cX8_ofStar 41 = .ok (.getfield 7, 3) := by decide +kernel
theorem dX8_ofStar_44 : decode cX8_ofStar 44 = .ok (.bipush 15, 2) := by decide +kernel
theorem dX8_ofStar_46 : decode cX8_ofStar 46 = .ok (.iload_n 1, 1) := by decide +kernel
theorem dX8_ofStar_47 : decode cX8_ofStar 47 = .ok (.iadd, 1) := by decide +kernel
theorem dX8_ofStar_48 : decode cX8_ofStar 48 = .ok (.iaload, 1) := by decide +kernel
theorem dX8_ofStar_49 : decode cX8_ofStar 49 = .ok (.sipush 5400, 3) := by decide +kernel
theorem dX8_ofStar_52 : decode cX8_ofStar 52 = .ok (.iadd, 1) := by decide +kernel
theorem dX8_ofStar_53 : decode cX8_ofStar 53 = .ok (.ireturn, 1) := by decide +kernel
theorem dX8_ofStar_54 : decode cX8_ofStar 54 = .ok (.aload_n 0, 1) := by decide +kernel
theorem dX8_ofStar_55 : decode cX8_ofStar 55 = .ok (.getfield 7, 3) := by decide +kernel
theorem dX8_ofStar_58 : decode cX8_ofStar 58 = .ok (.bipush 23, 2) := by decide +kernel
theorem dX8_ofStar_60 : decode cX8_ofStar 60 = .ok (.iload_n 1, 1) := by decide +kernel
theorem dX8_ofStar_61 : decode cX8_ofStar 61 = .ok (.iadd, 1) := by decide +kernel
theorem dX8_ofStar_62 : decode cX8_ofStar 62 = .ok (.iaload, 1) := by decide +kernel
theorem dX8_ofStar_63 : decode cX8_ofStar 63 = .ok (.ireturn, 1) := by decide +kernel
theorem dX8_ofStar_64 : decode cX8_ofStar 64 = .ok (.aload_n 0, 1) := by decide +kernel
theorem dX8_ofStar_65 : decode cX8_ofStar 65 = .ok (.iload_n 1, 1) := by decide +kernel
theorem dX8_ofStar_66 : decode cX8_ofStar 66 = .ok (.invokevirtual 58, 3) := by decide +kernel
theorem dX8_ofStar_69 : decode cX8_ofStar 69 = .ok (.sipush 5400, 3) := by decide +kernel
theorem dX8_ofStar_72 : decode cX8_ofStar 72 = .ok (.iadd, 1) := by decide +kernel
theorem dX8_ofStar_73 : decode cX8_ofStar 73 = .ok (.ireturn, 1) := by decide +kernel
theorem dX8_ofStar_74 : decode cX8_ofStar 74 = .ok (.aload_n 0, 1) := by decide +kernel
theorem dX8_ofStar_75 : decode cX8_ofStar 75 = .ok (.iload_n 1, 1) := by decide +kernel
theorem dX8_ofStar_76 : decode cX8_ofStar 76 = .ok (.invokevirtual 148, 3) := by decide +kernel
theorem dX8_ofStar_79 : decode cX8_ofStar 79 = .ok (.ireturn, 1) := by decide +kernel
theorem dX8_ofStar_80 : decode cX8_ofStar 80 = .ok (.bipush (-2), 2) := by decide +kernel
theorem dX8_ofStar_82 : decode cX8_ofStar 82 = .ok (.ireturn, 1) := by decide +kernel
theorem dX8_log_0 : decode cX8_log 0 = .ok (.iload_n 1, 1) := by decide +kernel
theorem dX8_log_1 : decode cX8_log 1 = .ok (.iconst 0, 1) := by decide +kernel
theorem dX8_log_2 : decode cX8_log 2 = .ok (.aload_n 0, 1) := by decide +kernel
theorem dX8_log_3 : decode cX8_log 3 = .ok (.getfield 7, 3) := by decide +kernel
theorem dX8_log_6 : decode cX8_log 6 = .ok (.bipush 14, 2) := by decide +kernel
theorem dX8_log_8 : decode cX8_log 8 = .ok (.iaload, 1) := by decide +kernel
theorem dX8_log_9 : decode cX8_log 9 = .ok (.iconst 1, 1) := by decide +kernel
theorem dX8_log_10 : decode cX8_log 10 = .ok (.isub, 1) := by decide +kernel
theorem dX8_log_11 : decode cX8_log 11 = .ok (.invokestatic 32, 3) := by decide +kernel
theorem dX8_log_14 : decode cX8_log 14 = .ok (.ifCond .ne 5, 3) := by decide +kernel
theorem dX8_log_17 : decode cX8_log 17 = .ok (.iconst (-1), 1) := by decide +kernel
theorem dX8_log_18 : decode cX8_log 18 = .ok (.ireturn, 1) := by decide +kernel
theorem dX8_log_19 : decode cX8_log 19 = .ok (.iload_n 2, 1) := by decide +kernel
theorem dX8_log_20 : decode cX8_log 20 = .ok (.iconst 0, 1) := by decide +kernel
theorem dX8_log_21 : decode cX8_log 21 = .ok (.iconst 3, 1) := by decide +kernel
theorem dX8_log_22 : decode cX8_log 22 = .ok (.invokestatic 32, 3) := by decide +kernel
theorem dX8_log_25 : decode cX8_log 25 = .ok (.ifCond .eq 19, 3) := by decide +kernel
theorem dX8_log_28 : decode cX8_log 28 = .ok (.aload_n 0, 1) := by decide +kernel
theorem dX8_log_29 : decode cX8_log 29 = .ok (.getfield 7, 3) := by decide +kernel
theorem dX8_log_32 : decode cX8_log 32 = .ok (.bipush 87, 2) := by decide +kernel
theorem dX8_log_34 : decode cX8_log 34 = .ok (.iconst 4, 1) := by decide +kernel
theorem dX8_log_35 : decode cX8_log 35 = .ok (.iload_n 1, 1) := by decide +kernel
theorem dX8_log_36 : decode cX8_log 36 = .ok (.imul, 1) := by decide +kernel
theorem dX8_log_37 : decode cX8_log 37 = .ok (.iadd, 1) := by decide +kernel
theorem dX8_log_38 : decode cX8_log 38 = .ok (.iload_n 2, 1) := by decide +kernel
theorem dX8_log_39 : decode cX8_log 39 = .ok (.iadd, 1) := by decide +kernel
theorem dX8_log_40 : decode cX8_log 40 = .ok (.iaload, 1) := by decide +kernel
theorem dX8_log_41 : decode cX8_log 41 = .ok (.goto 5, 3) := by decide +kernel
theorem dX8_log_44 : decode cX8_log 44 = .ok (.bipush (-2), 2) := by decide +kernel
theorem dX8_log_46 : decode cX8_log 46 = .ok (.ireturn, 1) := by decide +kernel
theorem dX8_those_0 : decode cX8_those 0 = .ok (.iconst 0, 1) := by decide +kernel
theorem dX8_those_1 : decode cX8_those 1 = .ok (.istore_n 2, 1) := by decide +kernel
theorem dX8_those_2 : decode cX8_those 2 = .ok (.iconst 0, 1) := by decide +kernel
theorem dX8_those_3 : decode cX8_those 3 = .ok (.istore_n 3, 1) := by decide +kernel
theorem dX8_those_4 : decode cX8_those 4 = .ok (.iload_n 3, 1) := by decide +kernel
theorem dX8_those_5 : decode cX8_those 5 = .ok (.bipush 7, 2) := by decide +kernel
theorem dX8_those_7 : decode cX8_those 7 = .ok (.if_icmp .ge 64, 3) := by decide +kernel
theorem dX8_those_10 : decode cX8_those 10 = .ok (.iload_n 1, 1) := by decide +kernel
theorem dX8_those_11 : decode cX8_those 11 = .ok (.ifCond .eq 22, 3) := by decide +kernel
theorem dX8_those_14 : decode cX8_those 14 = .ok (.aload_n 0, 1) := by decide +kernel
theorem dX8_those_15 : decode cX8_those 15 = .ok (.iload_n 3, 1) := by decide +kernel
theorem dX8_those_16 : decode cX8_those 16 = .ok (.bipush 7, 2) := by decide +kernel
theorem dX8_those_18 : decode cX8_those 18 = .ok (.invokevirtual 54, 3) := by decide +kernel
theorem dX8_those_21 : decode cX8_those 21 = .ok (.iconst 2, 1) := by decide +kernel
theorem dX8_those_22 : decode cX8_those 22 = .ok (.if_icmp .ne 7, 3) := by decide +kernel
theorem dX8_those_25 : decode cX8_those 25 = .ok (.iconst 1, 1) := by decide +kernel
theorem dX8_those_26 : decode cX8_those 26 = .ok (.goto 22, 3) := by decide +kernel
theorem dX8_those_29 : decode cX8_those 29 = .ok (.iconst 0, 1) := by decide +kernel
theorem dX8_those_30 : decode cX8_those 30 = .ok (.goto 18, 3) := by decide +kernel
theorem dX8_those_33 : decode cX8_those 33 = .ok (.aload_n 0, 1) := by decide +kernel
theorem dX8_those_34 : decode cX8_those 34 = .ok (.iload_n 3, 1) := by decide +kernel
theorem dX8_those_35 : decode cX8_those 35 = .ok (.iconst 5, 1) := by decide +kernel
theorem dX8_those_36 : decode cX8_those 36 = .ok (.invokevirtual 54, 3) := by decide +kernel
theorem dX8_those_39 : decode cX8_those 39 = .ok (.iconst 1, 1) := by decide +kernel
theorem dX8_those_40 : decode cX8_those 40 = .ok (.if_icmp .ne 7, 3) := by decide +kernel
theorem dX8_those_43 : decode cX8_those 43 = .ok (.iconst 1, 1) := by decide +kernel
theorem dX8_those_44 : decode cX8_those 44 = .ok (.goto 4, 3) := by decide +kernel
theorem dX8_those_47 : decode cX8_those 47 = .ok (.iconst 0, 1) := by decide +kernel
theorem dX8_those_48 : decode cX8_those 48 = .ok (.istore 4, 2) := by decide +kernel
theorem dX8_those_50 : decode cX8_those 50 = .ok (.iload_n 2, 1) := by decide +kernel
theorem dX8_those_51 : decode cX8_those 51 = .ok (.iload 4, 2) := by decide +kernel
theorem dX8_those_53 : decode cX8_those 53 = .ok (.ifCond .eq 9, 3) := by decide +kernel
theorem dX8_those_56 : decode cX8_those 56 = .ok (.iconst 1, 1) := by decide +kernel
theorem dX8_those_57 : decode cX8_those 57 = .ok (.iload_n 3, 1) := by decide +kernel
theorem dX8_those_58 : decode cX8_those 58 = .ok (.ishl, 1) := by decide +kernel
theorem dX8_those_59 : decode cX8_those 59 = .ok (.goto 4, 3) := by decide +kernel
theorem dX8_those_62 : decode cX8_those 62 = .ok (.iconst 0, 1) := by decide +kernel
theorem dX8_those_63 : decode cX8_those 63 = .ok (.ior, 1) := by decide +kernel
theorem dX8_those_64 : decode cX8_those 64 = .ok (.istore_n 2, 1) := by decide +kernel
theorem dX8_those_65 : decode cX8_those 65 = .ok (.iinc 3 1, 3) := by decide +kernel
theorem dX8_those_68 : decode cX8_those 68 = .ok (.goto (-64), 3) := by decide +kernel
theorem dX8_those_71 : decode cX8_those 71 = .ok (.iload_n 2, 1) := by decide +kernel
theorem dX8_those_72 : decode cX8_those 72 = .ok (.ireturn, 1) := by decide +kernel
theorem dX8_mistake_0 : decode cX8_mistake 0 = .ok (.aload_n 0, 1) := by decide +kernel
theorem dX8_mistake_1 : decode cX8_mistake 1 = .ok (.getfield 7, 3) := by decide +kernel
theorem dX8_mistake_4 : decode cX8_mistake 4 = .ok (.iconst 5, 1) := by decide +kernel
theorem dX8_mistake_5 : decode cX8_mistake 5 = .ok (.iaload, 1) := by decide +kernel
theorem dX8_mistake_6 : decode cX8_mistake 6 = .ok (.iconst 1, 1) := by decide +kernel
theorem dX8_mistake_7 : decode cX8_mistake 7 = .ok (.if_icmp .ne 23, 3) := by decide +kernel
theorem dX8_mistake_10 : decode cX8_mistake 10 = .ok (.aload_n 0, 1) := by decide +kernel
theorem dX8_mistake_11 : decode cX8_mistake 11 = .ok (.getfield 7, 3) := by decide +kernel
theorem dX8_mistake_14 : decode cX8_mistake 14 = .ok (.bipush 6, 2) := by decide +kernel
theorem dX8_mistake_16 : decode cX8_mistake 16 = .ok (.iaload, 1) := by decide +kernel
theorem dX8_mistake_17 : decode cX8_mistake 17 = .ok (.aload_n 0, 1) := by decide +kernel
theorem dX8_mistake_18 : decode cX8_mistake 18 = .ok (.getfield 7, 3) := by decide +kernel
theorem dX8_mistake_21 : decode cX8_mistake 21 = .ok (.iconst 4, 1) := by decide +kernel
theorem dX8_mistake_22 : decode cX8_mistake 22 = .ok (.iaload, 1) := by decide +kernel
theorem dX8_mistake_23 : decode cX8_mistake 23 = .ok (.isub, 1) := by decide +kernel
theorem dX8_mistake_24 : decode cX8_mistake 24 = .ok (.invokestatic 50, 3) := by decide +kernel
theorem dX8_mistake_27 : decode cX8_mistake 27 = .ok (.goto 5, 3) := by decide +kernel
theorem dX8_mistake_30 : decode cX8_mistake 30 = .ok (.bipush (-6), 2) := by decide +kernel
theorem dX8_mistake_32 : decode cX8_mistake 32 = .ok (.ireturn, 1) := by decide +kernel
theorem dX8_count_0 : decode cX8_count 0 = .ok (.iload_n 1, 1) := by decide +kernel
theorem dX8_count_1 : decode cX8_count 1 = .ok (.tableswitch 170 0 16 #[83, 94, 99, 111, 111, 111, 111, 111, 123, 129, 135, 140, 150, 150, 150, 160, 165], 83) := by decide +kernel
theorem dX8_count_84 : decode cX8_count 84 = .ok (.aload_n 0, 1) := by decide +kernel
theorem dX8_count_85 : decode cX8_count 85 = .ok (.getfield 7, 3) := by decide +kernel
theorem dX8_count_88 : decode cX8_count 88 = .ok (.iconst 4, 1) := by decide +kernel
theorem dX8_count_89 : decode cX8_count 89 = .ok (.iaload, 1) := by decide +kernel
theorem dX8_count_90 : decode cX8_count 90 = .ok (.sipush 5400, 3) := by decide +kernel
theorem dX8_count_93 : decode cX8_count 93 = .ok (.iadd, 1) := by decide +kernel
theorem dX8_count_94 : decode cX8_count 94 = .ok (.ireturn, 1) := by decide +kernel
theorem dX8_count_95 : decode cX8_count 95 = .ok (.aload_n 0, 1) := by decide +kernel
theorem dX8_count_96 : decode cX8_count 96 = .ok (.invokevirtual 102, 3) := by decide +kernel
theorem dX8_count_99 : decode cX8_count 99 = .ok (.ireturn, 1) := by decide +kernel
theorem dX8_count_100 : decode cX8_count 100 = .ok (.aload_n 0, 1) := by decide +kernel
theorem dX8_count_101 : decode cX8_count 101 = .ok (.getfield 7, 3) := by decide +kernel
theorem dX8_count_104 : decode cX8_count 104 = .ok (.bipush 7, 2) := by decide +kernel
theorem dX8_count_106 : decode cX8_count 106 = .ok (.iaload, 1) := by decide +kernel
theorem dX8_count_107 : decode cX8_count 107 = .ok (.sipush 5400, 3) := by decide +kernel
theorem dX8_count_110 : decode cX8_count 110 = .ok (.iadd, 1) := by decide +kernel
theorem dX8_count_111 : decode cX8_count 111 = .ok (.ireturn, 1) := by decide +kernel
theorem dX8_count_112 : decode cX8_count 112 = .ok (.aload_n 0, 1) := by decide +kernel
theorem dX8_count_113 : decode cX8_count 113 = .ok (.getfield 7, 3) := by decide +kernel
theorem dX8_count_116 : decode cX8_count 116 = .ok (.bipush 8, 2) := by decide +kernel
theorem dX8_count_118 : decode cX8_count 118 = .ok (.iload_n 1, 1) := by decide +kernel
theorem dX8_count_119 : decode cX8_count 119 = .ok (.iadd, 1) := by decide +kernel
theorem dX8_count_120 : decode cX8_count 120 = .ok (.iconst 3, 1) := by decide +kernel
theorem dX8_count_121 : decode cX8_count 121 = .ok (.isub, 1) := by decide +kernel
theorem dX8_count_122 : decode cX8_count 122 = .ok (.iaload, 1) := by decide +kernel
theorem dX8_count_123 : decode cX8_count 123 = .ok (.ireturn, 1) := by decide +kernel
theorem dX8_count_124 : decode cX8_count 124 = .ok (.aload_n 0, 1) := by decide +kernel
theorem dX8_count_125 : decode cX8_count 125 = .ok (.iconst 0, 1) := by decide +kernel
theorem dX8_count_126 : decode cX8_count 126 = .ok (.invokevirtual 151, 3) := by decide +kernel
theorem dX8_count_129 : decode cX8_count 129 = .ok (.ireturn, 1) := by decide +kernel
theorem dX8_count_130 : decode cX8_count 130 = .ok (.aload_n 0, 1) := by decide +kernel
theorem dX8_count_131 : decode cX8_count 131 = .ok (.iconst 1, 1) := by decide +kernel
theorem dX8_count_132 : decode cX8_count 132 = .ok (.invokevirtual 151, 3) := by decide +kernel
theorem dX8_count_135 : decode cX8_count 135 = .ok (.ireturn, 1) := by decide +kernel
theorem dX8_count_136 : decode cX8_count 136 = .ok (.aload_n 0, 1) := by decide +kernel
theorem dX8_count_137 : decode cX8_count 137 = .ok (.invokevirtual 155, 3) := by decide +kernel
theorem dX8_count_140 : decode cX8_count 140 = .ok (.ireturn, 1) := by decide +kernel
theorem dX8_count_141 : decode cX8_count 141 = .ok (.aload_n 0, 1) := by decide +kernel
theorem dX8_count_142 : decode cX8_count 142 = .ok (.getfield 7, 3) := by decide +kernel
theorem dX8_count_145 : decode cX8_count 145 = .ok (.iconst 0, 1) := by decide +kernel
theorem dX8_count_146 : decode cX8_count 146 = .ok (.iaload, 1) := by decide +kernel
theorem dX8_count_147 : decode cX8_count 147 = .ok (.bipush 30, 2) := by decide +kernel
theorem dX8_count_149 : decode cX8_count 149 = .ok (.iadd, 1) := by decide +kernel
theorem dX8_count_150 : decode cX8_count 150 = .ok (.ireturn, 1) := by decide +kernel
theorem dX8_count_151 : decode cX8_count 151 = .ok (.aload_n 0, 1) := by decide +kernel
theorem dX8_count_152 : decode cX8_count 152 = .ok (.getfield 7, 3) := by decide +kernel
theorem dX8_count_155 : decode cX8_count 155 = .ok (.iload_n 1, 1) := by decide +kernel
theorem dX8_count_156 : decode cX8_count 156 = .ok (.bipush 11, 2) := by decide +kernel
theorem dX8_count_158 : decode cX8_count 158 = .ok (.isub, 1) := by decide +kernel
theorem dX8_count_159 : decode cX8_count 159 = .ok (.iaload, 1) := by decide +kernel
theorem dX8_count_160 : decode cX8_count 160 = .ok (.ireturn, 1) := by decide +kernel
theorem dX8_count_161 : decode cX8_count 161 = .ok (.aload_n 0, 1) := by decide +kernel
theorem dX8_count_162 : decode cX8_count 162 = .ok (.getfield 158, 3) := by decide +kernel
theorem dX8_count_165 : decode cX8_count 165 = .ok (.ireturn, 1) := by decide +kernel
theorem dX8_count_166 : decode cX8_count 166 = .ok (.aload_n 0, 1) := by decide +kernel
theorem dX8_count_167 : decode cX8_count 167 = .ok (.getfield 36, 3) := by decide +kernel
theorem dX8_count_170 : decode cX8_count 170 = .ok (.ireturn, 1) := by decide +kernel
theorem dX8_count_171 : decode cX8_count 171 = .ok (.bipush (-2), 2) := by decide +kernel
theorem dX8_count_173 : decode cX8_count 173 = .ok (.ireturn, 1) := by decide +kernel
theorem dX8_why_0 : decode cX8_why 0 = .ok (.iload_n 1, 1) := by decide +kernel
theorem dX8_why_1 : decode cX8_why 1 = .ok (.invokestatic 67, 3) := by decide +kernel
theorem dX8_why_4 : decode cX8_why 4 = .ok (.ifCond .eq 20, 3) := by decide +kernel
theorem dX8_why_7 : decode cX8_why 7 = .ok (.aload_n 0, 1) := by decide +kernel
theorem dX8_why_8 : decode cX8_why 8 = .ok (.iload_n 2, 1) := by decide +kernel
theorem dX8_why_9 : decode cX8_why 9 = .ok (.invokevirtual 70, 3) := by decide +kernel
theorem dX8_why_12 : decode cX8_why 12 = .ok (.ifCond .eq 12, 3) := by decide +kernel
theorem dX8_why_15 : decode cX8_why 15 = .ok (.aload_n 0, 1) := by decide +kernel
theorem dX8_why_16 : decode cX8_why 16 = .ok (.iload_n 1, 1) := by decide +kernel
theorem dX8_why_17 : decode cX8_why 17 = .ok (.iload_n 2, 1) := by decide +kernel
theorem dX8_why_18 : decode cX8_why 18 = .ok (.invokevirtual 73, 3) := by decide +kernel
theorem dX8_why_21 : decode cX8_why 21 = .ok (.goto 4, 3) := by decide +kernel
theorem dX8_why_24 : decode cX8_why 24 = .ok (.iconst (-1), 1) := by decide +kernel
theorem dX8_why_25 : decode cX8_why 25 = .ok (.ireturn, 1) := by decide +kernel
theorem dX8_ifSighted_0 : decode cX8_ifSighted 0 = .ok (.aload_n 0, 1) := by decide +kernel
theorem dX8_ifSighted_1 : decode cX8_ifSighted 1 = .ok (.iload_n 1, 1) := by decide +kernel
theorem dX8_ifSighted_2 : decode cX8_ifSighted 2 = .ok (.iload_n 2, 1) := by decide +kernel
theorem dX8_ifSighted_3 : decode cX8_ifSighted 3 = .ok (.invokevirtual 76, 3) := by decide +kernel
theorem dX8_ifSighted_6 : decode cX8_ifSighted 6 = .ok (.istore_n 3, 1) := by decide +kernel
theorem dX8_ifSighted_7 : decode cX8_ifSighted 7 = .ok (.iload_n 3, 1) := by decide +kernel
theorem dX8_ifSighted_8 : decode cX8_ifSighted 8 = .ok (.ifCond .eq 7, 3) := by decide +kernel
theorem dX8_ifSighted_11 : decode cX8_ifSighted 11 = .ok (.iload_n 3, 1) := by decide +kernel
theorem dX8_ifSighted_12 : decode cX8_ifSighted 12 = .ok (.goto 13, 3) := by decide +kernel
theorem dX8_ifSighted_15 : decode cX8_ifSighted 15 = .ok (.aload_n 0, 1) := by decide +kernel
theorem dX8_ifSighted_16 : decode cX8_ifSighted 16 = .ok (.iload_n 1, 1) := by decide +kernel
theorem dX8_ifSighted_17 : decode cX8_ifSighted 17 = .ok (.iload_n 2, 1) := by decide +kernel
theorem dX8_ifSighted_18 : decode cX8_ifSighted 18 = .ok (.invokevirtual 79, 3) := by decide +kernel
theorem dX8_ifSighted_21 : decode cX8_ifSighted 21 = .ok (.sipush 5400, 3) := by decide +kernel
theorem dX8_ifSighted_24 : decode cX8_ifSighted 24 = .ok (.iadd, 1) := by decide +kernel
theorem dX8_ifSighted_25 : decode cX8_ifSighted 25 = .ok (.ireturn, 1) := by decide +kernel
theorem dX8_median_0 : decode cX8_median 0 = .ok (.iload_n 1, 1) := by decide +kernel
theorem dX8_median_1 : decode cX8_median 1 = .ok (.bipush (-6), 2) := by decide +kernel
theorem dX8_median_3 : decode cX8_median 3 = .ok (.if_icmp .eq 12, 3) := by decide +kernel
theorem dX8_median_6 : decode cX8_median 6 = .ok (.iload_n 1, 1) := by decide +kernel
theorem dX8_median_7 : decode cX8_median 7 = .ok (.invokestatic 67, 3) := by decide +kernel
theorem dX8_median_10 : decode cX8_median 10 = .ok (.ifCond .ne 5, 3) := by decide +kernel
theorem dX8_median_13 : decode cX8_median 13 = .ok (.iconst (-1), 1) := by decide +kernel
theorem dX8_median_14 : decode cX8_median 14 = .ok (.ireturn, 1) := by decide +kernel
theorem dX8_median_15 : decode cX8_median 15 = .ok (.aload_n 0, 1) := by decide +kernel
theorem dX8_median_16 : decode cX8_median 16 = .ok (.iload_n 1, 1) := by decide +kernel
theorem dX8_median_17 : decode cX8_median 17 = .ok (.invokevirtual 86, 3) := by decide +kernel
theorem dX8_median_20 : decode cX8_median 20 = .ok (.iconst 3, 1) := by decide +kernel
theorem dX8_median_21 : decode cX8_median 21 = .ok (.if_icmp .ge 8, 3) := by decide +kernel
theorem dX8_median_24 : decode cX8_median 24 = .ok (.bipush (-5), 2) := by decide +kernel
theorem dX8_median_26 : decode cX8_median 26 = .ok (.goto 12, 3) := by decide +kernel
theorem dX8_median_29 : decode cX8_median 29 = .ok (.aload_n 0, 1) := by decide +kernel
theorem dX8_median_30 : decode cX8_median 30 = .ok (.iload_n 1, 1) := by decide +kernel
theorem dX8_median_31 : decode cX8_median 31 = .ok (.invokevirtual 92, 3) := by decide +kernel
theorem dX8_median_34 : decode cX8_median 34 = .ok (.sipush 5400, 3) := by decide +kernel
theorem dX8_median_37 : decode cX8_median 37 = .ok (.iadd, 1) := by decide +kernel
theorem dX8_median_38 : decode cX8_median 38 = .ok (.ireturn, 1) := by decide +kernel
theorem dX8_bestStar_0 : decode cX8_bestStar 0 = .ok (.bipush (-6), 2) := by decide +kernel
theorem dX8_bestStar_2 : decode cX8_bestStar 2 = .ok (.istore_n 1, 1) := by decide +kernel
theorem dX8_bestStar_3 : decode cX8_bestStar 3 = .ok (.iconst 0, 1) := by decide +kernel
theorem dX8_bestStar_4 : decode cX8_bestStar 4 = .ok (.istore_n 2, 1) := by decide +kernel
theorem dX8_bestStar_5 : decode cX8_bestStar 5 = .ok (.iload_n 2, 1) := by decide +kernel
theorem dX8_bestStar_6 : decode cX8_bestStar 6 = .ok (.aload_n 0, 1) := by decide +kernel
theorem dX8_bestStar_7 : decode cX8_bestStar 7 = .ok (.getfield 7, 3) := by decide +kernel
theorem dX8_bestStar_10 : decode cX8_bestStar 10 = .ok (.bipush 13, 2) := by decide +kernel
theorem dX8_bestStar_12 : decode cX8_bestStar 12 = .ok (.iaload, 1) := by decide +kernel
theorem dX8_bestStar_13 : decode cX8_bestStar 13 = .ok (.if_icmp .ge 70, 3) := by decide +kernel
theorem dX8_bestStar_16 : decode cX8_bestStar 16 = .ok (.aload_n 0, 1) := by decide +kernel
theorem dX8_bestStar_17 : decode cX8_bestStar 17 = .ok (.getfield 7, 3) := by decide +kernel
theorem dX8_bestStar_20 : decode cX8_bestStar 20 = .ok (.bipush 23, 2) := by decide +kernel
theorem dX8_bestStar_22 : decode cX8_bestStar 22 = .ok (.iload_n 2, 1) := by decide +kernel
theorem dX8_bestStar_23 : decode cX8_bestStar 23 = .ok (.iadd, 1) := by decide +kernel
theorem dX8_bestStar_24 : decode cX8_bestStar 24 = .ok (.iaload, 1) := by decide +kernel
theorem dX8_bestStar_25 : decode cX8_bestStar 25 = .ok (.ifCond .ne 21, 3) := by decide +kernel
theorem dX8_bestStar_28 : decode cX8_bestStar 28 = .ok (.aload_n 0, 1) := by decide +kernel
theorem dX8_bestStar_29 : decode cX8_bestStar 29 = .ok (.iload_n 2, 1) := by decide +kernel
theorem dX8_bestStar_30 : decode cX8_bestStar 30 = .ok (.invokevirtual 58, 3) := by decide +kernel
theorem dX8_bestStar_33 : decode cX8_bestStar 33 = .ok (.aload_n 0, 1) := by decide +kernel
theorem dX8_bestStar_34 : decode cX8_bestStar 34 = .ok (.getfield 7, 3) := by decide +kernel
theorem dX8_bestStar_37 : decode cX8_bestStar 37 = .ok (.iconst 3, 1) := by decide +kernel
theorem dX8_bestStar_38 : decode cX8_bestStar 38 = .ok (.iaload, 1) := by decide +kernel
theorem dX8_bestStar_39 : decode cX8_bestStar 39 = .ok (.if_icmp .lt 7, 3) := by decide +kernel
theorem dX8_bestStar_42 : decode cX8_bestStar 42 = .ok (.iconst 1, 1) := by decide +kernel
theorem dX8_bestStar_43 : decode cX8_bestStar 43 = .ok (.goto 4, 3) := by decide +kernel
theorem dX8_bestStar_46 : decode cX8_bestStar 46 = .ok (.iconst 0, 1) := by decide +kernel
theorem dX8_bestStar_47 : decode cX8_bestStar 47 = .ok (.istore_n 3, 1) := by decide +kernel
theorem dX8_bestStar_48 : decode cX8_bestStar 48 = .ok (.iload_n 3, 1) := by decide +kernel
theorem dX8_bestStar_49 : decode cX8_bestStar 49 = .ok (.ifCond .eq 26, 3) := by decide +kernel
theorem dX8_bestStar_52 : decode cX8_bestStar 52 = .ok (.iload_n 1, 1) := by decide +kernel
theorem dX8_bestStar_53 : decode cX8_bestStar 53 = .ok (.bipush (-6), 2) := by decide +kernel
theorem dX8_bestStar_55 : decode cX8_bestStar 55 = .ok (.if_icmp .eq 16, 3) := by decide +kernel
theorem dX8_bestStar_58 : decode cX8_bestStar 58 = .ok (.aload_n 0, 1) := by decide +kernel
theorem dX8_bestStar_59 : decode cX8_bestStar 59 = .ok (.iload_n 2, 1) := by decide +kernel
theorem dX8_bestStar_60 : decode cX8_bestStar 60 = .ok (.invokevirtual 58, 3) := by decide +kernel
theorem dX8_bestStar_63 : decode cX8_bestStar 63 = .ok (.aload_n 0, 1) := by decide +kernel
theorem dX8_bestStar_64 : decode cX8_bestStar 64 = .ok (.iload_n 1, 1) := by decide +kernel
theorem dX8_bestStar_65 : decode cX8_bestStar 65 = .ok (.invokevirtual 58, 3) := by decide +kernel
theorem dX8_bestStar_68 : decode cX8_bestStar 68 = .ok (.if_icmp .le 7, 3) := by decide +kernel
theorem dX8_bestStar_71 : decode cX8_bestStar 71 = .ok (.iload_n 2, 1) := by decide +kernel
theorem dX8_bestStar_72 : decode cX8_bestStar 72 = .ok (.goto 4, 3) := by decide +kernel
theorem dX8_bestStar_75 : decode cX8_bestStar 75 = .ok (.iload_n 1, 1) := by decide +kernel
theorem dX8_bestStar_76 : decode cX8_bestStar 76 = .ok (.istore_n 1, 1) := by decide +kernel
theorem dX8_bestStar_77 : decode cX8_bestStar 77 = .ok (.iinc 2 1, 3) := by decide +kernel
theorem dX8_bestStar_80 : decode cX8_bestStar 80 = .ok (.goto (-75), 3) := by decide +kernel
theorem dX8_bestStar_83 : decode cX8_bestStar 83 = .ok (.iload_n 1, 1) := by decide +kernel
theorem dX8_bestStar_84 : decode cX8_bestStar 84 = .ok (.ireturn, 1) := by decide +kernel
theorem dX8_nearest_0 : decode cX8_nearest 0 = .ok (.iload_n 1, 1) := by decide +kernel
theorem dX8_nearest_1 : decode cX8_nearest 1 = .ok (.iconst 0, 1) := by decide +kernel
theorem dX8_nearest_2 : decode cX8_nearest 2 = .ok (.iconst 1, 1) := by decide +kernel
theorem dX8_nearest_3 : decode cX8_nearest 3 = .ok (.invokestatic 32, 3) := by decide +kernel
theorem dX8_nearest_6 : decode cX8_nearest 6 = .ok (.ifCond .ne 6, 3) := by decide +kernel
theorem dX8_nearest_9 : decode cX8_nearest 9 = .ok (.bipush (-2), 2) := by decide +kernel
theorem dX8_nearest_11 : decode cX8_nearest 11 = .ok (.ireturn, 1) := by decide +kernel
theorem dX8_nearest_12 : decode cX8_nearest 12 = .ok (.bipush (-6), 2) := by decide +kernel
theorem dX8_nearest_14 : decode cX8_nearest 14 = .ok (.istore_n 2, 1) := by decide +kernel
theorem dX8_nearest_15 : decode cX8_nearest 15 = .ok (.bipush (-6), 2) := by decide +kernel
theorem dX8_nearest_17 : decode cX8_nearest 17 = .ok (.istore_n 3, 1) := by decide +kernel
theorem dX8_nearest_18 : decode cX8_nearest 18 = .ok (.iconst 0, 1) := by decide +kernel
theorem dX8_nearest_19 : decode cX8_nearest 19 = .ok (.istore 4, 2) := by decide +kernel
theorem dX8_nearest_21 : decode cX8_nearest 21 = .ok (.iload 4, 2) := by decide +kernel
theorem dX8_nearest_23 : decode cX8_nearest 23 = .ok (.bipush 7, 2) := by decide +kernel
theorem dX8_nearest_25 : decode cX8_nearest 25 = .ok (.if_icmp .ge 83, 3) := by decide +kernel
theorem dX8_nearest_28 : decode cX8_nearest 28 = .ok (.aload_n 0, 1) := by decide +kernel
theorem dX8_nearest_29 : decode cX8_nearest 29 = .ok (.iload 4, 2) := by decide +kernel
theorem dX8_nearest_31 : decode cX8_nearest 31 = .ok (.bipush 6, 2) := by decide +kernel
theorem dX8_nearest_33 : decode cX8_nearest 33 = .ok (.invokevirtual 54, 3) := by decide +kernel
theorem dX8_nearest_36 : decode cX8_nearest 36 = .ok (.aload_n 0, 1) := by decide +kernel
theorem dX8_nearest_37 : decode cX8_nearest 37 = .ok (.getfield 7, 3) := by decide +kernel
theorem dX8_nearest_40 : decode cX8_nearest 40 = .ok (.iconst 4, 1) := by decide +kernel
theorem dX8_nearest_41 : decode cX8_nearest 41 = .ok (.iaload, 1) := by decide +kernel
theorem dX8_nearest_42 : decode cX8_nearest 42 = .ok (.isub, 1) := by decide +kernel
theorem dX8_nearest_43 : decode cX8_nearest 43 = .ok (.invokestatic 50, 3) := by decide +kernel
theorem dX8_nearest_46 : decode cX8_nearest 46 = .ok (.istore 5, 2) := by decide +kernel
theorem dX8_nearest_48 : decode cX8_nearest 48 = .ok (.aload_n 0, 1) := by decide +kernel
theorem dX8_nearest_49 : decode cX8_nearest 49 = .ok (.iload 4, 2) := by decide +kernel
theorem dX8_nearest_51 : decode cX8_nearest 51 = .ok (.iconst 5, 1) := by decide +kernel
theorem dX8_nearest_52 : decode cX8_nearest 52 = .ok (.invokevirtual 54, 3) := by decide +kernel
theorem dX8_nearest_55 : decode cX8_nearest 55 = .ok (.iconst 1, 1) := by decide +kernel
theorem dX8_nearest_56 : decode cX8_nearest 56 = .ok (.if_icmp .ne 19, 3) := by decide +kernel
theorem dX8_nearest_59 : decode cX8_nearest 59 = .ok (.iload_n 2, 1) := by decide +kernel
theorem dX8_nearest_60 : decode cX8_nearest 60 = .ok (.bipush (-6), 2) := by decide +kernel
theorem dX8_nearest_62 : decode cX8_nearest 62 = .ok (.if_icmp .eq 9, 3) := by decide +kernel
theorem dX8_nearest_65 : decode cX8_nearest 65 = .ok (.iload 5, 2) := by decide +kernel
theorem dX8_nearest_67 : decode cX8_nearest 67 = .ok (.iload_n 3, 1) := by decide +kernel
theorem dX8_nearest_68 : decode cX8_nearest 68 = .ok (.if_icmp .ge 7, 3) := by decide +kernel
theorem dX8_nearest_71 : decode cX8_nearest 71 = .ok (.iconst 1, 1) := by decide +kernel
theorem dX8_nearest_72 : decode cX8_nearest 72 = .ok (.goto 4, 3) := by decide +kernel
theorem dX8_nearest_75 : decode cX8_nearest 75 = .ok (.iconst 0, 1) := by decide +kernel
theorem dX8_nearest_76 : decode cX8_nearest 76 = .ok (.istore 6, 2) := by decide +kernel
theorem dX8_nearest_78 : decode cX8_nearest 78 = .ok (.iload 6, 2) := by decide +kernel
theorem dX8_nearest_80 : decode cX8_nearest 80 = .ok (.ifCond .eq 8, 3) := by decide +kernel
theorem dX8_nearest_83 : decode cX8_nearest 83 = .ok (.iload 4, 2) := by decide +kernel
theorem dX8_nearest_85 : decode cX8_nearest 85 = .ok (.goto 4, 3) := by decide +kernel
theorem dX8_nearest_88 : decode cX8_nearest 88 = .ok (.iload_n 2, 1) := by decide +kernel
theorem dX8_nearest_89 : decode cX8_nearest 89 = .ok (.istore_n 2, 1) := by decide +kernel
theorem dX8_nearest_90 : decode cX8_nearest 90 = .ok (.iload 6, 2) := by decide +kernel
theorem dX8_nearest_92 : decode cX8_nearest 92 = .ok (.ifCond .eq 8, 3) := by decide +kernel
theorem dX8_nearest_95 : decode cX8_nearest 95 = .ok (.iload 5, 2) := by decide +kernel
theorem dX8_nearest_97 : decode cX8_nearest 97 = .ok (.goto 4, 3) := by decide +kernel
theorem dX8_nearest_100 : decode cX8_nearest 100 = .ok (.iload_n 3, 1) := by decide +kernel
theorem dX8_nearest_101 : decode cX8_nearest 101 = .ok (.istore_n 3, 1) := by decide +kernel
theorem dX8_nearest_102 : decode cX8_nearest 102 = .ok (.iinc 4 1, 3) := by decide +kernel
theorem dX8_nearest_105 : decode cX8_nearest 105 = .ok (.goto (-84), 3) := by decide +kernel
theorem dX8_nearest_108 : decode cX8_nearest 108 = .ok (.iload_n 1, 1) := by decide +kernel
theorem dX8_nearest_109 : decode cX8_nearest 109 = .ok (.ifCond .ne 7, 3) := by decide +kernel
theorem dX8_nearest_112 : decode cX8_nearest 112 = .ok (.iload_n 2, 1) := by decide +kernel
theorem dX8_nearest_113 : decode cX8_nearest 113 = .ok (.goto 4, 3) := by decide +kernel
theorem dX8_nearest_116 : decode cX8_nearest 116 = .ok (.iload_n 3, 1) := by decide +kernel
theorem dX8_nearest_117 : decode cX8_nearest 117 = .ok (.ireturn, 1) := by decide +kernel
theorem dX8_arrivesIn_0 : decode cX8_arrivesIn 0 = .ok (.iload_n 1, 1) := by decide +kernel
theorem dX8_arrivesIn_1 : decode cX8_arrivesIn 1 = .ok (.iconst 0, 1) := by decide +kernel
theorem dX8_arrivesIn_2 : decode cX8_arrivesIn 2 = .ok (.sipush 999, 3) := by decide +kernel
theorem dX8_arrivesIn_5 : decode cX8_arrivesIn 5 = .ok (.invokestatic 32, 3) := by decide +kernel
theorem dX8_arrivesIn_8 : decode cX8_arrivesIn 8 = .ok (.ifCond .ne 6, 3) := by decide +kernel
theorem dX8_arrivesIn_11 : decode cX8_arrivesIn 11 = .ok (.bipush (-2), 2) := by decide +kernel
theorem dX8_arrivesIn_13 : decode cX8_arrivesIn 13 = .ok (.ireturn, 1) := by decide +kernel
theorem dX8_arrivesIn_14 : decode cX8_arrivesIn 14 = .ok (.aload_n 0, 1) := by decide +kernel
theorem dX8_arrivesIn_15 : decode cX8_arrivesIn 15 = .ok (.invokevirtual 47, 3) := by decide +kernel
theorem dX8_arrivesIn_18 : decode cX8_arrivesIn 18 = .ok (.iconst 0, 1) := by decide +kernel
theorem dX8_arrivesIn_19 : decode cX8_arrivesIn 19 = .ok (.istore_n 2, 1) := by decide +kernel
theorem dX8_arrivesIn_20 : decode cX8_arrivesIn 20 = .ok (.iload_n 2, 1) := by decide +kernel
theorem dX8_arrivesIn_21 : decode cX8_arrivesIn 21 = .ok (.sipush 500, 3) := by decide +kernel
theorem dX8_arrivesIn_24 : decode cX8_arrivesIn 24 = .ok (.if_icmp .gt 34, 3) := by decide +kernel
theorem dX8_arrivesIn_27 : decode cX8_arrivesIn 27 = .ok (.aload_n 0, 1) := by decide +kernel
theorem dX8_arrivesIn_28 : decode cX8_arrivesIn 28 = .ok (.getfield 7, 3) := by decide +kernel
theorem dX8_arrivesIn_31 : decode cX8_arrivesIn 31 = .ok (.iconst 4, 1) := by decide +kernel
theorem dX8_arrivesIn_32 : decode cX8_arrivesIn 32 = .ok (.iaload, 1) := by decide +kernel
theorem dX8_arrivesIn_33 : decode cX8_arrivesIn 33 = .ok (.aload_n 0, 1) := by decide +kernel
theorem dX8_arrivesIn_34 : decode cX8_arrivesIn 34 = .ok (.getfield 7, 3) := by decide +kernel
theorem dX8_arrivesIn_37 : decode cX8_arrivesIn 37 = .ok (.bipush 7, 2) := by decide +kernel
theorem dX8_arrivesIn_39 : decode cX8_arrivesIn 39 = .ok (.iaload, 1) := by decide +kernel
theorem dX8_arrivesIn_40 : decode cX8_arrivesIn 40 = .ok (.isub, 1) := by decide +kernel
theorem dX8_arrivesIn_41 : decode cX8_arrivesIn 41 = .ok (.invokestatic 50, 3) := by decide +kernel
theorem dX8_arrivesIn_44 : decode cX8_arrivesIn 44 = .ok (.iload_n 1, 1) := by decide +kernel
theorem dX8_arrivesIn_45 : decode cX8_arrivesIn 45 = .ok (.if_icmp .le 13, 3) := by decide +kernel
theorem dX8_arrivesIn_48 : decode cX8_arrivesIn 48 = .ok (.aload_n 0, 1) := by decide +kernel
theorem dX8_arrivesIn_49 : decode cX8_arrivesIn 49 = .ok (.invokevirtual 99, 3) := by decide +kernel
theorem dX8_arrivesIn_52 : decode cX8_arrivesIn 52 = .ok (.iinc 2 1, 3) := by decide +kernel
theorem dX8_arrivesIn_55 : decode cX8_arrivesIn 55 = .ok (.goto (-35), 3) := by decide +kernel
theorem dX8_arrivesIn_58 : decode cX8_arrivesIn 58 = .ok (.aload_n 0, 1) := by decide +kernel
theorem dX8_arrivesIn_59 : decode cX8_arrivesIn 59 = .ok (.invokevirtual 161, 3) := by decide +kernel
theorem dX8_arrivesIn_62 : decode cX8_arrivesIn 62 = .ok (.iload_n 2, 1) := by decide +kernel
theorem dX8_arrivesIn_63 : decode cX8_arrivesIn 63 = .ok (.sipush 500, 3) := by decide +kernel
theorem dX8_arrivesIn_66 : decode cX8_arrivesIn 66 = .ok (.if_icmp .le 8, 3) := by decide +kernel
theorem dX8_arrivesIn_69 : decode cX8_arrivesIn 69 = .ok (.bipush (-6), 2) := by decide +kernel
theorem dX8_arrivesIn_71 : decode cX8_arrivesIn 71 = .ok (.goto 4, 3) := by decide +kernel
theorem dX8_arrivesIn_74 : decode cX8_arrivesIn 74 = .ok (.iload_n 2, 1) := by decide +kernel
theorem dX8_arrivesIn_75 : decode cX8_arrivesIn 75 = .ok (.ireturn, 1) := by decide +kernel
theorem dX8_isCharacter_0 : decode cX8_isCharacter 0 = .ok (.iload_n 0, 1) := by decide +kernel
theorem dX8_isCharacter_1 : decode cX8_isCharacter 1 = .ok (.bipush 33, 2) := by decide +kernel
theorem dX8_isCharacter_3 : decode cX8_isCharacter 3 = .ok (.bipush 126, 2) := by decide +kernel
theorem dX8_isCharacter_5 : decode cX8_isCharacter 5 = .ok (.invokestatic 32, 3) := by decide +kernel
theorem dX8_isCharacter_8 : decode cX8_isCharacter 8 = .ok (.ireturn, 1) := by decide +kernel
end
section
theorem dX8_charactersIn_0 : decode cX8_charactersIn 0 = .ok (.iconst 0, 1) := by decide +kernel
theorem dX8_charactersIn_1 : decode cX8_charactersIn 1 = .ok (.istore_n 2, 1) := by decide +kernel
theorem dX8_charactersIn_2 : decode cX8_charactersIn 2 = .ok (.lload_n 0, 1) := by decide +kernel
theorem dX8_charactersIn_3 : decode cX8_charactersIn 3 = .ok (.lstore_n 3, 1) := by decide +kernel
theorem dX8_charactersIn_4 : decode cX8_charactersIn 4 = .ok (.iload_n 2, 1) := by decide +kernel
theorem dX8_charactersIn_5 : decode cX8_charactersIn 5 = .ok (.bipush 8, 2) := by decide +kernel
theorem dX8_charactersIn_7 : decode cX8_charactersIn 7 = .ok (.if_icmp .ge 38, 3) := by decide +kernel
theorem dX8_charactersIn_10 : decode cX8_charactersIn 10 = .ok (.lload_n 3, 1) := by decide +kernel
theorem dX8_charactersIn_11 : decode cX8_charactersIn 11 = .ok (.ldc2_w 164, 3) := by decide +kernel
theorem dX8_charactersIn_14 : decode cX8_charactersIn 14 = .ok (.land, 1) := by decide +kernel
theorem dX8_charactersIn_15 : decode cX8_charactersIn 15 = .ok (.lconst 0, 1) := by decide +kernel
theorem dX8_charactersIn_16 : decode cX8_charactersIn 16 = .ok (.lcmp, 1) := by decide +kernel
theorem dX8_charactersIn_17 : decode cX8_charactersIn 17 = .ok (.ifCond .eq 28, 3) := by decide +kernel
theorem dX8_charactersIn_20 : decode cX8_charactersIn 20 = .ok (.lload_n 3, 1) := by decide +kernel
theorem dX8_charactersIn_21 : decode cX8_charactersIn 21 = .ok (.ldc2_w 164, 3) := by decide +kernel
theorem dX8_charactersIn_24 : decode cX8_charactersIn 24 = .ok (.land, 1) := by decide +kernel
theorem dX8_charactersIn_25 : decode cX8_charactersIn 25 = .ok (.l2i, 1) := by decide +kernel
theorem dX8_charactersIn_26 : decode cX8_charactersIn 26 = .ok (.invokestatic 166, 3) := by decide +kernel
theorem dX8_charactersIn_29 : decode cX8_charactersIn 29 = .ok (.ifCond .ne 5, 3) := by decide +kernel
theorem dX8_charactersIn_32 : decode cX8_charactersIn 32 = .ok (.iconst 0, 1) := by decide +kernel
theorem dX8_charactersIn_33 : decode cX8_charactersIn 33 = .ok (.ireturn, 1) := by decide +kernel
theorem dX8_charactersIn_34 : decode cX8_charactersIn 34 = .ok (.lload_n 3, 1) := by decide +kernel
theorem dX8_charactersIn_35 : decode cX8_charactersIn 35 = .ok (.bipush 8, 2) := by decide +kernel
theorem dX8_charactersIn_37 : decode cX8_charactersIn 37 = .ok (.lushr, 1) := by decide +kernel
theorem dX8_charactersIn_38 : decode cX8_charactersIn 38 = .ok (.lstore_n 3, 1) := by decide +kernel
theorem dX8_charactersIn_39 : decode cX8_charactersIn 39 = .ok (.iinc 2 1, 3) := by decide +kernel
theorem dX8_charactersIn_42 : decode cX8_charactersIn 42 = .ok (.goto (-38), 3) := by decide +kernel
theorem dX8_charactersIn_45 : decode cX8_charactersIn 45 = .ok (.lload_n 3, 1) := by decide +kernel
theorem dX8_charactersIn_46 : decode cX8_charactersIn 46 = .ok (.lconst 0, 1) := by decide +kernel
theorem dX8_charactersIn_47 : decode cX8_charactersIn 47 = .ok (.lcmp, 1) := by decide +kernel
theorem dX8_charactersIn_48 : decode cX8_charactersIn 48 = .ok (.ifCond .ne 7, 3) := by decide +kernel
theorem dX8_charactersIn_51 : decode cX8_charactersIn 51 = .ok (.iload_n 2, 1) := by decide +kernel
theorem dX8_charactersIn_52 : decode cX8_charactersIn 52 = .ok (.goto 4, 3) := by decide +kernel
theorem dX8_charactersIn_55 : decode cX8_charactersIn 55 = .ok (.iconst 0, 1) := by decide +kernel
theorem dX8_charactersIn_56 : decode cX8_charactersIn 56 = .ok (.ireturn, 1) := by decide +kernel
theorem dX8_put_0 : decode cX8_put 0 = .ok (.lload_n 1, 1) := by decide +kernel
theorem dX8_put_1 : decode cX8_put 1 = .ok (.invokestatic 169, 3) := by decide +kernel
theorem dX8_put_4 : decode cX8_put 4 = .ok (.istore_n 3, 1) := by decide +kernel
theorem dX8_put_5 : decode cX8_put 5 = .ok (.iload_n 3, 1) := by decide +kernel
theorem dX8_put_6 : decode cX8_put 6 = .ok (.ifCond .ne 6, 3) := by decide +kernel
theorem dX8_put_9 : decode cX8_put 9 = .ok (.bipush (-2), 2) := by decide +kernel
theorem dX8_put_11 : decode cX8_put 11 = .ok (.ireturn, 1) := by decide +kernel
theorem dX8_put_12 : decode cX8_put 12 = .ok (.aload_n 0, 1) := by decide +kernel
theorem dX8_put_13 : decode cX8_put 13 = .ok (.getfield 158, 3) := by decide +kernel
theorem dX8_put_16 : decode cX8_put 16 = .ok (.iload_n 3, 1) := by decide +kernel
theorem dX8_put_17 : decode cX8_put 17 = .ok (.iadd, 1) := by decide +kernel
theorem dX8_put_18 : decode cX8_put 18 = .ok (.bipush 80, 2) := by decide +kernel
theorem dX8_put_20 : decode cX8_put 20 = .ok (.if_icmp .le 6, 3) := by decide +kernel
theorem dX8_put_23 : decode cX8_put 23 = .ok (.bipush (-4), 2) := by decide +kernel
theorem dX8_put_25 : decode cX8_put 25 = .ok (.ireturn, 1) := by decide +kernel
theorem dX8_put_26 : decode cX8_put 26 = .ok (.iload_n 3, 1) := by decide +kernel
theorem dX8_put_27 : decode cX8_put 27 = .ok (.iconst 1, 1) := by decide +kernel
theorem dX8_put_28 : decode cX8_put 28 = .ok (.isub, 1) := by decide +kernel
theorem dX8_put_29 : decode cX8_put 29 = .ok (.istore 4, 2) := by decide +kernel
theorem dX8_put_31 : decode cX8_put 31 = .ok (.iload 4, 2) := by decide +kernel
theorem dX8_put_33 : decode cX8_put 33 = .ok (.ifCond .lt 40, 3) := by decide +kernel
theorem dX8_put_36 : decode cX8_put 36 = .ok (.aload_n 0, 1) := by decide +kernel
theorem dX8_put_37 : decode cX8_put 37 = .ok (.getfield 25, 3) := by decide +kernel
theorem dX8_put_40 : decode cX8_put 40 = .ok (.aload_n 0, 1) := by decide +kernel
theorem dX8_put_41 : decode cX8_put 41 = .ok (.getfield 158, 3) := by decide +kernel
theorem dX8_put_44 : decode cX8_put 44 = .ok (.lload_n 1, 1) := by decide +kernel
theorem dX8_put_45 : decode cX8_put 45 = .ok (.bipush 8, 2) := by decide +kernel
theorem dX8_put_47 : decode cX8_put 47 = .ok (.iload 4, 2) := by decide +kernel
theorem dX8_put_49 : decode cX8_put 49 = .ok (.imul, 1) := by decide +kernel
theorem dX8_put_50 : decode cX8_put 50 = .ok (.lshr, 1) := by decide +kernel
theorem dX8_put_51 : decode cX8_put 51 = .ok (.ldc2_w 164, 3) := by decide +kernel
theorem dX8_put_54 : decode cX8_put 54 = .ok (.land, 1) := by decide +kernel
theorem dX8_put_55 : decode cX8_put 55 = .ok (.l2i, 1) := by decide +kernel
theorem dX8_put_56 : decode cX8_put 56 = .ok (.iastore, 1) := by decide +kernel
theorem dX8_put_57 : decode cX8_put 57 = .ok (.aload_n 0, 1) := by decide +kernel
theorem dX8_put_58 : decode cX8_put 58 = .ok (.dup, 1) := by decide +kernel
theorem dX8_put_59 : decode cX8_put 59 = .ok (.getfield 158, 3) := by decide +kernel
theorem dX8_put_62 : decode cX8_put 62 = .ok (.iconst 1, 1) := by decide +kernel
theorem dX8_put_63 : decode cX8_put 63 = .ok (.iadd, 1) := by decide +kernel
theorem dX8_put_64 : decode cX8_put 64 = .ok (.putfield 158, 3) := by decide +kernel
theorem dX8_put_67 : decode cX8_put 67 = .ok (.iinc 4 (-1), 3) := by decide +kernel
theorem dX8_put_70 : decode cX8_put 70 = .ok (.goto (-39), 3) := by decide +kernel
theorem dX8_put_73 : decode cX8_put 73 = .ok (.aload_n 0, 1) := by decide +kernel
theorem dX8_put_74 : decode cX8_put 74 = .ok (.getfield 158, 3) := by decide +kernel
theorem dX8_put_77 : decode cX8_put 77 = .ok (.ireturn, 1) := by decide +kernel
theorem dX8_wipe_0 : decode cX8_wipe 0 = .ok (.aload_n 0, 1) := by decide +kernel
theorem dX8_wipe_1 : decode cX8_wipe 1 = .ok (.getfield 158, 3) := by decide +kernel
theorem dX8_wipe_4 : decode cX8_wipe 4 = .ok (.istore_n 1, 1) := by decide +kernel
theorem dX8_wipe_5 : decode cX8_wipe 5 = .ok (.aload_n 0, 1) := by decide +kernel
theorem dX8_wipe_6 : decode cX8_wipe 6 = .ok (.iconst 0, 1) := by decide +kernel
theorem dX8_wipe_7 : decode cX8_wipe 7 = .ok (.putfield 158, 3) := by decide +kernel
theorem dX8_wipe_10 : decode cX8_wipe 10 = .ok (.iload_n 1, 1) := by decide +kernel
theorem dX8_wipe_11 : decode cX8_wipe 11 = .ok (.ireturn, 1) := by decide +kernel
theorem dX8_code_0 : decode cX8_code 0 = .ok (.aload_n 0, 1) := by decide +kernel
theorem dX8_code_1 : decode cX8_code 1 = .ok (.getfield 173, 3) := by decide +kernel
theorem dX8_code_4 : decode cX8_code 4 = .ok (.aload_n 0, 1) := by decide +kernel
theorem dX8_code_5 : decode cX8_code 5 = .ok (.getfield 158, 3) := by decide +kernel
theorem dX8_code_8 : decode cX8_code 8 = .ok (.if_icmp .ge 15, 3) := by decide +kernel
theorem dX8_code_11 : decode cX8_code 11 = .ok (.aload_n 0, 1) := by decide +kernel
theorem dX8_code_12 : decode cX8_code 12 = .ok (.getfield 25, 3) := by decide +kernel
theorem dX8_code_15 : decode cX8_code 15 = .ok (.aload_n 0, 1) := by decide +kernel
theorem dX8_code_16 : decode cX8_code 16 = .ok (.getfield 173, 3) := by decide +kernel
theorem dX8_code_19 : decode cX8_code 19 = .ok (.iaload, 1) := by decide +kernel
theorem dX8_code_20 : decode cX8_code 20 = .ok (.goto 4, 3) := by decide +kernel
theorem dX8_code_23 : decode cX8_code 23 = .ok (.iconst 0, 1) := by decide +kernel
theorem dX8_code_24 : decode cX8_code 24 = .ok (.ireturn, 1) := by decide +kernel
theorem dX8_takes_0 : decode cX8_takes 0 = .ok (.aload_n 0, 1) := by decide +kernel
theorem dX8_takes_1 : decode cX8_takes 1 = .ok (.invokevirtual 176, 3) := by decide +kernel
theorem dX8_takes_4 : decode cX8_takes 4 = .ok (.iload_n 1, 1) := by decide +kernel
theorem dX8_takes_5 : decode cX8_takes 5 = .ok (.if_icmp .ne 7, 3) := by decide +kernel
theorem dX8_takes_8 : decode cX8_takes 8 = .ok (.iconst 1, 1) := by decide +kernel
theorem dX8_takes_9 : decode cX8_takes 9 = .ok (.goto 4, 3) := by decide +kernel
theorem dX8_takes_12 : decode cX8_takes 12 = .ok (.iconst 0, 1) := by decide +kernel
theorem dX8_takes_13 : decode cX8_takes 13 = .ok (.istore_n 2, 1) := by decide +kernel
theorem dX8_takes_14 : decode cX8_takes 14 = .ok (.aload_n 0, 1) := by decide +kernel
theorem dX8_takes_15 : decode cX8_takes 15 = .ok (.dup, 1) := by decide +kernel
theorem dX8_takes_16 : decode cX8_takes 16 = .ok (.getfield 173, 3) := by decide +kernel
theorem dX8_takes_19 : decode cX8_takes 19 = .ok (.iload_n 2, 1) := by decide +kernel
theorem dX8_takes_20 : decode cX8_takes 20 = .ok (.ifCond .eq 7, 3) := by decide +kernel
theorem dX8_takes_23 : decode cX8_takes 23 = .ok (.iconst 1, 1) := by decide +kernel
theorem dX8_takes_24 : decode cX8_takes 24 = .ok (.goto 4, 3) := by decide +kernel
theorem dX8_takes_27 : decode cX8_takes 27 = .ok (.iconst 0, 1) := by decide +kernel
theorem dX8_takes_28 : decode cX8_takes 28 = .ok (.iadd, 1) := by decide +kernel
theorem dX8_takes_29 : decode cX8_takes 29 = .ok (.putfield 173, 3) := by decide +kernel
theorem dX8_takes_32 : decode cX8_takes 32 = .ok (.iload_n 2, 1) := by decide +kernel
theorem dX8_takes_33 : decode cX8_takes 33 = .ok (.ireturn, 1) := by decide +kernel
theorem dX8_takeDigit_0 : decode cX8_takeDigit 0 = .ok (.aload_n 0, 1) := by decide +kernel
theorem dX8_takeDigit_1 : decode cX8_takeDigit 1 = .ok (.invokevirtual 176, 3) := by decide +kernel
theorem dX8_takeDigit_4 : decode cX8_takeDigit 4 = .ok (.bipush 48, 2) := by decide +kernel
theorem dX8_takeDigit_6 : decode cX8_takeDigit 6 = .ok (.isub, 1) := by decide +kernel
theorem dX8_takeDigit_7 : decode cX8_takeDigit 7 = .ok (.istore_n 1, 1) := by decide +kernel
theorem dX8_takeDigit_8 : decode cX8_takeDigit 8 = .ok (.iload_n 1, 1) := by decide +kernel
theorem dX8_takeDigit_9 : decode cX8_takeDigit 9 = .ok (.iconst 0, 1) := by decide +kernel
theorem dX8_takeDigit_10 : decode cX8_takeDigit 10 = .ok (.bipush 9, 2) := by decide +kernel
theorem dX8_takeDigit_12 : decode cX8_takeDigit 12 = .ok (.invokestatic 32, 3) := by decide +kernel
theorem dX8_takeDigit_15 : decode cX8_takeDigit 15 = .ok (.istore_n 2, 1) := by decide +kernel
theorem dX8_takeDigit_16 : decode cX8_takeDigit 16 = .ok (.aload_n 0, 1) := by decide +kernel
theorem dX8_takeDigit_17 : decode cX8_takeDigit 17 = .ok (.dup, 1) := by decide +kernel
theorem dX8_takeDigit_18 : decode cX8_takeDigit 18 = .ok (.getfield 173, 3) := by decide +kernel
theorem dX8_takeDigit_21 : decode cX8_takeDigit 21 = .ok (.iload_n 2, 1) := by decide +kernel
theorem dX8_takeDigit_22 : decode cX8_takeDigit 22 = .ok (.ifCond .eq 7, 3) := by decide +kernel
theorem dX8_takeDigit_25 : decode cX8_takeDigit 25 = .ok (.iconst 1, 1) := by decide +kernel
theorem dX8_takeDigit_26 : decode cX8_takeDigit 26 = .ok (.goto 4, 3) := by decide +kernel
theorem dX8_takeDigit_29 : decode cX8_takeDigit 29 = .ok (.iconst 0, 1) := by decide +kernel
theorem dX8_takeDigit_30 : decode cX8_takeDigit 30 = .ok (.iadd, 1) := by decide +kernel
theorem dX8_takeDigit_31 : decode cX8_takeDigit 31 = .ok (.putfield 173, 3) := by decide +kernel
theorem dX8_takeDigit_34 : decode cX8_takeDigit 34 = .ok (.iload_n 2, 1) := by decide +kernel
theorem dX8_takeDigit_35 : decode cX8_takeDigit 35 = .ok (.ifCond .eq 7, 3) := by decide +kernel
theorem dX8_takeDigit_38 : decode cX8_takeDigit 38 = .ok (.iload_n 1, 1) := by decide +kernel
theorem dX8_takeDigit_39 : decode cX8_takeDigit 39 = .ok (.goto 5, 3) := by decide +kernel
theorem dX8_takeDigit_42 : decode cX8_takeDigit 42 = .ok (.bipush (-6), 2) := by decide +kernel
theorem dX8_takeDigit_44 : decode cX8_takeDigit 44 = .ok (.ireturn, 1) := by decide +kernel
theorem dX8_readsNumber_0 : decode cX8_readsNumber 0 = .ok (.aload_n 0, 1) := by decide +kernel
theorem dX8_readsNumber_1 : decode cX8_readsNumber 1 = .ok (.aload_n 0, 1) := by decide +kernel
theorem dX8_readsNumber_2 : decode cX8_readsNumber 2 = .ok (.invokevirtual 179, 3) := by decide +kernel
theorem dX8_readsNumber_5 : decode cX8_readsNumber 5 = .ok (.putfield 182, 3) := by decide +kernel
theorem dX8_readsNumber_8 : decode cX8_readsNumber 8 = .ok (.aload_n 0, 1) := by decide +kernel
theorem dX8_readsNumber_9 : decode cX8_readsNumber 9 = .ok (.getfield 182, 3) := by decide +kernel
theorem dX8_readsNumber_12 : decode cX8_readsNumber 12 = .ok (.bipush (-6), 2) := by decide +kernel
theorem dX8_readsNumber_14 : decode cX8_readsNumber 14 = .ok (.if_icmp .ne 5, 3) := by decide +kernel
theorem dX8_readsNumber_17 : decode cX8_readsNumber 17 = .ok (.iconst 0, 1) := by decide +kernel
theorem dX8_readsNumber_18 : decode cX8_readsNumber 18 = .ok (.ireturn, 1) := by decide +kernel
theorem dX8_readsNumber_19 : decode cX8_readsNumber 19 = .ok (.aload_n 0, 1) := by decide +kernel
theorem dX8_readsNumber_20 : decode cX8_readsNumber 20 = .ok (.getfield 182, 3) := by decide +kernel
theorem dX8_readsNumber_23 : decode cX8_readsNumber 23 = .ok (.ifCond .le 46, 3) := by decide +kernel
theorem dX8_readsNumber_26 : decode cX8_readsNumber 26 = .ok (.aload_n 0, 1) := by decide +kernel
theorem dX8_readsNumber_27 : decode cX8_readsNumber 27 = .ok (.getfield 182, 3) := by decide +kernel
theorem dX8_readsNumber_30 : decode cX8_readsNumber 30 = .ok (.sipush 1000, 3) := by decide +kernel
theorem dX8_readsNumber_33 : decode cX8_readsNumber 33 = .ok (.if_icmp .ge 36, 3) := by decide +kernel
theorem dX8_readsNumber_36 : decode cX8_readsNumber 36 = .ok (.aload_n 0, 1) := by decide +kernel
theorem dX8_readsNumber_37 : decode cX8_readsNumber 37 = .ok (.invokevirtual 176, 3) := by decide +kernel
theorem dX8_readsNumber_40 : decode cX8_readsNumber 40 = .ok (.bipush 48, 2) := by decide +kernel
theorem dX8_readsNumber_42 : decode cX8_readsNumber 42 = .ok (.bipush 57, 2) := by decide +kernel
theorem dX8_readsNumber_44 : decode cX8_readsNumber 44 = .ok (.invokestatic 32, 3) := by decide +kernel
theorem dX8_readsNumber_47 : decode cX8_readsNumber 47 = .ok (.ifCond .eq 22, 3) := by decide +kernel
theorem dX8_readsNumber_50 : decode cX8_readsNumber 50 = .ok (.aload_n 0, 1) := by decide +kernel
theorem dX8_readsNumber_51 : decode cX8_readsNumber 51 = .ok (.bipush 10, 2) := by decide +kernel
theorem dX8_readsNumber_53 : decode cX8_readsNumber 53 = .ok (.aload_n 0, 1) := by decide +kernel
theorem dX8_readsNumber_54 : decode cX8_readsNumber 54 = .ok (.getfield 182, 3) := by decide +kernel
theorem dX8_readsNumber_57 : decode cX8_readsNumber 57 = .ok (.imul, 1) := by decide +kernel
theorem dX8_readsNumber_58 : decode cX8_readsNumber 58 = .ok (.aload_n 0, 1) := by decide +kernel
theorem dX8_readsNumber_59 : decode cX8_readsNumber 59 = .ok (.invokevirtual 179, 3) := by decide +kernel
theorem dX8_readsNumber_62 : decode cX8_readsNumber 62 = .ok (.iadd, 1) := by decide +kernel
theorem dX8_readsNumber_63 : decode cX8_readsNumber 63 = .ok (.putfield 182, 3) := by decide +kernel
theorem dX8_readsNumber_66 : decode cX8_readsNumber 66 = .ok (.goto (-47), 3) := by decide +kernel
theorem dX8_readsNumber_69 : decode cX8_readsNumber 69 = .ok (.iconst 1, 1) := by decide +kernel
theorem dX8_readsNumber_70 : decode cX8_readsNumber 70 = .ok (.ireturn, 1) := by decide +kernel
theorem dX8_readsSigned_0 : decode cX8_readsSigned 0 = .ok (.aload_n 0, 1) := by decide +kernel
theorem dX8_readsSigned_1 : decode cX8_readsSigned 1 = .ok (.invokevirtual 176, 3) := by decide +kernel
theorem dX8_readsSigned_4 : decode cX8_readsSigned 4 = .ok (.bipush 45, 2) := by decide +kernel
theorem dX8_readsSigned_6 : decode cX8_readsSigned 6 = .ok (.if_icmp .ne 7, 3) := by decide +kernel
theorem dX8_readsSigned_9 : decode cX8_readsSigned 9 = .ok (.iconst 1, 1) := by decide +kernel
theorem dX8_readsSigned_10 : decode cX8_readsSigned 10 = .ok (.goto 4, 3) := by decide +kernel
theorem dX8_readsSigned_13 : decode cX8_readsSigned 13 = .ok (.iconst 0, 1) := by decide +kernel
theorem dX8_readsSigned_14 : decode cX8_readsSigned 14 = .ok (.istore_n 1, 1) := by decide +kernel
theorem dX8_readsSigned_15 : decode cX8_readsSigned 15 = .ok (.aload_n 0, 1) := by decide +kernel
theorem dX8_readsSigned_16 : decode cX8_readsSigned 16 = .ok (.bipush 43, 2) := by decide +kernel
theorem dX8_readsSigned_18 : decode cX8_readsSigned 18 = .ok (.invokevirtual 185, 3) := by decide +kernel
theorem dX8_readsSigned_21 : decode cX8_readsSigned 21 = .ok (.ifCond .ne 14, 3) := by decide +kernel
theorem dX8_readsSigned_24 : decode cX8_readsSigned 24 = .ok (.aload_n 0, 1) := by decide +kernel
theorem dX8_readsSigned_25 : decode cX8_readsSigned 25 = .ok (.bipush 45, 2) := by decide +kernel
theorem dX8_readsSigned_27 : decode cX8_readsSigned 27 = .ok (.invokevirtual 185, 3) := by decide +kernel
theorem dX8_readsSigned_30 : decode cX8_readsSigned 30 = .ok (.ifCond .ne 5, 3) := by decide +kernel
theorem dX8_readsSigned_33 : decode cX8_readsSigned 33 = .ok (.iconst 0, 1) := by decide +kernel
theorem dX8_readsSigned_34 : decode cX8_readsSigned 34 = .ok (.ireturn, 1) := by decide +kernel
theorem dX8_readsSigned_35 : decode cX8_readsSigned 35 = .ok (.aload_n 0, 1) := by decide +kernel
theorem dX8_readsSigned_36 : decode cX8_readsSigned 36 = .ok (.invokevirtual 188, 3) := by decide +kernel
theorem dX8_readsSigned_39 : decode cX8_readsSigned 39 = .ok (.istore_n 2, 1) := by decide +kernel
theorem dX8_readsSigned_40 : decode cX8_readsSigned 40 = .ok (.aload_n 0, 1) := by decide +kernel
theorem dX8_readsSigned_41 : decode cX8_readsSigned 41 = .ok (.iload_n 1, 1) := by decide +kernel
theorem dX8_readsSigned_42 : decode cX8_readsSigned 42 = .ok (.ifCond .eq 11, 3) := by decide +kernel
theorem dX8_readsSigned_45 : decode cX8_readsSigned 45 = .ok (.aload_n 0, 1) := by decide +kernel
theorem dX8_readsSigned_46 : decode cX8_readsSigned 46 = .ok (.getfield 182, 3) := by decide +kernel
theorem dX8_readsSigned_49 : decode cX8_readsSigned 49 = .ok (.ineg, 1) := by decide +kernel
theorem dX8_readsSigned_50 : decode cX8_readsSigned 50 = .ok (.goto 7, 3) := by decide +kernel
theorem dX8_readsSigned_53 : decode cX8_readsSigned 53 = .ok (.aload_n 0, 1) := by decide +kernel
theorem dX8_readsSigned_54 : decode cX8_readsSigned 54 = .ok (.getfield 182, 3) := by decide +kernel
theorem dX8_readsSigned_57 : decode cX8_readsSigned 57 = .ok (.putfield 182, 3) := by decide +kernel
theorem dX8_readsSigned_60 : decode cX8_readsSigned 60 = .ok (.iload_n 2, 1) := by decide +kernel
theorem dX8_readsSigned_61 : decode cX8_readsSigned 61 = .ok (.ireturn, 1) := by decide +kernel
theorem dX8_readsDigits_0 : decode cX8_readsDigits 0 = .ok (.aload_n 0, 1) := by decide +kernel
theorem dX8_readsDigits_1 : decode cX8_readsDigits 1 = .ok (.aload_n 0, 1) := by decide +kernel
theorem dX8_readsDigits_2 : decode cX8_readsDigits 2 = .ok (.invokevirtual 179, 3) := by decide +kernel
theorem dX8_readsDigits_5 : decode cX8_readsDigits 5 = .ok (.putfield 182, 3) := by decide +kernel
theorem dX8_readsDigits_8 : decode cX8_readsDigits 8 = .ok (.aload_n 0, 1) := by decide +kernel
theorem dX8_readsDigits_9 : decode cX8_readsDigits 9 = .ok (.aload_n 0, 1) := by decide +kernel
theorem dX8_readsDigits_10 : decode cX8_readsDigits 10 = .ok (.getfield 182, 3) := by decide +kernel
theorem dX8_readsDigits_13 : decode cX8_readsDigits 13 = .ok (.bipush (-6), 2) := by decide +kernel
theorem dX8_readsDigits_15 : decode cX8_readsDigits 15 = .ok (.if_icmp .eq 14, 3) := by decide +kernel
theorem dX8_readsDigits_18 : decode cX8_readsDigits 18 = .ok (.iload_n 1, 1) := by decide +kernel
theorem dX8_readsDigits_19 : decode cX8_readsDigits 19 = .ok (.ifCond .eq 10, 3) := by decide +kernel
theorem dX8_readsDigits_22 : decode cX8_readsDigits 22 = .ok (.aload_n 0, 1) := by decide +kernel
theorem dX8_readsDigits_23 : decode cX8_readsDigits 23 = .ok (.invokevirtual 179, 3) := by decide +kernel
theorem dX8_readsDigits_26 : decode cX8_readsDigits 26 = .ok (.goto 7, 3) := by decide +kernel
theorem dX8_readsDigits_29 : decode cX8_readsDigits 29 = .ok (.aload_n 0, 1) := by decide +kernel
theorem dX8_readsDigits_30 : decode cX8_readsDigits 30 = .ok (.getfield 182, 3) := by decide +kernel
theorem dX8_readsDigits_33 : decode cX8_readsDigits 33 = .ok (.putfield 192, 3) := by decide +kernel
theorem dX8_readsDigits_36 : decode cX8_readsDigits 36 = .ok (.aload_n 0, 1) := by decide +kernel
theorem dX8_readsDigits_37 : decode cX8_readsDigits 37 = .ok (.getfield 192, 3) := by decide +kernel
theorem dX8_readsDigits_40 : decode cX8_readsDigits 40 = .ok (.bipush (-6), 2) := by decide +kernel
theorem dX8_readsDigits_42 : decode cX8_readsDigits 42 = .ok (.if_icmp .eq 7, 3) := by decide +kernel
theorem dX8_readsDigits_45 : decode cX8_readsDigits 45 = .ok (.iconst 1, 1) := by decide +kernel
theorem dX8_readsDigits_46 : decode cX8_readsDigits 46 = .ok (.goto 4, 3) := by decide +kernel
theorem dX8_readsDigits_49 : decode cX8_readsDigits 49 = .ok (.iconst 0, 1) := by decide +kernel
theorem dX8_readsDigits_50 : decode cX8_readsDigits 50 = .ok (.ireturn, 1) := by decide +kernel
theorem dX8_readsOrder_0 : decode cX8_readsOrder 0 = .ok (.aload_n 0, 1) := by decide +kernel
theorem dX8_readsOrder_1 : decode cX8_readsOrder 1 = .ok (.aload_n 0, 1) := by decide +kernel
theorem dX8_readsOrder_2 : decode cX8_readsOrder 2 = .ok (.invokevirtual 176, 3) := by decide +kernel
theorem dX8_readsOrder_5 : decode cX8_readsOrder 5 = .ok (.putfield 195, 3) := by decide +kernel
theorem dX8_readsOrder_8 : decode cX8_readsOrder 8 = .ok (.aload_n 0, 1) := by decide +kernel
theorem dX8_readsOrder_9 : decode cX8_readsOrder 9 = .ok (.getfield 195, 3) := by decide +kernel
theorem dX8_readsOrder_12 : decode cX8_readsOrder 12 = .ok (.lookupswitch 147 #[(42, 76), (99, 91), (103, 76), (109, 135), (110, 135), (111, 91), (115, 120), (122, 91)], 76) := by decide +kernel
theorem dX8_readsOrder_88 : decode cX8_readsOrder 88 = .ok (.aload_n 0, 1) := by decide +kernel
theorem dX8_readsOrder_89 : decode cX8_readsOrder 89 = .ok (.dup, 1) := by decide +kernel
theorem dX8_readsOrder_90 : decode cX8_readsOrder 90 = .ok (.getfield 173, 3) := by decide +kernel
theorem dX8_readsOrder_93 : decode cX8_readsOrder 93 = .ok (.iconst 1, 1) := by decide +kernel
theorem dX8_readsOrder_94 : decode cX8_readsOrder 94 = .ok (.iadd, 1) := by decide +kernel
theorem dX8_readsOrder_95 : decode cX8_readsOrder 95 = .ok (.putfield 173, 3) := by decide +kernel
theorem dX8_readsOrder_98 : decode cX8_readsOrder 98 = .ok (.aload_n 0, 1) := by decide +kernel
theorem dX8_readsOrder_99 : decode cX8_readsOrder 99 = .ok (.invokevirtual 198, 3) := by decide +kernel
theorem dX8_readsOrder_102 : decode cX8_readsOrder 102 = .ok (.ireturn, 1) := by decide +kernel
theorem dX8_readsOrder_103 : decode cX8_readsOrder 103 = .ok (.aload_n 0, 1) := by decide +kernel
theorem dX8_readsOrder_104 : decode cX8_readsOrder 104 = .ok (.dup, 1) := by decide +kernel
theorem dX8_readsOrder_105 : decode cX8_readsOrder 105 = .ok (.getfield 173, 3) := by decide +kernel
theorem dX8_readsOrder_108 : decode cX8_readsOrder 108 = .ok (.iconst 1, 1) := by decide +kernel
theorem dX8_readsOrder_109 : decode cX8_readsOrder 109 = .ok (.iadd, 1) := by decide +kernel
theorem dX8_readsOrder_110 : decode cX8_readsOrder 110 = .ok (.putfield 173, 3) := by decide +kernel
theorem dX8_readsOrder_113 : decode cX8_readsOrder 113 = .ok (.aload_n 0, 1) := by decide +kernel
theorem dX8_readsOrder_114 : decode cX8_readsOrder 114 = .ok (.aload_n 0, 1) := by decide +kernel
theorem dX8_readsOrder_115 : decode cX8_readsOrder 115 = .ok (.getfield 195, 3) := by decide +kernel
theorem dX8_readsOrder_118 : decode cX8_readsOrder 118 = .ok (.bipush 111, 2) := by decide +kernel
theorem dX8_readsOrder_120 : decode cX8_readsOrder 120 = .ok (.if_icmp .ne 7, 3) := by decide +kernel
theorem dX8_readsOrder_123 : decode cX8_readsOrder 123 = .ok (.iconst 1, 1) := by decide +kernel
theorem dX8_readsOrder_124 : decode cX8_readsOrder 124 = .ok (.goto 4, 3) := by decide +kernel
theorem dX8_readsOrder_127 : decode cX8_readsOrder 127 = .ok (.iconst 0, 1) := by decide +kernel
theorem dX8_readsOrder_128 : decode cX8_readsOrder 128 = .ok (.invokevirtual 201, 3) := by decide +kernel
theorem dX8_readsOrder_131 : decode cX8_readsOrder 131 = .ok (.ireturn, 1) := by decide +kernel
theorem dX8_readsOrder_132 : decode cX8_readsOrder 132 = .ok (.aload_n 0, 1) := by decide +kernel
theorem dX8_readsOrder_133 : decode cX8_readsOrder 133 = .ok (.dup, 1) := by decide +kernel
theorem dX8_readsOrder_134 : decode cX8_readsOrder 134 = .ok (.getfield 173, 3) := by decide +kernel
theorem dX8_readsOrder_137 : decode cX8_readsOrder 137 = .ok (.iconst 1, 1) := by decide +kernel
theorem dX8_readsOrder_138 : decode cX8_readsOrder 138 = .ok (.iadd, 1) := by decide +kernel
theorem dX8_readsOrder_139 : decode cX8_readsOrder 139 = .ok (.putfield 173, 3) := by decide +kernel
theorem dX8_readsOrder_142 : decode cX8_readsOrder 142 = .ok (.aload_n 0, 1) := by decide +kernel
theorem dX8_readsOrder_143 : decode cX8_readsOrder 143 = .ok (.invokevirtual 188, 3) := by decide +kernel
theorem dX8_readsOrder_146 : decode cX8_readsOrder 146 = .ok (.ireturn, 1) := by decide +kernel
theorem dX8_readsOrder_147 : decode cX8_readsOrder 147 = .ok (.aload_n 0, 1) := by decide +kernel
theorem dX8_readsOrder_148 : decode cX8_readsOrder 148 = .ok (.dup, 1) := by decide +kernel
theorem dX8_readsOrder_149 : decode cX8_readsOrder 149 = .ok (.getfield 173, 3) := by decide +kernel
theorem dX8_readsOrder_152 : decode cX8_readsOrder 152 = .ok (.iconst 1, 1) := by decide +kernel
theorem dX8_readsOrder_153 : decode cX8_readsOrder 153 = .ok (.iadd, 1) := by decide +kernel
theorem dX8_readsOrder_154 : decode cX8_readsOrder 154 = .ok (.putfield 173, 3) := by decide +kernel
theorem dX8_readsOrder_157 : decode cX8_readsOrder 157 = .ok (.iconst 1, 1) := by decide +kernel
theorem dX8_readsOrder_158 : decode cX8_readsOrder 158 = .ok (.ireturn, 1) := by decide +kernel
theorem dX8_readsOrder_159 : decode cX8_readsOrder 159 = .ok (.iconst 0, 1) := by decide +kernel
theorem dX8_readsOrder_160 : decode cX8_readsOrder 160 = .ok (.ireturn, 1) := by decide +kernel
theorem dX8_findFault_0 : decode cX8_findFault 0 = .ok (.aload_n 0, 1) := by decide +kernel
theorem dX8_findFault_1 : decode cX8_findFault 1 = .ok (.iconst 0, 1) := by decide +kernel
theorem dX8_findFault_2 : decode cX8_findFault 2 = .ok (.putfield 173, 3) := by decide +kernel
theorem dX8_findFault_5 : decode cX8_findFault 5 = .ok (.aload_n 0, 1) := by decide +kernel
theorem dX8_findFault_6 : decode cX8_findFault 6 = .ok (.invokevirtual 205, 3) := by decide +kernel
theorem dX8_findFault_9 : decode cX8_findFault 9 = .ok (.ifCond .eq 31, 3) := by decide +kernel
theorem dX8_findFault_12 : decode cX8_findFault 12 = .ok (.aload_n 0, 1) := by decide +kernel
theorem dX8_findFault_13 : decode cX8_findFault 13 = .ok (.getfield 173, 3) := by decide +kernel
theorem dX8_findFault_16 : decode cX8_findFault 16 = .ok (.aload_n 0, 1) := by decide +kernel
theorem dX8_findFault_17 : decode cX8_findFault 17 = .ok (.getfield 158, 3) := by decide +kernel
theorem dX8_findFault_20 : decode cX8_findFault 20 = .ok (.if_icmp .ne 6, 3) := by decide +kernel
theorem dX8_findFault_23 : decode cX8_findFault 23 = .ok (.bipush (-6), 2) := by decide +kernel
theorem dX8_findFault_25 : decode cX8_findFault 25 = .ok (.ireturn, 1) := by decide +kernel
theorem dX8_findFault_26 : decode cX8_findFault 26 = .ok (.aload_n 0, 1) := by decide +kernel
theorem dX8_findFault_27 : decode cX8_findFault 27 = .ok (.bipush 59, 2) := by decide +kernel
theorem dX8_findFault_29 : decode cX8_findFault 29 = .ok (.invokevirtual 185, 3) := by decide +kernel
theorem dX8_findFault_32 : decode cX8_findFault 32 = .ok (.ifCond .ne (-27), 3) := by decide +kernel
theorem dX8_findFault_35 : decode cX8_findFault 35 = .ok (.aload_n 0, 1) := by decide +kernel
theorem dX8_findFault_36 : decode cX8_findFault 36 = .ok (.getfield 173, 3) := by decide +kernel
theorem dX8_findFault_39 : decode cX8_findFault 39 = .ok (.ireturn, 1) := by decide +kernel
theorem dX8_findFault_40 : decode cX8_findFault 40 = .ok (.aload_n 0, 1) := by decide +kernel
theorem dX8_findFault_41 : decode cX8_findFault 41 = .ok (.getfield 173, 3) := by decide +kernel
theorem dX8_findFault_44 : decode cX8_findFault 44 = .ok (.ireturn, 1) := by decide +kernel
theorem dX8_fault_0 : decode cX8_fault 0 = .ok (.aload_n 0, 1) := by decide +kernel
theorem dX8_fault_1 : decode cX8_fault 1 = .ok (.invokevirtual 208, 3) := by decide +kernel
theorem dX8_fault_4 : decode cX8_fault 4 = .ok (.ireturn, 1) := by decide +kernel
theorem dX8_doesOrder_0 : decode cX8_doesOrder 0 = .ok (.aload_n 0, 1) := by decide +kernel
theorem dX8_doesOrder_1 : decode cX8_doesOrder 1 = .ok (.getfield 195, 3) := by decide +kernel
theorem dX8_doesOrder_4 : decode cX8_doesOrder 4 = .ok (.lookupswitch 131 #[(42, 68), (99, 86), (103, 77), (109, 126), (111, 104), (115, 117), (122, 95)], 68) := by decide +kernel
theorem dX8_doesOrder_72 : decode cX8_doesOrder 72 = .ok (.aload_n 0, 1) := by decide +kernel
theorem dX8_doesOrder_73 : decode cX8_doesOrder 73 = .ok (.aload_n 0, 1) := by decide +kernel
theorem dX8_doesOrder_74 : decode cX8_doesOrder 74 = .ok (.getfield 182, 3) := by decide +kernel
theorem dX8_doesOrder_77 : decode cX8_doesOrder 77 = .ok (.invokevirtual 118, 3) := by decide +kernel
theorem dX8_doesOrder_80 : decode cX8_doesOrder 80 = .ok (.ireturn, 1) := by decide +kernel
theorem dX8_doesOrder_81 : decode cX8_doesOrder 81 = .ok (.aload_n 0, 1) := by decide +kernel
theorem dX8_doesOrder_82 : decode cX8_doesOrder 82 = .ok (.aload_n 0, 1) := by decide +kernel
theorem dX8_doesOrder_83 : decode cX8_doesOrder 83 = .ok (.getfield 182, 3) := by decide +kernel
theorem dX8_doesOrder_86 : decode cX8_doesOrder 86 = .ok (.invokevirtual 130, 3) := by decide +kernel
theorem dX8_doesOrder_89 : decode cX8_doesOrder 89 = .ok (.ireturn, 1) := by decide +kernel
theorem dX8_doesOrder_90 : decode cX8_doesOrder 90 = .ok (.aload_n 0, 1) := by decide +kernel
theorem dX8_doesOrder_91 : decode cX8_doesOrder 91 = .ok (.aload_n 0, 1) := by decide +kernel
theorem dX8_doesOrder_92 : decode cX8_doesOrder 92 = .ok (.getfield 182, 3) := by decide +kernel
theorem dX8_doesOrder_95 : decode cX8_doesOrder 95 = .ok (.invokevirtual 121, 3) := by decide +kernel
theorem dX8_doesOrder_98 : decode cX8_doesOrder 98 = .ok (.ireturn, 1) := by decide +kernel
theorem dX8_doesOrder_99 : decode cX8_doesOrder 99 = .ok (.aload_n 0, 1) := by decide +kernel
theorem dX8_doesOrder_100 : decode cX8_doesOrder 100 = .ok (.aload_n 0, 1) := by decide +kernel
theorem dX8_doesOrder_101 : decode cX8_doesOrder 101 = .ok (.getfield 182, 3) := by decide +kernel
theorem dX8_doesOrder_104 : decode cX8_doesOrder 104 = .ok (.invokevirtual 127, 3) := by decide +kernel
theorem dX8_doesOrder_107 : decode cX8_doesOrder 107 = .ok (.ireturn, 1) := by decide +kernel
theorem dX8_doesOrder_108 : decode cX8_doesOrder 108 = .ok (.aload_n 0, 1) := by decide +kernel
theorem dX8_doesOrder_109 : decode cX8_doesOrder 109 = .ok (.aload_n 0, 1) := by decide +kernel
theorem dX8_doesOrder_110 : decode cX8_doesOrder 110 = .ok (.getfield 182, 3) := by decide +kernel
theorem dX8_doesOrder_113 : decode cX8_doesOrder 113 = .ok (.aload_n 0, 1) := by decide +kernel
theorem dX8_doesOrder_114 : decode cX8_doesOrder 114 = .ok (.getfield 192, 3) := by decide +kernel
theorem dX8_doesOrder_117 : decode cX8_doesOrder 117 = .ok (.invokevirtual 133, 3) := by decide +kernel
theorem dX8_doesOrder_120 : decode cX8_doesOrder 120 = .ok (.ireturn, 1) := by decide +kernel
theorem dX8_doesOrder_121 : decode cX8_doesOrder 121 = .ok (.aload_n 0, 1) := by decide +kernel
theorem dX8_doesOrder_122 : decode cX8_doesOrder 122 = .ok (.aload_n 0, 1) := by decide +kernel
theorem dX8_doesOrder_123 : decode cX8_doesOrder 123 = .ok (.getfield 182, 3) := by decide +kernel
theorem dX8_doesOrder_126 : decode cX8_doesOrder 126 = .ok (.invokevirtual 139, 3) := by decide +kernel
theorem dX8_doesOrder_129 : decode cX8_doesOrder 129 = .ok (.ireturn, 1) := by decide +kernel
theorem dX8_doesOrder_130 : decode cX8_doesOrder 130 = .ok (.aload_n 0, 1) := by decide +kernel
theorem dX8_doesOrder_131 : decode cX8_doesOrder 131 = .ok (.invokevirtual 136, 3) := by decide +kernel
theorem dX8_doesOrder_134 : decode cX8_doesOrder 134 = .ok (.ireturn, 1) := by decide +kernel
theorem dX8_doesOrder_135 : decode cX8_doesOrder 135 = .ok (.aload_n 0, 1) := by decide +kernel
theorem dX8_doesOrder_136 : decode cX8_doesOrder 136 = .ok (.invokevirtual 142, 3) := by decide +kernel
theorem dX8_doesOrder_139 : decode cX8_doesOrder 139 = .ok (.ireturn, 1) := by decide +kernel
theorem dX8_carryOut_0 : decode cX8_carryOut 0 = .ok (.aload_n 0, 1) := by decide +kernel
theorem dX8_carryOut_1 : decode cX8_carryOut 1 = .ok (.invokevirtual 208, 3) := by decide +kernel
theorem dX8_carryOut_4 : decode cX8_carryOut 4 = .ok (.bipush (-6), 2) := by decide +kernel
theorem dX8_carryOut_6 : decode cX8_carryOut 6 = .ok (.if_icmp .eq 6, 3) := by decide +kernel
theorem dX8_carryOut_9 : decode cX8_carryOut 9 = .ok (.bipush (-3), 2) := by decide +kernel
theorem dX8_carryOut_11 : decode cX8_carryOut 11 = .ok (.ireturn, 1) := by decide +kernel
theorem dX8_carryOut_12 : decode cX8_carryOut 12 = .ok (.aload_n 0, 1) := by decide +kernel
theorem dX8_carryOut_13 : decode cX8_carryOut 13 = .ok (.invokevirtual 47, 3) := by decide +kernel
theorem dX8_carryOut_16 : decode cX8_carryOut 16 = .ok (.aload_n 0, 1) := by decide +kernel
theorem dX8_carryOut_17 : decode cX8_carryOut 17 = .ok (.invokevirtual 40, 3) := by decide +kernel
theorem dX8_carryOut_20 : decode cX8_carryOut 20 = .ok (.aload_n 0, 1) := by decide +kernel
theorem dX8_carryOut_21 : decode cX8_carryOut 21 = .ok (.iconst 0, 1) := by decide +kernel
theorem dX8_carryOut_22 : decode cX8_carryOut 22 = .ok (.putfield 173, 3) := by decide +kernel
theorem dX8_carryOut_25 : decode cX8_carryOut 25 = .ok (.iconst 0, 1) := by decide +kernel
theorem dX8_carryOut_26 : decode cX8_carryOut 26 = .ok (.istore_n 1, 1) := by decide +kernel
theorem dX8_carryOut_27 : decode cX8_carryOut 27 = .ok (.iconst 1, 1) := by decide +kernel
theorem dX8_carryOut_28 : decode cX8_carryOut 28 = .ok (.istore_n 2, 1) := by decide +kernel
theorem dX8_carryOut_29 : decode cX8_carryOut 29 = .ok (.iload_n 2, 1) := by decide +kernel
theorem dX8_carryOut_30 : decode cX8_carryOut 30 = .ok (.ifCond .eq 59, 3) := by decide +kernel
theorem dX8_carryOut_33 : decode cX8_carryOut 33 = .ok (.aload_n 0, 1) := by decide +kernel
theorem dX8_carryOut_34 : decode cX8_carryOut 34 = .ok (.getfield 173, 3) := by decide +kernel
theorem dX8_carryOut_37 : decode cX8_carryOut 37 = .ok (.aload_n 0, 1) := by decide +kernel
theorem dX8_carryOut_38 : decode cX8_carryOut 38 = .ok (.getfield 158, 3) := by decide +kernel
theorem dX8_carryOut_41 : decode cX8_carryOut 41 = .ok (.if_icmp .ge 48, 3) := by decide +kernel
theorem dX8_carryOut_44 : decode cX8_carryOut 44 = .ok (.aload_n 0, 1) := by decide +kernel
theorem dX8_carryOut_45 : decode cX8_carryOut 45 = .ok (.invokevirtual 205, 3) := by decide +kernel
theorem dX8_carryOut_48 : decode cX8_carryOut 48 = .ok (.ifCond .eq 14, 3) := by decide +kernel
theorem dX8_carryOut_51 : decode cX8_carryOut 51 = .ok (.aload_n 0, 1) := by decide +kernel
theorem dX8_carryOut_52 : decode cX8_carryOut 52 = .ok (.invokevirtual 211, 3) := by decide +kernel
theorem dX8_carryOut_55 : decode cX8_carryOut 55 = .ok (.ifCond .lt 7, 3) := by decide +kernel
theorem dX8_carryOut_58 : decode cX8_carryOut 58 = .ok (.iconst 1, 1) := by decide +kernel
theorem dX8_carryOut_59 : decode cX8_carryOut 59 = .ok (.goto 4, 3) := by decide +kernel
theorem dX8_carryOut_62 : decode cX8_carryOut 62 = .ok (.iconst 0, 1) := by decide +kernel
theorem dX8_carryOut_63 : decode cX8_carryOut 63 = .ok (.istore_n 2, 1) := by decide +kernel
theorem dX8_carryOut_64 : decode cX8_carryOut 64 = .ok (.iload_n 1, 1) := by decide +kernel
theorem dX8_carryOut_65 : decode cX8_carryOut 65 = .ok (.iload_n 2, 1) := by decide +kernel
theorem dX8_carryOut_66 : decode cX8_carryOut 66 = .ok (.ifCond .eq 7, 3) := by decide +kernel
theorem dX8_carryOut_69 : decode cX8_carryOut 69 = .ok (.iconst 1, 1) := by decide +kernel
theorem dX8_carryOut_70 : decode cX8_carryOut 70 = .ok (.goto 4, 3) := by decide +kernel
theorem dX8_carryOut_73 : decode cX8_carryOut 73 = .ok (.iconst 0, 1) := by decide +kernel
theorem dX8_carryOut_74 : decode cX8_carryOut 74 = .ok (.iadd, 1) := by decide +kernel
theorem dX8_carryOut_75 : decode cX8_carryOut 75 = .ok (.istore_n 1, 1) := by decide +kernel
theorem dX8_carryOut_76 : decode cX8_carryOut 76 = .ok (.aload_n 0, 1) := by decide +kernel
theorem dX8_carryOut_77 : decode cX8_carryOut 77 = .ok (.dup, 1) := by decide +kernel
theorem dX8_carryOut_78 : decode cX8_carryOut 78 = .ok (.getfield 173, 3) := by decide +kernel
theorem dX8_carryOut_81 : decode cX8_carryOut 81 = .ok (.iconst 1, 1) := by decide +kernel
theorem dX8_carryOut_82 : decode cX8_carryOut 82 = .ok (.iadd, 1) := by decide +kernel
theorem dX8_carryOut_83 : decode cX8_carryOut 83 = .ok (.putfield 173, 3) := by decide +kernel
theorem dX8_carryOut_86 : decode cX8_carryOut 86 = .ok (.goto (-57), 3) := by decide +kernel
theorem dX8_carryOut_89 : decode cX8_carryOut 89 = .ok (.aload_n 0, 1) := by decide +kernel
theorem dX8_carryOut_90 : decode cX8_carryOut 90 = .ok (.iconst 0, 1) := by decide +kernel
theorem dX8_carryOut_91 : decode cX8_carryOut 91 = .ok (.putfield 158, 3) := by decide +kernel
theorem dX8_carryOut_94 : decode cX8_carryOut 94 = .ok (.iload_n 1, 1) := by decide +kernel
theorem dX8_carryOut_95 : decode cX8_carryOut 95 = .ok (.ireturn, 1) := by decide +kernel
theorem dJ9_abs_0f7a4_0 : decode cJ9_abs_0f7a4 0 = .ok (.iload_n 0, 1) := by decide +kernel
theorem dJ9_abs_0f7a4_1 : decode cJ9_abs_0f7a4 1 = .ok (.ifCond .ge 8, 3) := by decide +kernel
theorem dJ9_abs_0f7a4_4 : decode cJ9_abs_0f7a4 4 = .ok (.iload_n 0, 1) := by decide +kernel
theorem dJ9_abs_0f7a4_5 : decode cJ9_abs_0f7a4 5 = .ok (.ineg, 1) := by decide +kernel
theorem dJ9_abs_0f7a4_6 : decode cJ9_abs_0f7a4 6 = .ok (.goto 4, 3) := by decide +kernel
theorem dJ9_abs_0f7a4_9 : decode cJ9_abs_0f7a4 9 = .ok (.iload_n 0, 1) := by decide +kernel
theorem dJ9_abs_0f7a4_10 : decode cJ9_abs_0f7a4 10 = .ok (.ireturn, 1) := by decide +kernel
theorem dJ9_max_7cf53_0 : decode cJ9_max_7cf53 0 = .ok (.iload_n 0, 1) := by decide +kernel
theorem dJ9_max_7cf53_1 : decode cJ9_max_7cf53 1 = .ok (.iload_n 1, 1) := by decide +kernel
theorem dJ9_max_7cf53_2 : decode cJ9_max_7cf53 2 = .ok (.if_icmp .lt 7, 3) := by decide +kernel
theorem dJ9_max_7cf53_5 : decode cJ9_max_7cf53 5 = .ok (.iload_n 0, 1) := by decide +kernel
theorem dJ9_max_7cf53_6 : decode cJ9_max_7cf53 6 = .ok (.goto 4, 3) := by decide +kernel
theorem dJ9_max_7cf53_9 : decode cJ9_max_7cf53 9 = .ok (.iload_n 1, 1) := by decide +kernel
theorem dJ9_max_7cf53_10 : decode cJ9_max_7cf53 10 = .ok (.ireturn, 1) := by decide +kernel
theorem dJ9_min_7cf53_0 : decode cJ9_min_7cf53 0 = .ok (.iload_n 0, 1) := by decide +kernel
theorem dJ9_min_7cf53_1 : decode cJ9_min_7cf53 1 = .ok (.iload_n 1, 1) := by decide +kernel
theorem dJ9_min_7cf53_2 : decode cJ9_min_7cf53 2 = .ok (.if_icmp .gt 7, 3) := by decide +kernel
theorem dJ9_min_7cf53_5 : decode cJ9_min_7cf53 5 = .ok (.iload_n 0, 1) := by decide +kernel
theorem dJ9_min_7cf53_6 : decode cJ9_min_7cf53 6 = .ok (.goto 4, 3) := by decide +kernel
theorem dJ9_min_7cf53_9 : decode cJ9_min_7cf53 9 = .ok (.iload_n 1, 1) := by decide +kernel
theorem dJ9_min_7cf53_10 : decode cJ9_min_7cf53 10 = .ok (.ireturn, 1) := by decide +kernel
theorem dL_law_0 : decode cL_law 0 = .ok (.new 7, 3) := by decide +kernel
theorem dL_law_3 : decode cL_law 3 = .ok (.dup, 1) := by decide +kernel
theorem dL_law_4 : decode cL_law 4 = .ok (.invokespecial 9, 3) := by decide +kernel
theorem dL_law_7 : decode cL_law 7 = .ok (.astore_n 1, 1) := by decide +kernel
theorem dL_law_8 : decode cL_law 8 = .ok (.new 10, 3) := by decide +kernel
theorem dL_law_11 : decode cL_law 11 = .ok (.dup, 1) := by decide +kernel
theorem dL_law_12 : decode cL_law 12 = .ok (.invokespecial 12, 3) := by decide +kernel
theorem dL_law_15 : decode cL_law 15 = .ok (.astore_n 2, 1) := by decide +kernel
theorem dL_law_16 : decode cL_law 16 = .ok (.iconst 0, 1) := by decide +kernel
theorem dL_law_17 : decode cL_law 17 = .ok (.istore_n 3, 1) := by decide +kernel
theorem dL_law_18 : decode cL_law 18 = .ok (.iload_n 3, 1) := by decide +kernel
theorem dL_law_19 : decode cL_law 19 = .ok (.aload_n 0, 1) := by decide +kernel
theorem dL_law_20 : decode cL_law 20 = .ok (.arraylength, 1) := by decide +kernel
theorem dL_law_21 : decode cL_law 21 = .ok (.iconst 4, 1) := by decide +kernel
theorem dL_law_22 : decode cL_law 22 = .ok (.isub, 1) := by decide +kernel
theorem dL_law_23 : decode cL_law 23 = .ok (.if_icmp .gt 810, 3) := by decide +kernel
theorem dL_law_26 : decode cL_law 26 = .ok (.aload_n 0, 1) := by decide +kernel
theorem dL_law_27 : decode cL_law 27 = .ok (.iload_n 3, 1) := by decide +kernel
theorem dL_law_28 : decode cL_law 28 = .ok (.iaload, 1) := by decide +kernel
theorem dL_law_29 : decode cL_law 29 = .ok (.bipush 31, 2) := by decide +kernel
theorem dL_law_31 : decode cL_law 31 = .ok (.iand, 1) := by decide +kernel
theorem dL_law_32 : decode cL_law 32 = .ok (.tableswitch 795 0 26 #[124, 157, 180, 203, 246, 269, 292, 325, 338, 361, 374, 407, 440, 473, 496, 529, 562, 585, 598, 621, 644, 697, 710, 723, 736, 749, 772], 124) := by decide +kernel
theorem dL_law_156 : decode cL_law 156 = .ok (.aload_n 1, 1) := by decide +kernel
theorem dL_law_157 : decode cL_law 157 = .ok (.aload_n 0, 1) := by decide +kernel
theorem dL_law_158 : decode cL_law 158 = .ok (.iload_n 3, 1) := by decide +kernel
theorem dL_law_159 : decode cL_law 159 = .ok (.iconst 1, 1) := by decide +kernel
theorem dL_law_160 : decode cL_law 160 = .ok (.iadd, 1) := by decide +kernel
theorem dL_law_161 : decode cL_law 161 = .ok (.iaload, 1) := by decide +kernel
theorem dL_law_162 : decode cL_law 162 = .ok (.aload_n 0, 1) := by decide +kernel
theorem dL_law_163 : decode cL_law 163 = .ok (.iload_n 3, 1) := by decide +kernel
theorem dL_law_164 : decode cL_law 164 = .ok (.iconst 2, 1) := by decide +kernel
theorem dL_law_165 : decode cL_law 165 = .ok (.iadd, 1) := by decide +kernel
theorem dL_law_166 : decode cL_law 166 = .ok (.iaload, 1) := by decide +kernel
theorem dL_law_167 : decode cL_law 167 = .ok (.invokevirtual 13, 3) := by decide +kernel
theorem dL_law_170 : decode cL_law 170 = .ok (.aload_n 2, 1) := by decide +kernel
theorem dL_law_171 : decode cL_law 171 = .ok (.aload_n 0, 1) := by decide +kernel
theorem dL_law_172 : decode cL_law 172 = .ok (.iload_n 3, 1) := by decide +kernel
theorem dL_law_173 : decode cL_law 173 = .ok (.iconst 1, 1) := by decide +kernel
theorem dL_law_174 : decode cL_law 174 = .ok (.iadd, 1) := by decide +kernel
theorem dL_law_175 : decode cL_law 175 = .ok (.iaload, 1) := by decide +kernel
theorem dL_law_176 : decode cL_law 176 = .ok (.aload_n 0, 1) := by decide +kernel
theorem dL_law_177 : decode cL_law 177 = .ok (.iload_n 3, 1) := by decide +kernel
theorem dL_law_178 : decode cL_law 178 = .ok (.iconst 2, 1) := by decide +kernel
theorem dL_law_179 : decode cL_law 179 = .ok (.iadd, 1) := by decide +kernel
theorem dL_law_180 : decode cL_law 180 = .ok (.iaload, 1) := by decide +kernel
theorem dL_law_181 : decode cL_law 181 = .ok (.invokevirtual 17, 3) := by decide +kernel
theorem dL_law_184 : decode cL_law 184 = .ok (.if_icmp .eq 643, 3) := by decide +kernel
theorem dL_law_187 : decode cL_law 187 = .ok (.iconst 0, 1) := by decide +kernel
theorem dL_law_188 : decode cL_law 188 = .ok (.ireturn, 1) := by decide +kernel
theorem dL_law_189 : decode cL_law 189 = .ok (.aload_n 1, 1) := by decide +kernel
theorem dL_law_190 : decode cL_law 190 = .ok (.aload_n 0, 1) := by decide +kernel
theorem dL_law_191 : decode cL_law 191 = .ok (.iload_n 3, 1) := by decide +kernel
theorem dL_law_192 : decode cL_law 192 = .ok (.iconst 1, 1) := by decide +kernel
theorem dL_law_193 : decode cL_law 193 = .ok (.iadd, 1) := by decide +kernel
theorem dL_law_194 : decode cL_law 194 = .ok (.iaload, 1) := by decide +kernel
theorem dL_law_195 : decode cL_law 195 = .ok (.invokevirtual 18, 3) := by decide +kernel
theorem dL_law_198 : decode cL_law 198 = .ok (.aload_n 2, 1) := by decide +kernel
theorem dL_law_199 : decode cL_law 199 = .ok (.aload_n 0, 1) := by decide +kernel
theorem dL_law_200 : decode cL_law 200 = .ok (.iload_n 3, 1) := by decide +kernel
theorem dL_law_201 : decode cL_law 201 = .ok (.iconst 1, 1) := by decide +kernel
theorem dL_law_202 : decode cL_law 202 = .ok (.iadd, 1) := by decide +kernel
theorem dL_law_203 : decode cL_law 203 = .ok (.iaload, 1) := by decide +kernel
theorem dL_law_204 : decode cL_law 204 = .ok (.invokevirtual 22, 3) := by decide +kernel
theorem dL_law_207 : decode cL_law 207 = .ok (.if_icmp .eq 620, 3) := by decide +kernel
theorem dL_law_210 : decode cL_law 210 = .ok (.iconst 0, 1) := by decide +kernel
theorem dL_law_211 : decode cL_law 211 = .ok (.ireturn, 1) := by decide +kernel
theorem dL_law_212 : decode cL_law 212 = .ok (.aload_n 1, 1) := by decide +kernel
theorem dL_law_213 : decode cL_law 213 = .ok (.aload_n 0, 1) := by decide +kernel
theorem dL_law_214 : decode cL_law 214 = .ok (.iload_n 3, 1) := by decide +kernel
theorem dL_law_215 : decode cL_law 215 = .ok (.iconst 1, 1) := by decide +kernel
theorem dL_law_216 : decode cL_law 216 = .ok (.iadd, 1) := by decide +kernel
theorem dL_law_217 : decode cL_law 217 = .ok (.iaload, 1) := by decide +kernel
theorem dL_law_218 : decode cL_law 218 = .ok (.invokevirtual 23, 3) := by decide +kernel
theorem dL_law_221 : decode cL_law 221 = .ok (.aload_n 2, 1) := by decide +kernel
theorem dL_law_222 : decode cL_law 222 = .ok (.aload_n 0, 1) := by decide +kernel
theorem dL_law_223 : decode cL_law 223 = .ok (.iload_n 3, 1) := by decide +kernel
theorem dL_law_224 : decode cL_law 224 = .ok (.iconst 1, 1) := by decide +kernel
theorem dL_law_225 : decode cL_law 225 = .ok (.iadd, 1) := by decide +kernel
theorem dL_law_226 : decode cL_law 226 = .ok (.iaload, 1) := by decide +kernel
theorem dL_law_227 : decode cL_law 227 = .ok (.invokevirtual 26, 3) := by decide +kernel
theorem dL_law_230 : decode cL_law 230 = .ok (.if_icmp .eq 597, 3) := by decide +kernel
theorem dL_law_233 : decode cL_law 233 = .ok (.iconst 0, 1) := by decide +kernel
theorem dL_law_234 : decode cL_law 234 = .ok (.ireturn, 1) := by decide +kernel
theorem dL_law_235 : decode cL_law 235 = .ok (.aload_n 1, 1) := by decide +kernel
theorem dL_law_236 : decode cL_law 236 = .ok (.aload_n 0, 1) := by decide +kernel
theorem dL_law_237 : decode cL_law 237 = .ok (.iload_n 3, 1) := by decide +kernel
theorem dL_law_238 : decode cL_law 238 = .ok (.iconst 1, 1) := by decide +kernel
theorem dL_law_239 : decode cL_law 239 = .ok (.iadd, 1) := by decide +kernel
theorem dL_law_240 : decode cL_law 240 = .ok (.iaload, 1) := by decide +kernel
theorem dL_law_241 : decode cL_law 241 = .ok (.aload_n 0, 1) := by decide +kernel
theorem dL_law_242 : decode cL_law 242 = .ok (.iload_n 3, 1) := by decide +kernel
theorem dL_law_243 : decode cL_law 243 = .ok (.iconst 2, 1) := by decide +kernel
theorem dL_law_244 : decode cL_law 244 = .ok (.iadd, 1) := by decide +kernel
theorem dL_law_245 : decode cL_law 245 = .ok (.iaload, 1) := by decide +kernel
theorem dL_law_246 : decode cL_law 246 = .ok (.aload_n 0, 1) := by decide +kernel
theorem dL_law_247 : decode cL_law 247 = .ok (.iload_n 3, 1) := by decide +kernel
theorem dL_law_248 : decode cL_law 248 = .ok (.iconst 3, 1) := by decide +kernel
theorem dL_law_249 : decode cL_law 249 = .ok (.iadd, 1) := by decide +kernel
theorem dL_law_250 : decode cL_law 250 = .ok (.iaload, 1) := by decide +kernel
theorem dL_law_251 : decode cL_law 251 = .ok (.invokevirtual 27, 3) := by decide +kernel
theorem dL_law_254 : decode cL_law 254 = .ok (.aload_n 2, 1) := by decide +kernel
theorem dL_law_255 : decode cL_law 255 = .ok (.aload_n 0, 1) := by decide +kernel
theorem dL_law_256 : decode cL_law 256 = .ok (.iload_n 3, 1) := by decide +kernel
theorem dL_law_257 : decode cL_law 257 = .ok (.iconst 1, 1) := by decide +kernel
theorem dL_law_258 : decode cL_law 258 = .ok (.iadd, 1) := by decide +kernel
theorem dL_law_259 : decode cL_law 259 = .ok (.iaload, 1) := by decide +kernel
theorem dL_law_260 : decode cL_law 260 = .ok (.aload_n 0, 1) := by decide +kernel
theorem dL_law_261 : decode cL_law 261 = .ok (.iload_n 3, 1) := by decide +kernel
theorem dL_law_262 : decode cL_law 262 = .ok (.iconst 2, 1) := by decide +kernel
theorem dL_law_263 : decode cL_law 263 = .ok (.iadd, 1) := by decide +kernel
theorem dL_law_264 : decode cL_law 264 = .ok (.iaload, 1) := by decide +kernel
theorem dL_law_265 : decode cL_law 265 = .ok (.aload_n 0, 1) := by decide +kernel
theorem dL_law_266 : decode cL_law 266 = .ok (.iload_n 3, 1) := by decide +kernel
theorem dL_law_267 : decode cL_law 267 = .ok (.iconst 3, 1) := by decide +kernel
theorem dL_law_268 : decode cL_law 268 = .ok (.iadd, 1) := by decide +kernel
theorem dL_law_269 : decode cL_law 269 = .ok (.iaload, 1) := by decide +kernel
theorem dL_law_270 : decode cL_law 270 = .ok (.invokevirtual 31, 3) := by decide +kernel
theorem dL_law_273 : decode cL_law 273 = .ok (.if_icmp .eq 554, 3) := by decide +kernel
theorem dL_law_276 : decode cL_law 276 = .ok (.iconst 0, 1) := by decide +kernel
theorem dL_law_277 : decode cL_law 277 = .ok (.ireturn, 1) := by decide +kernel
theorem dL_law_278 : decode cL_law 278 = .ok (.aload_n 1, 1) := by decide +kernel
theorem dL_law_279 : decode cL_law 279 = .ok (.aload_n 0, 1) := by decide +kernel
theorem dL_law_280 : decode cL_law 280 = .ok (.iload_n 3, 1) := by decide +kernel
theorem dL_law_281 : decode cL_law 281 = .ok (.iconst 1, 1) := by decide +kernel
theorem dL_law_282 : decode cL_law 282 = .ok (.iadd, 1) := by decide +kernel
theorem dL_law_283 : decode cL_law 283 = .ok (.iaload, 1) := by decide +kernel
theorem dL_law_284 : decode cL_law 284 = .ok (.invokevirtual 32, 3) := by decide +kernel
theorem dL_law_287 : decode cL_law 287 = .ok (.aload_n 2, 1) := by decide +kernel
theorem dL_law_288 : decode cL_law 288 = .ok (.aload_n 0, 1) := by decide +kernel
theorem dL_law_289 : decode cL_law 289 = .ok (.iload_n 3, 1) := by decide +kernel
theorem dL_law_290 : decode cL_law 290 = .ok (.iconst 1, 1) := by decide +kernel
theorem dL_law_291 : decode cL_law 291 = .ok (.iadd, 1) := by decide +kernel
theorem dL_law_292 : decode cL_law 292 = .ok (.iaload, 1) := by decide +kernel
theorem dL_law_293 : decode cL_law 293 = .ok (.invokevirtual 35, 3) := by decide +kernel
theorem dL_law_296 : decode cL_law 296 = .ok (.if_icmp .eq 531, 3) := by decide +kernel
theorem dL_law_299 : decode cL_law 299 = .ok (.iconst 0, 1) := by decide +kernel
theorem dL_law_300 : decode cL_law 300 = .ok (.ireturn, 1) := by decide +kernel
theorem dL_law_301 : decode cL_law 301 = .ok (.aload_n 1, 1) := by decide +kernel
theorem dL_law_302 : decode cL_law 302 = .ok (.aload_n 0, 1) := by decide +kernel
theorem dL_law_303 : decode cL_law 303 = .ok (.iload_n 3, 1) := by decide +kernel
theorem dL_law_304 : decode cL_law 304 = .ok (.iconst 1, 1) := by decide +kernel
theorem dL_law_305 : decode cL_law 305 = .ok (.iadd, 1) := by decide +kernel
theorem dL_law_306 : decode cL_law 306 = .ok (.iaload, 1) := by decide +kernel
theorem dL_law_307 : decode cL_law 307 = .ok (.invokevirtual 36, 3) := by decide +kernel
theorem dL_law_310 : decode cL_law 310 = .ok (.aload_n 2, 1) := by decide +kernel
theorem dL_law_311 : decode cL_law 311 = .ok (.aload_n 0, 1) := by decide +kernel
theorem dL_law_312 : decode cL_law 312 = .ok (.iload_n 3, 1) := by decide +kernel
theorem dL_law_313 : decode cL_law 313 = .ok (.iconst 1, 1) := by decide +kernel
theorem dL_law_314 : decode cL_law 314 = .ok (.iadd, 1) := by decide +kernel
theorem dL_law_315 : decode cL_law 315 = .ok (.iaload, 1) := by decide +kernel
theorem dL_law_316 : decode cL_law 316 = .ok (.invokevirtual 39, 3) := by decide +kernel
theorem dL_law_319 : decode cL_law 319 = .ok (.if_icmp .eq 508, 3) := by decide +kernel
theorem dL_law_322 : decode cL_law 322 = .ok (.iconst 0, 1) := by decide +kernel
theorem dL_law_323 : decode cL_law 323 = .ok (.ireturn, 1) := by decide +kernel
theorem dL_law_324 : decode cL_law 324 = .ok (.aload_n 1, 1) := by decide +kernel
theorem dL_law_325 : decode cL_law 325 = .ok (.aload_n 0, 1) := by decide +kernel
theorem dL_law_326 : decode cL_law 326 = .ok (.iload_n 3, 1) := by decide +kernel
theorem dL_law_327 : decode cL_law 327 = .ok (.iconst 1, 1) := by decide +kernel
theorem dL_law_328 : decode cL_law 328 = .ok (.iadd, 1) := by decide +kernel
theorem dL_law_329 : decode cL_law 329 = .ok (.iaload, 1) := by decide +kernel
theorem dL_law_330 : decode cL_law 330 = .ok (.aload_n 0, 1) := by decide +kernel
theorem dL_law_331 : decode cL_law 331 = .ok (.iload_n 3, 1) := by decide +kernel
theorem dL_law_332 : decode cL_law 332 = .ok (.iconst 2, 1) := by decide +kernel
theorem dL_law_333 : decode cL_law 333 = .ok (.iadd, 1) := by decide +kernel
theorem dL_law_334 : decode cL_law 334 = .ok (.iaload, 1) := by decide +kernel
theorem dL_law_335 : decode cL_law 335 = .ok (.invokevirtual 40, 3) := by decide +kernel
theorem dL_law_338 : decode cL_law 338 = .ok (.aload_n 2, 1) := by decide +kernel
theorem dL_law_339 : decode cL_law 339 = .ok (.aload_n 0, 1) := by decide +kernel
theorem dL_law_340 : decode cL_law 340 = .ok (.iload_n 3, 1) := by decide +kernel
theorem dL_law_341 : decode cL_law 341 = .ok (.iconst 1, 1) := by decide +kernel
theorem dL_law_342 : decode cL_law 342 = .ok (.iadd, 1) := by decide +kernel
theorem dL_law_343 : decode cL_law 343 = .ok (.iaload, 1) := by decide +kernel
theorem dL_law_344 : decode cL_law 344 = .ok (.aload_n 0, 1) := by decide +kernel
theorem dL_law_345 : decode cL_law 345 = .ok (.iload_n 3, 1) := by decide +kernel
theorem dL_law_346 : decode cL_law 346 = .ok (.iconst 2, 1) := by decide +kernel
theorem dL_law_347 : decode cL_law 347 = .ok (.iadd, 1) := by decide +kernel
theorem dL_law_348 : decode cL_law 348 = .ok (.iaload, 1) := by decide +kernel
theorem dL_law_349 : decode cL_law 349 = .ok (.invokevirtual 43, 3) := by decide +kernel
theorem dL_law_352 : decode cL_law 352 = .ok (.if_icmp .eq 475, 3) := by decide +kernel
theorem dL_law_355 : decode cL_law 355 = .ok (.iconst 0, 1) := by decide +kernel
theorem dL_law_356 : decode cL_law 356 = .ok (.ireturn, 1) := by decide +kernel
theorem dL_law_357 : decode cL_law 357 = .ok (.aload_n 1, 1) := by decide +kernel
theorem dL_law_358 : decode cL_law 358 = .ok (.invokevirtual 44, 3) := by decide +kernel
theorem dL_law_361 : decode cL_law 361 = .ok (.aload_n 2, 1) := by decide +kernel
theorem dL_law_362 : decode cL_law 362 = .ok (.invokevirtual 48, 3) := by decide +kernel
theorem dL_law_365 : decode cL_law 365 = .ok (.if_icmp .eq 462, 3) := by decide +kernel
theorem dL_law_368 : decode cL_law 368 = .ok (.iconst 0, 1) := by decide +kernel
theorem dL_law_369 : decode cL_law 369 = .ok (.ireturn, 1) := by decide +kernel
theorem dL_law_370 : decode cL_law 370 = .ok (.aload_n 1, 1) := by decide +kernel
theorem dL_law_371 : decode cL_law 371 = .ok (.aload_n 0, 1) := by decide +kernel
theorem dL_law_372 : decode cL_law 372 = .ok (.iload_n 3, 1) := by decide +kernel
theorem dL_law_373 : decode cL_law 373 = .ok (.iconst 1, 1) := by decide +kernel
theorem dL_law_374 : decode cL_law 374 = .ok (.iadd, 1) := by decide +kernel
theorem dL_law_375 : decode cL_law 375 = .ok (.iaload, 1) := by decide +kernel
theorem dL_law_376 : decode cL_law 376 = .ok (.invokevirtual 49, 3) := by decide +kernel
theorem dL_law_379 : decode cL_law 379 = .ok (.aload_n 2, 1) := by decide +kernel
theorem dL_law_380 : decode cL_law 380 = .ok (.aload_n 0, 1) := by decide +kernel
theorem dL_law_381 : decode cL_law 381 = .ok (.iload_n 3, 1) := by decide +kernel
theorem dL_law_382 : decode cL_law 382 = .ok (.iconst 1, 1) := by decide +kernel
theorem dL_law_383 : decode cL_law 383 = .ok (.iadd, 1) := by decide +kernel
theorem dL_law_384 : decode cL_law 384 = .ok (.iaload, 1) := by decide +kernel
theorem dL_law_385 : decode cL_law 385 = .ok (.invokevirtual 52, 3) := by decide +kernel
theorem dL_law_388 : decode cL_law 388 = .ok (.if_icmp .eq 439, 3) := by decide +kernel
theorem dL_law_391 : decode cL_law 391 = .ok (.iconst 0, 1) := by decide +kernel
theorem dL_law_392 : decode cL_law 392 = .ok (.ireturn, 1) := by decide +kernel
theorem dL_law_393 : decode cL_law 393 = .ok (.aload_n 1, 1) := by decide +kernel
theorem dL_law_394 : decode cL_law 394 = .ok (.invokevirtual 53, 3) := by decide +kernel
theorem dL_law_397 : decode cL_law 397 = .ok (.aload_n 2, 1) := by decide +kernel
theorem dL_law_398 : decode cL_law 398 = .ok (.invokevirtual 56, 3) := by decide +kernel
theorem dL_law_401 : decode cL_law 401 = .ok (.if_icmp .eq 426, 3) := by decide +kernel
theorem dL_law_404 : decode cL_law 404 = .ok (.iconst 0, 1) := by decide +kernel
theorem dL_law_405 : decode cL_law 405 = .ok (.ireturn, 1) := by decide +kernel
theorem dL_law_406 : decode cL_law 406 = .ok (.aload_n 1, 1) := by decide +kernel
theorem dL_law_407 : decode cL_law 407 = .ok (.aload_n 0, 1) := by decide +kernel
theorem dL_law_408 : decode cL_law 408 = .ok (.iload_n 3, 1) := by decide +kernel
theorem dL_law_409 : decode cL_law 409 = .ok (.iconst 1, 1) := by decide +kernel
theorem dL_law_410 : decode cL_law 410 = .ok (.iadd, 1) := by decide +kernel
theorem dL_law_411 : decode cL_law 411 = .ok (.iaload, 1) := by decide +kernel
theorem dL_law_412 : decode cL_law 412 = .ok (.aload_n 0, 1) := by decide +kernel
theorem dL_law_413 : decode cL_law 413 = .ok (.iload_n 3, 1) := by decide +kernel
theorem dL_law_414 : decode cL_law 414 = .ok (.iconst 2, 1) := by decide +kernel
theorem dL_law_415 : decode cL_law 415 = .ok (.iadd, 1) := by decide +kernel
theorem dL_law_416 : decode cL_law 416 = .ok (.iaload, 1) := by decide +kernel
theorem dL_law_417 : decode cL_law 417 = .ok (.invokevirtual 57, 3) := by decide +kernel
theorem dL_law_420 : decode cL_law 420 = .ok (.aload_n 2, 1) := by decide +kernel
theorem dL_law_421 : decode cL_law 421 = .ok (.aload_n 0, 1) := by decide +kernel
theorem dL_law_422 : decode cL_law 422 = .ok (.iload_n 3, 1) := by decide +kernel
theorem dL_law_423 : decode cL_law 423 = .ok (.iconst 1, 1) := by decide +kernel
theorem dL_law_424 : decode cL_law 424 = .ok (.iadd, 1) := by decide +kernel
theorem dL_law_425 : decode cL_law 425 = .ok (.iaload, 1) := by decide +kernel
theorem dL_law_426 : decode cL_law 426 = .ok (.aload_n 0, 1) := by decide +kernel
theorem dL_law_427 : decode cL_law 427 = .ok (.iload_n 3, 1) := by decide +kernel
theorem dL_law_428 : decode cL_law 428 = .ok (.iconst 2, 1) := by decide +kernel
theorem dL_law_429 : decode cL_law 429 = .ok (.iadd, 1) := by decide +kernel
theorem dL_law_430 : decode cL_law 430 = .ok (.iaload, 1) := by decide +kernel
theorem dL_law_431 : decode cL_law 431 = .ok (.invokevirtual 60, 3) := by decide +kernel
theorem dL_law_434 : decode cL_law 434 = .ok (.if_icmp .eq 393, 3) := by decide +kernel
theorem dL_law_437 : decode cL_law 437 = .ok (.iconst 0, 1) := by decide +kernel
theorem dL_law_438 : decode cL_law 438 = .ok (.ireturn, 1) := by decide +kernel
theorem dL_law_439 : decode cL_law 439 = .ok (.aload_n 1, 1) := by decide +kernel
theorem dL_law_440 : decode cL_law 440 = .ok (.aload_n 0, 1) := by decide +kernel
theorem dL_law_441 : decode cL_law 441 = .ok (.iload_n 3, 1) := by decide +kernel
theorem dL_law_442 : decode cL_law 442 = .ok (.iconst 1, 1) := by decide +kernel
theorem dL_law_443 : decode cL_law 443 = .ok (.iadd, 1) := by decide +kernel
theorem dL_law_444 : decode cL_law 444 = .ok (.iaload, 1) := by decide +kernel
theorem dL_law_445 : decode cL_law 445 = .ok (.aload_n 0, 1) := by decide +kernel
theorem dL_law_446 : decode cL_law 446 = .ok (.iload_n 3, 1) := by decide +kernel
theorem dL_law_447 : decode cL_law 447 = .ok (.iconst 2, 1) := by decide +kernel
theorem dL_law_448 : decode cL_law 448 = .ok (.iadd, 1) := by decide +kernel
theorem dL_law_449 : decode cL_law 449 = .ok (.iaload, 1) := by decide +kernel
theorem dL_law_450 : decode cL_law 450 = .ok (.invokevirtual 61, 3) := by decide +kernel
theorem dL_law_453 : decode cL_law 453 = .ok (.aload_n 2, 1) := by decide +kernel
theorem dL_law_454 : decode cL_law 454 = .ok (.aload_n 0, 1) := by decide +kernel
theorem dL_law_455 : decode cL_law 455 = .ok (.iload_n 3, 1) := by decide +kernel
theorem dL_law_456 : decode cL_law 456 = .ok (.iconst 1, 1) := by decide +kernel
theorem dL_law_457 : decode cL_law 457 = .ok (.iadd, 1) := by decide +kernel
theorem dL_law_458 : decode cL_law 458 = .ok (.iaload, 1) := by decide +kernel
theorem dL_law_459 : decode cL_law 459 = .ok (.aload_n 0, 1) := by decide +kernel
theorem dL_law_460 : decode cL_law 460 = .ok (.iload_n 3, 1) := by decide +kernel
theorem dL_law_461 : decode cL_law 461 = .ok (.iconst 2, 1) := by decide +kernel
theorem dL_law_462 : decode cL_law 462 = .ok (.iadd, 1) := by decide +kernel
theorem dL_law_463 : decode cL_law 463 = .ok (.iaload, 1) := by decide +kernel
theorem dL_law_464 : decode cL_law 464 = .ok (.invokevirtual 64, 3) := by decide +kernel
theorem dL_law_467 : decode cL_law 467 = .ok (.if_icmp .eq 360, 3) := by decide +kernel
theorem dL_law_470 : decode cL_law 470 = .ok (.iconst 0, 1) := by decide +kernel
theorem dL_law_471 : decode cL_law 471 = .ok (.ireturn, 1) := by decide +kernel
theorem dL_law_472 : decode cL_law 472 = .ok (.aload_n 1, 1) := by decide +kernel
end
section
theorem dL_law_473 : decode cL_law 473 = .ok (.aload_n 0, 1) := by decide +kernel
theorem dL_law_474 : decode cL_law 474 = .ok (.iload_n 3, 1) := by decide +kernel
theorem dL_law_475 : decode cL_law 475 = .ok (.iconst 1, 1) := by decide +kernel
theorem dL_law_476 : decode cL_law 476 = .ok (.iadd, 1) := by decide +kernel
theorem dL_law_477 : decode cL_law 477 = .ok (.iaload, 1) := by decide +kernel
theorem dL_law_478 : decode cL_law 478 = .ok (.aload_n 0, 1) := by decide +kernel
theorem dL_law_479 : decode cL_law 479 = .ok (.iload_n 3, 1) := by decide +kernel
theorem dL_law_480 : decode cL_law 480 = .ok (.iconst 2, 1) := by decide +kernel
theorem dL_law_481 : decode cL_law 481 = .ok (.iadd, 1) := by decide +kernel
theorem dL_law_482 : decode cL_law 482 = .ok (.iaload, 1) := by decide +kernel
theorem dL_law_483 : decode cL_law 483 = .ok (.invokevirtual 65, 3) := by decide +kernel
theorem dL_law_486 : decode cL_law 486 = .ok (.aload_n 2, 1) := by decide +kernel
theorem dL_law_487 : decode cL_law 487 = .ok (.aload_n 0, 1) := by decide +kernel
theorem dL_law_488 : decode cL_law 488 = .ok (.iload_n 3, 1) := by decide +kernel
theorem dL_law_489 : decode cL_law 489 = .ok (.iconst 1, 1) := by decide +kernel
theorem dL_law_490 : decode cL_law 490 = .ok (.iadd, 1) := by decide +kernel
theorem dL_law_491 : decode cL_law 491 = .ok (.iaload, 1) := by decide +kernel
theorem dL_law_492 : decode cL_law 492 = .ok (.aload_n 0, 1) := by decide +kernel
theorem dL_law_493 : decode cL_law 493 = .ok (.iload_n 3, 1) := by decide +kernel
theorem dL_law_494 : decode cL_law 494 = .ok (.iconst 2, 1) := by decide +kernel
theorem dL_law_495 : decode cL_law 495 = .ok (.iadd, 1) := by decide +kernel
theorem dL_law_496 : decode cL_law 496 = .ok (.iaload, 1) := by decide +kernel
theorem dL_law_497 : decode cL_law 497 = .ok (.invokevirtual 68, 3) := by decide +kernel
theorem dL_law_500 : decode cL_law 500 = .ok (.if_icmp .eq 327, 3) := by decide +kernel
theorem dL_law_503 : decode cL_law 503 = .ok (.iconst 0, 1) := by decide +kernel
theorem dL_law_504 : decode cL_law 504 = .ok (.ireturn, 1) := by decide +kernel
theorem dL_law_505 : decode cL_law 505 = .ok (.aload_n 1, 1) := by decide +kernel
theorem dL_law_506 : decode cL_law 506 = .ok (.aload_n 0, 1) := by decide +kernel
theorem dL_law_507 : decode cL_law 507 = .ok (.iload_n 3, 1) := by decide +kernel
theorem dL_law_508 : decode cL_law 508 = .ok (.iconst 1, 1) := by decide +kernel
theorem dL_law_509 : decode cL_law 509 = .ok (.iadd, 1) := by decide +kernel
theorem dL_law_510 : decode cL_law 510 = .ok (.iaload, 1) := by decide +kernel
theorem dL_law_511 : decode cL_law 511 = .ok (.invokevirtual 69, 3) := by decide +kernel
theorem dL_law_514 : decode cL_law 514 = .ok (.aload_n 2, 1) := by decide +kernel
theorem dL_law_515 : decode cL_law 515 = .ok (.aload_n 0, 1) := by decide +kernel
theorem dL_law_516 : decode cL_law 516 = .ok (.iload_n 3, 1) := by decide +kernel
theorem dL_law_517 : decode cL_law 517 = .ok (.iconst 1, 1) := by decide +kernel
theorem dL_law_518 : decode cL_law 518 = .ok (.iadd, 1) := by decide +kernel
theorem dL_law_519 : decode cL_law 519 = .ok (.iaload, 1) := by decide +kernel
theorem dL_law_520 : decode cL_law 520 = .ok (.invokevirtual 72, 3) := by decide +kernel
theorem dL_law_523 : decode cL_law 523 = .ok (.if_icmp .eq 304, 3) := by decide +kernel
theorem dL_law_526 : decode cL_law 526 = .ok (.iconst 0, 1) := by decide +kernel
theorem dL_law_527 : decode cL_law 527 = .ok (.ireturn, 1) := by decide +kernel
theorem dL_law_528 : decode cL_law 528 = .ok (.aload_n 1, 1) := by decide +kernel
theorem dL_law_529 : decode cL_law 529 = .ok (.aload_n 0, 1) := by decide +kernel
theorem dL_law_530 : decode cL_law 530 = .ok (.iload_n 3, 1) := by decide +kernel
theorem dL_law_531 : decode cL_law 531 = .ok (.iconst 1, 1) := by decide +kernel
theorem dL_law_532 : decode cL_law 532 = .ok (.iadd, 1) := by decide +kernel
theorem dL_law_533 : decode cL_law 533 = .ok (.iaload, 1) := by decide +kernel
theorem dL_law_534 : decode cL_law 534 = .ok (.aload_n 0, 1) := by decide +kernel
theorem dL_law_535 : decode cL_law 535 = .ok (.iload_n 3, 1) := by decide +kernel
theorem dL_law_536 : decode cL_law 536 = .ok (.iconst 2, 1) := by decide +kernel
theorem dL_law_537 : decode cL_law 537 = .ok (.iadd, 1) := by decide +kernel
theorem dL_law_538 : decode cL_law 538 = .ok (.iaload, 1) := by decide +kernel
theorem dL_law_539 : decode cL_law 539 = .ok (.invokevirtual 73, 3) := by decide +kernel
theorem dL_law_542 : decode cL_law 542 = .ok (.aload_n 2, 1) := by decide +kernel
theorem dL_law_543 : decode cL_law 543 = .ok (.aload_n 0, 1) := by decide +kernel
theorem dL_law_544 : decode cL_law 544 = .ok (.iload_n 3, 1) := by decide +kernel
theorem dL_law_545 : decode cL_law 545 = .ok (.iconst 1, 1) := by decide +kernel
theorem dL_law_546 : decode cL_law 546 = .ok (.iadd, 1) := by decide +kernel
theorem dL_law_547 : decode cL_law 547 = .ok (.iaload, 1) := by decide +kernel
theorem dL_law_548 : decode cL_law 548 = .ok (.aload_n 0, 1) := by decide +kernel
theorem dL_law_549 : decode cL_law 549 = .ok (.iload_n 3, 1) := by decide +kernel
theorem dL_law_550 : decode cL_law 550 = .ok (.iconst 2, 1) := by decide +kernel
theorem dL_law_551 : decode cL_law 551 = .ok (.iadd, 1) := by decide +kernel
theorem dL_law_552 : decode cL_law 552 = .ok (.iaload, 1) := by decide +kernel
theorem dL_law_553 : decode cL_law 553 = .ok (.invokevirtual 76, 3) := by decide +kernel
theorem dL_law_556 : decode cL_law 556 = .ok (.if_icmp .eq 271, 3) := by decide +kernel
theorem dL_law_559 : decode cL_law 559 = .ok (.iconst 0, 1) := by decide +kernel
theorem dL_law_560 : decode cL_law 560 = .ok (.ireturn, 1) := by decide +kernel
theorem dL_law_561 : decode cL_law 561 = .ok (.aload_n 1, 1) := by decide +kernel
theorem dL_law_562 : decode cL_law 562 = .ok (.aload_n 0, 1) := by decide +kernel
theorem dL_law_563 : decode cL_law 563 = .ok (.iload_n 3, 1) := by decide +kernel
theorem dL_law_564 : decode cL_law 564 = .ok (.iconst 1, 1) := by decide +kernel
theorem dL_law_565 : decode cL_law 565 = .ok (.iadd, 1) := by decide +kernel
theorem dL_law_566 : decode cL_law 566 = .ok (.iaload, 1) := by decide +kernel
theorem dL_law_567 : decode cL_law 567 = .ok (.aload_n 0, 1) := by decide +kernel
theorem dL_law_568 : decode cL_law 568 = .ok (.iload_n 3, 1) := by decide +kernel
theorem dL_law_569 : decode cL_law 569 = .ok (.iconst 2, 1) := by decide +kernel
theorem dL_law_570 : decode cL_law 570 = .ok (.iadd, 1) := by decide +kernel
theorem dL_law_571 : decode cL_law 571 = .ok (.iaload, 1) := by decide +kernel
theorem dL_law_572 : decode cL_law 572 = .ok (.invokevirtual 77, 3) := by decide +kernel
theorem dL_law_575 : decode cL_law 575 = .ok (.aload_n 2, 1) := by decide +kernel
theorem dL_law_576 : decode cL_law 576 = .ok (.aload_n 0, 1) := by decide +kernel
theorem dL_law_577 : decode cL_law 577 = .ok (.iload_n 3, 1) := by decide +kernel
theorem dL_law_578 : decode cL_law 578 = .ok (.iconst 1, 1) := by decide +kernel
theorem dL_law_579 : decode cL_law 579 = .ok (.iadd, 1) := by decide +kernel
theorem dL_law_580 : decode cL_law 580 = .ok (.iaload, 1) := by decide +kernel
theorem dL_law_581 : decode cL_law 581 = .ok (.aload_n 0, 1) := by decide +kernel
theorem dL_law_582 : decode cL_law 582 = .ok (.iload_n 3, 1) := by decide +kernel
theorem dL_law_583 : decode cL_law 583 = .ok (.iconst 2, 1) := by decide +kernel
theorem dL_law_584 : decode cL_law 584 = .ok (.iadd, 1) := by decide +kernel
theorem dL_law_585 : decode cL_law 585 = .ok (.iaload, 1) := by decide +kernel
theorem dL_law_586 : decode cL_law 586 = .ok (.invokevirtual 80, 3) := by decide +kernel
theorem dL_law_589 : decode cL_law 589 = .ok (.if_icmp .eq 238, 3) := by decide +kernel
theorem dL_law_592 : decode cL_law 592 = .ok (.iconst 0, 1) := by decide +kernel
theorem dL_law_593 : decode cL_law 593 = .ok (.ireturn, 1) := by decide +kernel
theorem dL_law_594 : decode cL_law 594 = .ok (.aload_n 1, 1) := by decide +kernel
theorem dL_law_595 : decode cL_law 595 = .ok (.aload_n 0, 1) := by decide +kernel
theorem dL_law_596 : decode cL_law 596 = .ok (.iload_n 3, 1) := by decide +kernel
theorem dL_law_597 : decode cL_law 597 = .ok (.iconst 1, 1) := by decide +kernel
theorem dL_law_598 : decode cL_law 598 = .ok (.iadd, 1) := by decide +kernel
theorem dL_law_599 : decode cL_law 599 = .ok (.iaload, 1) := by decide +kernel
theorem dL_law_600 : decode cL_law 600 = .ok (.invokevirtual 81, 3) := by decide +kernel
theorem dL_law_603 : decode cL_law 603 = .ok (.aload_n 2, 1) := by decide +kernel
theorem dL_law_604 : decode cL_law 604 = .ok (.aload_n 0, 1) := by decide +kernel
theorem dL_law_605 : decode cL_law 605 = .ok (.iload_n 3, 1) := by decide +kernel
theorem dL_law_606 : decode cL_law 606 = .ok (.iconst 1, 1) := by decide +kernel
theorem dL_law_607 : decode cL_law 607 = .ok (.iadd, 1) := by decide +kernel
theorem dL_law_608 : decode cL_law 608 = .ok (.iaload, 1) := by decide +kernel
theorem dL_law_609 : decode cL_law 609 = .ok (.invokevirtual 84, 3) := by decide +kernel
theorem dL_law_612 : decode cL_law 612 = .ok (.if_icmp .eq 215, 3) := by decide +kernel
theorem dL_law_615 : decode cL_law 615 = .ok (.iconst 0, 1) := by decide +kernel
theorem dL_law_616 : decode cL_law 616 = .ok (.ireturn, 1) := by decide +kernel
theorem dL_law_617 : decode cL_law 617 = .ok (.aload_n 1, 1) := by decide +kernel
theorem dL_law_618 : decode cL_law 618 = .ok (.invokevirtual 85, 3) := by decide +kernel
theorem dL_law_621 : decode cL_law 621 = .ok (.aload_n 2, 1) := by decide +kernel
theorem dL_law_622 : decode cL_law 622 = .ok (.invokevirtual 88, 3) := by decide +kernel
theorem dL_law_625 : decode cL_law 625 = .ok (.if_icmp .eq 202, 3) := by decide +kernel
theorem dL_law_628 : decode cL_law 628 = .ok (.iconst 0, 1) := by decide +kernel
theorem dL_law_629 : decode cL_law 629 = .ok (.ireturn, 1) := by decide +kernel
theorem dL_law_630 : decode cL_law 630 = .ok (.aload_n 1, 1) := by decide +kernel
theorem dL_law_631 : decode cL_law 631 = .ok (.aload_n 0, 1) := by decide +kernel
theorem dL_law_632 : decode cL_law 632 = .ok (.iload_n 3, 1) := by decide +kernel
theorem dL_law_633 : decode cL_law 633 = .ok (.iconst 1, 1) := by decide +kernel
theorem dL_law_634 : decode cL_law 634 = .ok (.iadd, 1) := by decide +kernel
theorem dL_law_635 : decode cL_law 635 = .ok (.iaload, 1) := by decide +kernel
theorem dL_law_636 : decode cL_law 636 = .ok (.invokevirtual 89, 3) := by decide +kernel
theorem dL_law_639 : decode cL_law 639 = .ok (.aload_n 2, 1) := by decide +kernel
theorem dL_law_640 : decode cL_law 640 = .ok (.aload_n 0, 1) := by decide +kernel
theorem dL_law_641 : decode cL_law 641 = .ok (.iload_n 3, 1) := by decide +kernel
theorem dL_law_642 : decode cL_law 642 = .ok (.iconst 1, 1) := by decide +kernel
theorem dL_law_643 : decode cL_law 643 = .ok (.iadd, 1) := by decide +kernel
theorem dL_law_644 : decode cL_law 644 = .ok (.iaload, 1) := by decide +kernel
theorem dL_law_645 : decode cL_law 645 = .ok (.invokevirtual 92, 3) := by decide +kernel
theorem dL_law_648 : decode cL_law 648 = .ok (.if_icmp .eq 179, 3) := by decide +kernel
theorem dL_law_651 : decode cL_law 651 = .ok (.iconst 0, 1) := by decide +kernel
theorem dL_law_652 : decode cL_law 652 = .ok (.ireturn, 1) := by decide +kernel
theorem dL_law_653 : decode cL_law 653 = .ok (.aload_n 1, 1) := by decide +kernel
theorem dL_law_654 : decode cL_law 654 = .ok (.aload_n 0, 1) := by decide +kernel
theorem dL_law_655 : decode cL_law 655 = .ok (.iload_n 3, 1) := by decide +kernel
theorem dL_law_656 : decode cL_law 656 = .ok (.iconst 1, 1) := by decide +kernel
theorem dL_law_657 : decode cL_law 657 = .ok (.iadd, 1) := by decide +kernel
theorem dL_law_658 : decode cL_law 658 = .ok (.iaload, 1) := by decide +kernel
theorem dL_law_659 : decode cL_law 659 = .ok (.invokevirtual 93, 3) := by decide +kernel
theorem dL_law_662 : decode cL_law 662 = .ok (.aload_n 2, 1) := by decide +kernel
theorem dL_law_663 : decode cL_law 663 = .ok (.aload_n 0, 1) := by decide +kernel
theorem dL_law_664 : decode cL_law 664 = .ok (.iload_n 3, 1) := by decide +kernel
theorem dL_law_665 : decode cL_law 665 = .ok (.iconst 1, 1) := by decide +kernel
theorem dL_law_666 : decode cL_law 666 = .ok (.iadd, 1) := by decide +kernel
theorem dL_law_667 : decode cL_law 667 = .ok (.iaload, 1) := by decide +kernel
theorem dL_law_668 : decode cL_law 668 = .ok (.invokevirtual 96, 3) := by decide +kernel
theorem dL_law_671 : decode cL_law 671 = .ok (.if_icmp .eq 156, 3) := by decide +kernel
theorem dL_law_674 : decode cL_law 674 = .ok (.iconst 0, 1) := by decide +kernel
theorem dL_law_675 : decode cL_law 675 = .ok (.ireturn, 1) := by decide +kernel
theorem dL_law_676 : decode cL_law 676 = .ok (.aload_n 1, 1) := by decide +kernel
theorem dL_law_677 : decode cL_law 677 = .ok (.aload_n 0, 1) := by decide +kernel
theorem dL_law_678 : decode cL_law 678 = .ok (.iload_n 3, 1) := by decide +kernel
theorem dL_law_679 : decode cL_law 679 = .ok (.iconst 1, 1) := by decide +kernel
theorem dL_law_680 : decode cL_law 680 = .ok (.iadd, 1) := by decide +kernel
theorem dL_law_681 : decode cL_law 681 = .ok (.iaload, 1) := by decide +kernel
theorem dL_law_682 : decode cL_law 682 = .ok (.i2l, 1) := by decide +kernel
theorem dL_law_683 : decode cL_law 683 = .ok (.bipush 32, 2) := by decide +kernel
theorem dL_law_685 : decode cL_law 685 = .ok (.lshl, 1) := by decide +kernel
theorem dL_law_686 : decode cL_law 686 = .ok (.aload_n 0, 1) := by decide +kernel
theorem dL_law_687 : decode cL_law 687 = .ok (.iload_n 3, 1) := by decide +kernel
theorem dL_law_688 : decode cL_law 688 = .ok (.iconst 2, 1) := by decide +kernel
theorem dL_law_689 : decode cL_law 689 = .ok (.iadd, 1) := by decide +kernel
theorem dL_law_690 : decode cL_law 690 = .ok (.iaload, 1) := by decide +kernel
theorem dL_law_691 : decode cL_law 691 = .ok (.i2l, 1) := by decide +kernel
theorem dL_law_692 : decode cL_law 692 = .ok (.ldc2_w 97, 3) := by decide +kernel
theorem dL_law_695 : decode cL_law 695 = .ok (.land, 1) := by decide +kernel
theorem dL_law_696 : decode cL_law 696 = .ok (.lor, 1) := by decide +kernel
theorem dL_law_697 : decode cL_law 697 = .ok (.invokevirtual 99, 3) := by decide +kernel
theorem dL_law_700 : decode cL_law 700 = .ok (.aload_n 2, 1) := by decide +kernel
theorem dL_law_701 : decode cL_law 701 = .ok (.aload_n 0, 1) := by decide +kernel
theorem dL_law_702 : decode cL_law 702 = .ok (.iload_n 3, 1) := by decide +kernel
theorem dL_law_703 : decode cL_law 703 = .ok (.iconst 1, 1) := by decide +kernel
theorem dL_law_704 : decode cL_law 704 = .ok (.iadd, 1) := by decide +kernel
theorem dL_law_705 : decode cL_law 705 = .ok (.iaload, 1) := by decide +kernel
theorem dL_law_706 : decode cL_law 706 = .ok (.i2l, 1) := by decide +kernel
theorem dL_law_707 : decode cL_law 707 = .ok (.bipush 32, 2) := by decide +kernel
theorem dL_law_709 : decode cL_law 709 = .ok (.lshl, 1) := by decide +kernel
theorem dL_law_710 : decode cL_law 710 = .ok (.aload_n 0, 1) := by decide +kernel
theorem dL_law_711 : decode cL_law 711 = .ok (.iload_n 3, 1) := by decide +kernel
theorem dL_law_712 : decode cL_law 712 = .ok (.iconst 2, 1) := by decide +kernel
theorem dL_law_713 : decode cL_law 713 = .ok (.iadd, 1) := by decide +kernel
theorem dL_law_714 : decode cL_law 714 = .ok (.iaload, 1) := by decide +kernel
theorem dL_law_715 : decode cL_law 715 = .ok (.i2l, 1) := by decide +kernel
theorem dL_law_716 : decode cL_law 716 = .ok (.ldc2_w 97, 3) := by decide +kernel
theorem dL_law_719 : decode cL_law 719 = .ok (.land, 1) := by decide +kernel
theorem dL_law_720 : decode cL_law 720 = .ok (.lor, 1) := by decide +kernel
theorem dL_law_721 : decode cL_law 721 = .ok (.invokevirtual 103, 3) := by decide +kernel
theorem dL_law_724 : decode cL_law 724 = .ok (.if_icmp .eq 103, 3) := by decide +kernel
theorem dL_law_727 : decode cL_law 727 = .ok (.iconst 0, 1) := by decide +kernel
theorem dL_law_728 : decode cL_law 728 = .ok (.ireturn, 1) := by decide +kernel
theorem dL_law_729 : decode cL_law 729 = .ok (.aload_n 1, 1) := by decide +kernel
theorem dL_law_730 : decode cL_law 730 = .ok (.invokevirtual 104, 3) := by decide +kernel
theorem dL_law_733 : decode cL_law 733 = .ok (.aload_n 2, 1) := by decide +kernel
theorem dL_law_734 : decode cL_law 734 = .ok (.invokevirtual 107, 3) := by decide +kernel
theorem dL_law_737 : decode cL_law 737 = .ok (.if_icmp .eq 90, 3) := by decide +kernel
theorem dL_law_740 : decode cL_law 740 = .ok (.iconst 0, 1) := by decide +kernel
theorem dL_law_741 : decode cL_law 741 = .ok (.ireturn, 1) := by decide +kernel
theorem dL_law_742 : decode cL_law 742 = .ok (.aload_n 1, 1) := by decide +kernel
theorem dL_law_743 : decode cL_law 743 = .ok (.invokevirtual 108, 3) := by decide +kernel
theorem dL_law_746 : decode cL_law 746 = .ok (.aload_n 2, 1) := by decide +kernel
theorem dL_law_747 : decode cL_law 747 = .ok (.invokevirtual 111, 3) := by decide +kernel
theorem dL_law_750 : decode cL_law 750 = .ok (.if_icmp .eq 77, 3) := by decide +kernel
theorem dL_law_753 : decode cL_law 753 = .ok (.iconst 0, 1) := by decide +kernel
theorem dL_law_754 : decode cL_law 754 = .ok (.ireturn, 1) := by decide +kernel
theorem dL_law_755 : decode cL_law 755 = .ok (.aload_n 1, 1) := by decide +kernel
theorem dL_law_756 : decode cL_law 756 = .ok (.invokevirtual 112, 3) := by decide +kernel
theorem dL_law_759 : decode cL_law 759 = .ok (.aload_n 2, 1) := by decide +kernel
theorem dL_law_760 : decode cL_law 760 = .ok (.invokevirtual 115, 3) := by decide +kernel
theorem dL_law_763 : decode cL_law 763 = .ok (.if_icmp .eq 64, 3) := by decide +kernel
theorem dL_law_766 : decode cL_law 766 = .ok (.iconst 0, 1) := by decide +kernel
theorem dL_law_767 : decode cL_law 767 = .ok (.ireturn, 1) := by decide +kernel
theorem dL_law_768 : decode cL_law 768 = .ok (.aload_n 1, 1) := by decide +kernel
theorem dL_law_769 : decode cL_law 769 = .ok (.invokevirtual 116, 3) := by decide +kernel
theorem dL_law_772 : decode cL_law 772 = .ok (.aload_n 2, 1) := by decide +kernel
theorem dL_law_773 : decode cL_law 773 = .ok (.invokevirtual 119, 3) := by decide +kernel
theorem dL_law_776 : decode cL_law 776 = .ok (.if_icmp .eq 51, 3) := by decide +kernel
theorem dL_law_779 : decode cL_law 779 = .ok (.iconst 0, 1) := by decide +kernel
theorem dL_law_780 : decode cL_law 780 = .ok (.ireturn, 1) := by decide +kernel
theorem dL_law_781 : decode cL_law 781 = .ok (.aload_n 1, 1) := by decide +kernel
theorem dL_law_782 : decode cL_law 782 = .ok (.aload_n 0, 1) := by decide +kernel
theorem dL_law_783 : decode cL_law 783 = .ok (.iload_n 3, 1) := by decide +kernel
theorem dL_law_784 : decode cL_law 784 = .ok (.iconst 1, 1) := by decide +kernel
theorem dL_law_785 : decode cL_law 785 = .ok (.iadd, 1) := by decide +kernel
theorem dL_law_786 : decode cL_law 786 = .ok (.iaload, 1) := by decide +kernel
theorem dL_law_787 : decode cL_law 787 = .ok (.invokevirtual 120, 3) := by decide +kernel
theorem dL_law_790 : decode cL_law 790 = .ok (.aload_n 2, 1) := by decide +kernel
theorem dL_law_791 : decode cL_law 791 = .ok (.aload_n 0, 1) := by decide +kernel
theorem dL_law_792 : decode cL_law 792 = .ok (.iload_n 3, 1) := by decide +kernel
theorem dL_law_793 : decode cL_law 793 = .ok (.iconst 1, 1) := by decide +kernel
theorem dL_law_794 : decode cL_law 794 = .ok (.iadd, 1) := by decide +kernel
theorem dL_law_795 : decode cL_law 795 = .ok (.iaload, 1) := by decide +kernel
theorem dL_law_796 : decode cL_law 796 = .ok (.invokevirtual 123, 3) := by decide +kernel
theorem dL_law_799 : decode cL_law 799 = .ok (.if_icmp .eq 28, 3) := by decide +kernel
theorem dL_law_802 : decode cL_law 802 = .ok (.iconst 0, 1) := by decide +kernel
theorem dL_law_803 : decode cL_law 803 = .ok (.ireturn, 1) := by decide +kernel
theorem dL_law_804 : decode cL_law 804 = .ok (.aload_n 1, 1) := by decide +kernel
theorem dL_law_805 : decode cL_law 805 = .ok (.aload_n 0, 1) := by decide +kernel
theorem dL_law_806 : decode cL_law 806 = .ok (.iload_n 3, 1) := by decide +kernel
theorem dL_law_807 : decode cL_law 807 = .ok (.iconst 1, 1) := by decide +kernel
theorem dL_law_808 : decode cL_law 808 = .ok (.iadd, 1) := by decide +kernel
theorem dL_law_809 : decode cL_law 809 = .ok (.iaload, 1) := by decide +kernel
theorem dL_law_810 : decode cL_law 810 = .ok (.invokevirtual 124, 3) := by decide +kernel
theorem dL_law_813 : decode cL_law 813 = .ok (.aload_n 2, 1) := by decide +kernel
theorem dL_law_814 : decode cL_law 814 = .ok (.aload_n 0, 1) := by decide +kernel
theorem dL_law_815 : decode cL_law 815 = .ok (.iload_n 3, 1) := by decide +kernel
theorem dL_law_816 : decode cL_law 816 = .ok (.iconst 1, 1) := by decide +kernel
theorem dL_law_817 : decode cL_law 817 = .ok (.iadd, 1) := by decide +kernel
theorem dL_law_818 : decode cL_law 818 = .ok (.iaload, 1) := by decide +kernel
theorem dL_law_819 : decode cL_law 819 = .ok (.invokevirtual 127, 3) := by decide +kernel
theorem dL_law_822 : decode cL_law 822 = .ok (.if_icmp .eq 5, 3) := by decide +kernel
theorem dL_law_825 : decode cL_law 825 = .ok (.iconst 0, 1) := by decide +kernel
theorem dL_law_826 : decode cL_law 826 = .ok (.ireturn, 1) := by decide +kernel
theorem dL_law_827 : decode cL_law 827 = .ok (.iinc 3 4, 3) := by decide +kernel
theorem dL_law_830 : decode cL_law 830 = .ok (.goto (-812), 3) := by decide +kernel
theorem dL_law_833 : decode cL_law 833 = .ok (.iconst 1, 1) := by decide +kernel
theorem dL_law_834 : decode cL_law 834 = .ok (.ireturn, 1) := by decide +kernel
end
section
theorem zz_last : True := trivial
end
