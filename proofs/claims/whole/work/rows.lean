section
-- ===== PART A: goes FIRST, ahead of the names: the tables' words, and 'selects' of the private methods out of them =====
/-- a private method of a class that the tables say can be made, by its rows of tables_1 -/
def lw_okq (q : MethodName × Nat) : Prop := (q.1.cls ≠ "java/lang/invoke/MethodHandle" ∧ q.1.cls ≠ "java/lang/invoke/VarHandle") ∧ Cond.instantiable q.1.cls q.2 ∈ tables_1 ∧ Cond.privateMethod q.1 ∈ tables_1 ∧ Cond.instanceMethod q.1 ∈ tables_1
theorem lw_p0 : lw_okq (⟨"RopeFerry$State", "mostUrging", "(I)I"⟩, 15) := ⟨⟨by decide +kernel, by decide +kernel⟩, List.mem_of_getElem? (i := 100) (by decide +kernel), List.mem_of_getElem? (i := 369) (by decide +kernel), List.mem_of_getElem? (i := 370) (by decide +kernel)⟩
theorem lw_p1 : lw_okq (⟨"RopeFerry$State", "waitsForMore", "()Z"⟩, 15) := ⟨⟨by decide +kernel, by decide +kernel⟩, List.mem_of_getElem? (i := 100) (by decide +kernel), List.mem_of_getElem? (i := 401) (by decide +kernel), List.mem_of_getElem? (i := 402) (by decide +kernel)⟩
theorem lw_p2 : lw_okq (⟨"RopeFerry$State", "isDoctorHere", "()Z"⟩, 15) := ⟨⟨by decide +kernel, by decide +kernel⟩, List.mem_of_getElem? (i := 100) (by decide +kernel), List.mem_of_getElem? (i := 409) (by decide +kernel), List.mem_of_getElem? (i := 410) (by decide +kernel)⟩
theorem lw_p3 : lw_okq (⟨"RopeFerry$State", "crosses", "(I)V"⟩, 15) := ⟨⟨by decide +kernel, by decide +kernel⟩, List.mem_of_getElem? (i := 100) (by decide +kernel), List.mem_of_getElem? (i := 421) (by decide +kernel), List.mem_of_getElem? (i := 422) (by decide +kernel)⟩
theorem lw_p4 : lw_okq (⟨"RopeFerry$State", "setOn", "(I)I"⟩, 15) := ⟨⟨by decide +kernel, by decide +kernel⟩, List.mem_of_getElem? (i := 100) (by decide +kernel), List.mem_of_getElem? (i := 447) (by decide +kernel), List.mem_of_getElem? (i := 448) (by decide +kernel)⟩
theorem lw_p5 : lw_okq (⟨"RopeFerry$State", "mayCross", "(I)Z"⟩, 15) := ⟨⟨by decide +kernel, by decide +kernel⟩, List.mem_of_getElem? (i := 100) (by decide +kernel), List.mem_of_getElem? (i := 451) (by decide +kernel), List.mem_of_getElem? (i := 452) (by decide +kernel)⟩
theorem lw_p6 : lw_okq (⟨"RopeFerry", "sheetAt", "(I)LRopeFerry$Sheet;"⟩, 10) := ⟨⟨by decide +kernel, by decide +kernel⟩, List.mem_of_getElem? (i := 17) (by decide +kernel), List.mem_of_getElem? (i := 498) (by decide +kernel), List.mem_of_getElem? (i := 499) (by decide +kernel)⟩
theorem lw_p7 : lw_okq (⟨"RopeFerry", "differences", "(LRopeFerry$Sheet;I)I"⟩, 10) := ⟨⟨by decide +kernel, by decide +kernel⟩, List.mem_of_getElem? (i := 17) (by decide +kernel), List.mem_of_getElem? (i := 507) (by decide +kernel), List.mem_of_getElem? (i := 508) (by decide +kernel)⟩
theorem lw_p8 : lw_okq (⟨"RopeFerry$Reader", "goAhead", "()V"⟩, 11) := ⟨⟨by decide +kernel, by decide +kernel⟩, List.mem_of_getElem? (i := 25) (by decide +kernel), List.mem_of_getElem? (i := 547) (by decide +kernel), List.mem_of_getElem? (i := 548) (by decide +kernel)⟩
theorem lw_p9 : lw_okq (⟨"RopeFerry$Reader", "isWord", "()Z"⟩, 11) := ⟨⟨by decide +kernel, by decide +kernel⟩, List.mem_of_getElem? (i := 25) (by decide +kernel), List.mem_of_getElem? (i := 551) (by decide +kernel), List.mem_of_getElem? (i := 552) (by decide +kernel)⟩
theorem lw_p10 : lw_okq (⟨"RopeFerry$Reader", "byteAt", "(I)I"⟩, 11) := ⟨⟨by decide +kernel, by decide +kernel⟩, List.mem_of_getElem? (i := 25) (by decide +kernel), List.mem_of_getElem? (i := 555) (by decide +kernel), List.mem_of_getElem? (i := 556) (by decide +kernel)⟩
theorem lw_p11 : lw_okq (⟨"RopeFerry$Reader", "sortAt", "(I)I"⟩, 11) := ⟨⟨by decide +kernel, by decide +kernel⟩, List.mem_of_getElem? (i := 25) (by decide +kernel), List.mem_of_getElem? (i := 559) (by decide +kernel), List.mem_of_getElem? (i := 560) (by decide +kernel)⟩
theorem lw_p12 : lw_okq (⟨"RopeFerry$Reader", "readKey", "()V"⟩, 11) := ⟨⟨by decide +kernel, by decide +kernel⟩, List.mem_of_getElem? (i := 25) (by decide +kernel), List.mem_of_getElem? (i := 565) (by decide +kernel), List.mem_of_getElem? (i := 566) (by decide +kernel)⟩
theorem lw_p13 : lw_okq (⟨"RopeFerry$Reader", "spells", "(Ljava/lang/String;)Z"⟩, 11) := ⟨⟨by decide +kernel, by decide +kernel⟩, List.mem_of_getElem? (i := 25) (by decide +kernel), List.mem_of_getElem? (i := 570) (by decide +kernel), List.mem_of_getElem? (i := 571) (by decide +kernel)⟩
theorem lw_p14 : lw_okq (⟨"RopeFerry$Reader", "meetsFault", "()V"⟩, 11) := ⟨⟨by decide +kernel, by decide +kernel⟩, List.mem_of_getElem? (i := 25) (by decide +kernel), List.mem_of_getElem? (i := 624) (by decide +kernel), List.mem_of_getElem? (i := 625) (by decide +kernel)⟩
theorem lw_p15 : lw_okq (⟨"RopeFerry$Reader", "readOr", "(II)V"⟩, 11) := ⟨⟨by decide +kernel, by decide +kernel⟩, List.mem_of_getElem? (i := 25) (by decide +kernel), List.mem_of_getElem? (i := 628) (by decide +kernel), List.mem_of_getElem? (i := 629) (by decide +kernel)⟩
def lw_privs_1 : List (MethodName × Nat) := [(⟨"RopeFerry$State", "mostUrging", "(I)I"⟩, 15), (⟨"RopeFerry$State", "waitsForMore", "()Z"⟩, 15), (⟨"RopeFerry$State", "isDoctorHere", "()Z"⟩, 15), (⟨"RopeFerry$State", "crosses", "(I)V"⟩, 15), (⟨"RopeFerry$State", "setOn", "(I)I"⟩, 15), (⟨"RopeFerry$State", "mayCross", "(I)Z"⟩, 15), (⟨"RopeFerry", "sheetAt", "(I)LRopeFerry$Sheet;"⟩, 10), (⟨"RopeFerry", "differences", "(LRopeFerry$Sheet;I)I"⟩, 10), (⟨"RopeFerry$Reader", "goAhead", "()V"⟩, 11), (⟨"RopeFerry$Reader", "isWord", "()Z"⟩, 11), (⟨"RopeFerry$Reader", "byteAt", "(I)I"⟩, 11), (⟨"RopeFerry$Reader", "sortAt", "(I)I"⟩, 11), (⟨"RopeFerry$Reader", "readKey", "()V"⟩, 11), (⟨"RopeFerry$Reader", "spells", "(Ljava/lang/String;)Z"⟩, 11), (⟨"RopeFerry$Reader", "meetsFault", "()V"⟩, 11), (⟨"RopeFerry$Reader", "readOr", "(II)V"⟩, 11)]
theorem lw_r1 : ∀ q ∈ lw_privs_1, lw_okq q := List.forall_mem_cons.mpr ⟨lw_p0, List.forall_mem_cons.mpr ⟨lw_p1, List.forall_mem_cons.mpr ⟨lw_p2, List.forall_mem_cons.mpr ⟨lw_p3, List.forall_mem_cons.mpr ⟨lw_p4, List.forall_mem_cons.mpr ⟨lw_p5, List.forall_mem_cons.mpr ⟨lw_p6, List.forall_mem_cons.mpr ⟨lw_p7, List.forall_mem_cons.mpr ⟨lw_p8, List.forall_mem_cons.mpr ⟨lw_p9, List.forall_mem_cons.mpr ⟨lw_p10, List.forall_mem_cons.mpr ⟨lw_p11, List.forall_mem_cons.mpr ⟨lw_p12, List.forall_mem_cons.mpr ⟨lw_p13, List.forall_mem_cons.mpr ⟨lw_p14, List.forall_mem_cons.mpr ⟨lw_p15, fun _ h => absurd h List.not_mem_nil⟩⟩⟩⟩⟩⟩⟩⟩⟩⟩⟩⟩⟩⟩⟩⟩
theorem lw_p16 : lw_okq (⟨"RopeFerry$Reader", "readAnd", "(II)V"⟩, 11) := ⟨⟨by decide +kernel, by decide +kernel⟩, List.mem_of_getElem? (i := 25) (by decide +kernel), List.mem_of_getElem? (i := 632) (by decide +kernel), List.mem_of_getElem? (i := 633) (by decide +kernel)⟩
theorem lw_p17 : lw_okq (⟨"RopeFerry$Reader", "readTest", "(II)V"⟩, 11) := ⟨⟨by decide +kernel, by decide +kernel⟩, List.mem_of_getElem? (i := 25) (by decide +kernel), List.mem_of_getElem? (i := 636) (by decide +kernel), List.mem_of_getElem? (i := 637) (by decide +kernel)⟩
theorem lw_p18 : lw_okq (⟨"RopeFerry$Reader", "readSum", "(II)V"⟩, 11) := ⟨⟨by decide +kernel, by decide +kernel⟩, List.mem_of_getElem? (i := 25) (by decide +kernel), List.mem_of_getElem? (i := 640) (by decide +kernel), List.mem_of_getElem? (i := 641) (by decide +kernel)⟩
theorem lw_p19 : lw_okq (⟨"RopeFerry$Reader", "readTerm", "(II)V"⟩, 11) := ⟨⟨by decide +kernel, by decide +kernel⟩, List.mem_of_getElem? (i := 25) (by decide +kernel), List.mem_of_getElem? (i := 644) (by decide +kernel), List.mem_of_getElem? (i := 645) (by decide +kernel)⟩
theorem lw_p20 : lw_okq (⟨"RopeFerry$Reader", "readPiece", "(II)V"⟩, 11) := ⟨⟨by decide +kernel, by decide +kernel⟩, List.mem_of_getElem? (i := 25) (by decide +kernel), List.mem_of_getElem? (i := 648) (by decide +kernel), List.mem_of_getElem? (i := 649) (by decide +kernel)⟩
theorem lw_p21 : lw_okq (⟨"RopeFerry$Reader", "readNumber", "()V"⟩, 11) := ⟨⟨by decide +kernel, by decide +kernel⟩, List.mem_of_getElem? (i := 25) (by decide +kernel), List.mem_of_getElem? (i := 652) (by decide +kernel), List.mem_of_getElem? (i := 653) (by decide +kernel)⟩
theorem lw_p22 : lw_okq (⟨"RopeFerry$Reader", "puts", "(I)V"⟩, 11) := ⟨⟨by decide +kernel, by decide +kernel⟩, List.mem_of_getElem? (i := 25) (by decide +kernel), List.mem_of_getElem? (i := 656) (by decide +kernel), List.mem_of_getElem? (i := 657) (by decide +kernel)⟩
theorem lw_p23 : lw_okq (⟨"RopeFerry$Reader", "readName", "()V"⟩, 11) := ⟨⟨by decide +kernel, by decide +kernel⟩, List.mem_of_getElem? (i := 25) (by decide +kernel), List.mem_of_getElem? (i := 660) (by decide +kernel), List.mem_of_getElem? (i := 661) (by decide +kernel)⟩
theorem lw_p24 : lw_okq (⟨"RopeFerry$Reader", "name", "()I"⟩, 11) := ⟨⟨by decide +kernel, by decide +kernel⟩, List.mem_of_getElem? (i := 25) (by decide +kernel), List.mem_of_getElem? (i := 664) (by decide +kernel), List.mem_of_getElem? (i := 665) (by decide +kernel)⟩
theorem lw_p25 : lw_okq (⟨"RopeFerry$Reader", "readClosing", "()V"⟩, 11) := ⟨⟨by decide +kernel, by decide +kernel⟩, List.mem_of_getElem? (i := 25) (by decide +kernel), List.mem_of_getElem? (i := 670) (by decide +kernel), List.mem_of_getElem? (i := 671) (by decide +kernel)⟩
theorem lw_p26 : lw_okq (⟨"RopeFerry$Reader", "isSign", "(I)Z"⟩, 11) := ⟨⟨by decide +kernel, by decide +kernel⟩, List.mem_of_getElem? (i := 25) (by decide +kernel), List.mem_of_getElem? (i := 674) (by decide +kernel), List.mem_of_getElem? (i := 675) (by decide +kernel)⟩
theorem lw_p27 : lw_okq (⟨"RopeFerry", "slotAt", "(I)LRopeFerry$Slot;"⟩, 10) := ⟨⟨by decide +kernel, by decide +kernel⟩, List.mem_of_getElem? (i := 17) (by decide +kernel), List.mem_of_getElem? (i := 733) (by decide +kernel), List.mem_of_getElem? (i := 734) (by decide +kernel)⟩
theorem lw_p28 : lw_okq (⟨"RopeFerry", "isNumberAt", "(III)Z"⟩, 10) := ⟨⟨by decide +kernel, by decide +kernel⟩, List.mem_of_getElem? (i := 17) (by decide +kernel), List.mem_of_getElem? (i := 763) (by decide +kernel), List.mem_of_getElem? (i := 764) (by decide +kernel)⟩
theorem lw_p29 : lw_okq (⟨"RopeFerryModel", "comes", "(III)V"⟩, 33) := ⟨⟨by decide +kernel, by decide +kernel⟩, List.mem_of_getElem? (i := 780) (by decide +kernel), List.mem_of_getElem? (i := 897) (by decide +kernel), List.mem_of_getElem? (i := 898) (by decide +kernel)⟩
theorem lw_p30 : lw_okq (⟨"RopeFerryModel", "sets", "(III)V"⟩, 33) := ⟨⟨by decide +kernel, by decide +kernel⟩, List.mem_of_getElem? (i := 780) (by decide +kernel), List.mem_of_getElem? (i := 901) (by decide +kernel), List.mem_of_getElem? (i := 902) (by decide +kernel)⟩
theorem lw_p31 : lw_okq (⟨"RopeFerryModel", "isLoad", "(I)Z"⟩, 33) := ⟨⟨by decide +kernel, by decide +kernel⟩, List.mem_of_getElem? (i := 780) (by decide +kernel), List.mem_of_getElem? (i := 909) (by decide +kernel), List.mem_of_getElem? (i := 910) (by decide +kernel)⟩
def lw_privs_2 : List (MethodName × Nat) := [(⟨"RopeFerry$Reader", "readAnd", "(II)V"⟩, 11), (⟨"RopeFerry$Reader", "readTest", "(II)V"⟩, 11), (⟨"RopeFerry$Reader", "readSum", "(II)V"⟩, 11), (⟨"RopeFerry$Reader", "readTerm", "(II)V"⟩, 11), (⟨"RopeFerry$Reader", "readPiece", "(II)V"⟩, 11), (⟨"RopeFerry$Reader", "readNumber", "()V"⟩, 11), (⟨"RopeFerry$Reader", "puts", "(I)V"⟩, 11), (⟨"RopeFerry$Reader", "readName", "()V"⟩, 11), (⟨"RopeFerry$Reader", "name", "()I"⟩, 11), (⟨"RopeFerry$Reader", "readClosing", "()V"⟩, 11), (⟨"RopeFerry$Reader", "isSign", "(I)Z"⟩, 11), (⟨"RopeFerry", "slotAt", "(I)LRopeFerry$Slot;"⟩, 10), (⟨"RopeFerry", "isNumberAt", "(III)Z"⟩, 10), (⟨"RopeFerryModel", "comes", "(III)V"⟩, 33), (⟨"RopeFerryModel", "sets", "(III)V"⟩, 33), (⟨"RopeFerryModel", "isLoad", "(I)Z"⟩, 33)]
theorem lw_r2 : ∀ q ∈ lw_privs_2, lw_okq q := List.forall_mem_cons.mpr ⟨lw_p16, List.forall_mem_cons.mpr ⟨lw_p17, List.forall_mem_cons.mpr ⟨lw_p18, List.forall_mem_cons.mpr ⟨lw_p19, List.forall_mem_cons.mpr ⟨lw_p20, List.forall_mem_cons.mpr ⟨lw_p21, List.forall_mem_cons.mpr ⟨lw_p22, List.forall_mem_cons.mpr ⟨lw_p23, List.forall_mem_cons.mpr ⟨lw_p24, List.forall_mem_cons.mpr ⟨lw_p25, List.forall_mem_cons.mpr ⟨lw_p26, List.forall_mem_cons.mpr ⟨lw_p27, List.forall_mem_cons.mpr ⟨lw_p28, List.forall_mem_cons.mpr ⟨lw_p29, List.forall_mem_cons.mpr ⟨lw_p30, List.forall_mem_cons.mpr ⟨lw_p31, fun _ h => absurd h List.not_mem_nil⟩⟩⟩⟩⟩⟩⟩⟩⟩⟩⟩⟩⟩⟩⟩⟩
theorem lw_p32 : lw_okq (⟨"RopeFerryModel", "of", "(II)I"⟩, 33) := ⟨⟨by decide +kernel, by decide +kernel⟩, List.mem_of_getElem? (i := 780) (by decide +kernel), List.mem_of_getElem? (i := 913) (by decide +kernel), List.mem_of_getElem? (i := 914) (by decide +kernel)⟩
theorem lw_p33 : lw_okq (⟨"RopeFerryModel", "pays", "(I)I"⟩, 33) := ⟨⟨by decide +kernel, by decide +kernel⟩, List.mem_of_getElem? (i := 780) (by decide +kernel), List.mem_of_getElem? (i := 917) (by decide +kernel), List.mem_of_getElem? (i := 918) (by decide +kernel)⟩
theorem lw_p34 : lw_okq (⟨"RopeFerryModel", "counts", "(I)I"⟩, 33) := ⟨⟨by decide +kernel, by decide +kernel⟩, List.mem_of_getElem? (i := 780) (by decide +kernel), List.mem_of_getElem? (i := 921) (by decide +kernel), List.mem_of_getElem? (i := 922) (by decide +kernel)⟩
theorem lw_p35 : lw_okq (⟨"RopeFerryModel", "textAt", "(I)I"⟩, 33) := ⟨⟨by decide +kernel, by decide +kernel⟩, List.mem_of_getElem? (i := 780) (by decide +kernel), List.mem_of_getElem? (i := 925) (by decide +kernel), List.mem_of_getElem? (i := 926) (by decide +kernel)⟩
theorem lw_p36 : lw_okq (⟨"RopeFerryModel", "worked", "(I)I"⟩, 33) := ⟨⟨by decide +kernel, by decide +kernel⟩, List.mem_of_getElem? (i := 780) (by decide +kernel), List.mem_of_getElem? (i := 929) (by decide +kernel), List.mem_of_getElem? (i := 930) (by decide +kernel)⟩
theorem lw_p37 : lw_okq (⟨"RopeFerryModel", "takes", "(I)I"⟩, 33) := ⟨⟨by decide +kernel, by decide +kernel⟩, List.mem_of_getElem? (i := 780) (by decide +kernel), List.mem_of_getElem? (i := 939) (by decide +kernel), List.mem_of_getElem? (i := 940) (by decide +kernel)⟩
theorem lw_p38 : lw_okq (⟨"RopeFerryModel", "urges", "(I)I"⟩, 33) := ⟨⟨by decide +kernel, by decide +kernel⟩, List.mem_of_getElem? (i := 780) (by decide +kernel), List.mem_of_getElem? (i := 943) (by decide +kernel), List.mem_of_getElem? (i := 944) (by decide +kernel)⟩
theorem lw_p39 : lw_okq (⟨"RopeFerryModel", "worth", "(I)I"⟩, 33) := ⟨⟨by decide +kernel, by decide +kernel⟩, List.mem_of_getElem? (i := 780) (by decide +kernel), List.mem_of_getElem? (i := 947) (by decide +kernel), List.mem_of_getElem? (i := 948) (by decide +kernel)⟩
theorem lw_p40 : lw_okq (⟨"RopeFerryModel", "becomes", "(II)I"⟩, 33) := ⟨⟨by decide +kernel, by decide +kernel⟩, List.mem_of_getElem? (i := 780) (by decide +kernel), List.mem_of_getElem? (i := 963) (by decide +kernel), List.mem_of_getElem? (i := 964) (by decide +kernel)⟩
theorem lw_p41 : lw_okq (⟨"RopeFerryModel", "effect", "()I"⟩, 33) := ⟨⟨by decide +kernel, by decide +kernel⟩, List.mem_of_getElem? (i := 780) (by decide +kernel), List.mem_of_getElem? (i := 978) (by decide +kernel), List.mem_of_getElem? (i := 979) (by decide +kernel)⟩
theorem lw_p42 : lw_okq (⟨"RopeFerryModel", "minutes", "()I"⟩, 33) := ⟨⟨by decide +kernel, by decide +kernel⟩, List.mem_of_getElem? (i := 780) (by decide +kernel), List.mem_of_getElem? (i := 985) (by decide +kernel), List.mem_of_getElem? (i := 986) (by decide +kernel)⟩
theorem lw_p43 : lw_okq (⟨"RopeFerryModel", "pullOf", "(I)I"⟩, 33) := ⟨⟨by decide +kernel, by decide +kernel⟩, List.mem_of_getElem? (i := 780) (by decide +kernel), List.mem_of_getElem? (i := 1001) (by decide +kernel), List.mem_of_getElem? (i := 1002) (by decide +kernel)⟩
theorem lw_p44 : lw_okq (⟨"RopeFerryModel", "loads", "()I"⟩, 33) := ⟨⟨by decide +kernel, by decide +kernel⟩, List.mem_of_getElem? (i := 780) (by decide +kernel), List.mem_of_getElem? (i := 1009) (by decide +kernel), List.mem_of_getElem? (i := 1010) (by decide +kernel)⟩
theorem lw_p45 : lw_okq (⟨"RopeFerryModel", "nextUrging", "(I)I"⟩, 33) := ⟨⟨by decide +kernel, by decide +kernel⟩, List.mem_of_getElem? (i := 780) (by decide +kernel), List.mem_of_getElem? (i := 1013) (by decide +kernel), List.mem_of_getElem? (i := 1014) (by decide +kernel)⟩
theorem lw_p46 : lw_okq (⟨"RopeFerryModel", "drawn", "()I"⟩, 33) := ⟨⟨by decide +kernel, by decide +kernel⟩, List.mem_of_getElem? (i := 780) (by decide +kernel), List.mem_of_getElem? (i := 1022) (by decide +kernel), List.mem_of_getElem? (i := 1023) (by decide +kernel)⟩
theorem lw_p47 : lw_okq (⟨"RopeFerryModel", "goesOn", "()V"⟩, 33) := ⟨⟨by decide +kernel, by decide +kernel⟩, List.mem_of_getElem? (i := 780) (by decide +kernel), List.mem_of_getElem? (i := 1036) (by decide +kernel), List.mem_of_getElem? (i := 1037) (by decide +kernel)⟩
def lw_privs_3 : List (MethodName × Nat) := [(⟨"RopeFerryModel", "of", "(II)I"⟩, 33), (⟨"RopeFerryModel", "pays", "(I)I"⟩, 33), (⟨"RopeFerryModel", "counts", "(I)I"⟩, 33), (⟨"RopeFerryModel", "textAt", "(I)I"⟩, 33), (⟨"RopeFerryModel", "worked", "(I)I"⟩, 33), (⟨"RopeFerryModel", "takes", "(I)I"⟩, 33), (⟨"RopeFerryModel", "urges", "(I)I"⟩, 33), (⟨"RopeFerryModel", "worth", "(I)I"⟩, 33), (⟨"RopeFerryModel", "becomes", "(II)I"⟩, 33), (⟨"RopeFerryModel", "effect", "()I"⟩, 33), (⟨"RopeFerryModel", "minutes", "()I"⟩, 33), (⟨"RopeFerryModel", "pullOf", "(I)I"⟩, 33), (⟨"RopeFerryModel", "loads", "()I"⟩, 33), (⟨"RopeFerryModel", "nextUrging", "(I)I"⟩, 33), (⟨"RopeFerryModel", "drawn", "()I"⟩, 33), (⟨"RopeFerryModel", "goesOn", "()V"⟩, 33)]
theorem lw_r3 : ∀ q ∈ lw_privs_3, lw_okq q := List.forall_mem_cons.mpr ⟨lw_p32, List.forall_mem_cons.mpr ⟨lw_p33, List.forall_mem_cons.mpr ⟨lw_p34, List.forall_mem_cons.mpr ⟨lw_p35, List.forall_mem_cons.mpr ⟨lw_p36, List.forall_mem_cons.mpr ⟨lw_p37, List.forall_mem_cons.mpr ⟨lw_p38, List.forall_mem_cons.mpr ⟨lw_p39, List.forall_mem_cons.mpr ⟨lw_p40, List.forall_mem_cons.mpr ⟨lw_p41, List.forall_mem_cons.mpr ⟨lw_p42, List.forall_mem_cons.mpr ⟨lw_p43, List.forall_mem_cons.mpr ⟨lw_p44, List.forall_mem_cons.mpr ⟨lw_p45, List.forall_mem_cons.mpr ⟨lw_p46, List.forall_mem_cons.mpr ⟨lw_p47, fun _ h => absurd h List.not_mem_nil⟩⟩⟩⟩⟩⟩⟩⟩⟩⟩⟩⟩⟩⟩⟩⟩
theorem lw_p48 : lw_okq (⟨"RopeFerryModel", "stays", "()I"⟩, 33) := ⟨⟨by decide +kernel, by decide +kernel⟩, List.mem_of_getElem? (i := 780) (by decide +kernel), List.mem_of_getElem? (i := 1040) (by decide +kernel), List.mem_of_getElem? (i := 1041) (by decide +kernel)⟩
theorem lw_p49 : lw_okq (⟨"RopeFerryModel", "manyOn", "(I)I"⟩, 33) := ⟨⟨by decide +kernel, by decide +kernel⟩, List.mem_of_getElem? (i := 780) (by decide +kernel), List.mem_of_getElem? (i := 1044) (by decide +kernel), List.mem_of_getElem? (i := 1045) (by decide +kernel)⟩
theorem lw_p50 : lw_okq (⟨"RopeFerryModel", "hasDoctor", "(I)Z"⟩, 33) := ⟨⟨by decide +kernel, by decide +kernel⟩, List.mem_of_getElem? (i := 780) (by decide +kernel), List.mem_of_getElem? (i := 1048) (by decide +kernel), List.mem_of_getElem? (i := 1049) (by decide +kernel)⟩
theorem lw_p51 : lw_okq (⟨"RopeFerryModel", "allOf", "(I)I"⟩, 33) := ⟨⟨by decide +kernel, by decide +kernel⟩, List.mem_of_getElem? (i := 780) (by decide +kernel), List.mem_of_getElem? (i := 1056) (by decide +kernel), List.mem_of_getElem? (i := 1057) (by decide +kernel)⟩
theorem lw_p52 : lw_okq (⟨"RopeFerryModel", "laysBy", "()V"⟩, 33) := ⟨⟨by decide +kernel, by decide +kernel⟩, List.mem_of_getElem? (i := 780) (by decide +kernel), List.mem_of_getElem? (i := 1080) (by decide +kernel), List.mem_of_getElem? (i := 1081) (by decide +kernel)⟩
theorem lw_p53 : lw_okq (⟨"RopeFerryModel", "goesOnMany", "(I)V"⟩, 33) := ⟨⟨by decide +kernel, by decide +kernel⟩, List.mem_of_getElem? (i := 780) (by decide +kernel), List.mem_of_getElem? (i := 1084) (by decide +kernel), List.mem_of_getElem? (i := 1085) (by decide +kernel)⟩
theorem lw_p54 : lw_okq (⟨"RopeFerryModel", "laysBack", "()V"⟩, 33) := ⟨⟨by decide +kernel, by decide +kernel⟩, List.mem_of_getElem? (i := 780) (by decide +kernel), List.mem_of_getElem? (i := 1088) (by decide +kernel), List.mem_of_getElem? (i := 1089) (by decide +kernel)⟩
theorem lw_p55 : lw_okq (⟨"RopeFerryModel", "areOver", "()Z"⟩, 33) := ⟨⟨by decide +kernel, by decide +kernel⟩, List.mem_of_getElem? (i := 780) (by decide +kernel), List.mem_of_getElem? (i := 1109) (by decide +kernel), List.mem_of_getElem? (i := 1110) (by decide +kernel)⟩
theorem lw_p56 : lw_okq (⟨"RopeFerryModel", "parse", "()I"⟩, 33) := ⟨⟨by decide +kernel, by decide +kernel⟩, List.mem_of_getElem? (i := 780) (by decide +kernel), List.mem_of_getElem? (i := 1129) (by decide +kernel), List.mem_of_getElem? (i := 1130) (by decide +kernel)⟩
theorem lw_p57 : lw_okq (⟨"RopeFerryModel", "nextToken", "()V"⟩, 33) := ⟨⟨by decide +kernel, by decide +kernel⟩, List.mem_of_getElem? (i := 780) (by decide +kernel), List.mem_of_getElem? (i := 1133) (by decide +kernel), List.mem_of_getElem? (i := 1134) (by decide +kernel)⟩
theorem lw_p58 : lw_okq (⟨"RopeFerryModel", "isLetter", "(I)Z"⟩, 33) := ⟨⟨by decide +kernel, by decide +kernel⟩, List.mem_of_getElem? (i := 780) (by decide +kernel), List.mem_of_getElem? (i := 1137) (by decide +kernel), List.mem_of_getElem? (i := 1138) (by decide +kernel)⟩
theorem lw_p59 : lw_okq (⟨"RopeFerryModel", "isDigit", "(I)Z"⟩, 33) := ⟨⟨by decide +kernel, by decide +kernel⟩, List.mem_of_getElem? (i := 780) (by decide +kernel), List.mem_of_getElem? (i := 1143) (by decide +kernel), List.mem_of_getElem? (i := 1144) (by decide +kernel)⟩
theorem lw_p60 : lw_okq (⟨"RopeFerryModel", "key", "()I"⟩, 33) := ⟨⟨by decide +kernel, by decide +kernel⟩, List.mem_of_getElem? (i := 780) (by decide +kernel), List.mem_of_getElem? (i := 1149) (by decide +kernel), List.mem_of_getElem? (i := 1150) (by decide +kernel)⟩
theorem lw_p61 : lw_okq (⟨"RopeFerryModel", "isWordAt", "(IIII)Z"⟩, 33) := ⟨⟨by decide +kernel, by decide +kernel⟩, List.mem_of_getElem? (i := 780) (by decide +kernel), List.mem_of_getElem? (i := 1153) (by decide +kernel), List.mem_of_getElem? (i := 1154) (by decide +kernel)⟩
theorem lw_p62 : lw_okq (⟨"RopeFerryModel", "either", "(I)Z"⟩, 33) := ⟨⟨by decide +kernel, by decide +kernel⟩, List.mem_of_getElem? (i := 780) (by decide +kernel), List.mem_of_getElem? (i := 1157) (by decide +kernel), List.mem_of_getElem? (i := 1158) (by decide +kernel)⟩
theorem lw_p63 : lw_okq (⟨"RopeFerryModel", "both", "(I)Z"⟩, 33) := ⟨⟨by decide +kernel, by decide +kernel⟩, List.mem_of_getElem? (i := 780) (by decide +kernel), List.mem_of_getElem? (i := 1161) (by decide +kernel), List.mem_of_getElem? (i := 1162) (by decide +kernel)⟩
def lw_privs_4 : List (MethodName × Nat) := [(⟨"RopeFerryModel", "stays", "()I"⟩, 33), (⟨"RopeFerryModel", "manyOn", "(I)I"⟩, 33), (⟨"RopeFerryModel", "hasDoctor", "(I)Z"⟩, 33), (⟨"RopeFerryModel", "allOf", "(I)I"⟩, 33), (⟨"RopeFerryModel", "laysBy", "()V"⟩, 33), (⟨"RopeFerryModel", "goesOnMany", "(I)V"⟩, 33), (⟨"RopeFerryModel", "laysBack", "()V"⟩, 33), (⟨"RopeFerryModel", "areOver", "()Z"⟩, 33), (⟨"RopeFerryModel", "parse", "()I"⟩, 33), (⟨"RopeFerryModel", "nextToken", "()V"⟩, 33), (⟨"RopeFerryModel", "isLetter", "(I)Z"⟩, 33), (⟨"RopeFerryModel", "isDigit", "(I)Z"⟩, 33), (⟨"RopeFerryModel", "key", "()I"⟩, 33), (⟨"RopeFerryModel", "isWordAt", "(IIII)Z"⟩, 33), (⟨"RopeFerryModel", "either", "(I)Z"⟩, 33), (⟨"RopeFerryModel", "both", "(I)Z"⟩, 33)]
theorem lw_r4 : ∀ q ∈ lw_privs_4, lw_okq q := List.forall_mem_cons.mpr ⟨lw_p48, List.forall_mem_cons.mpr ⟨lw_p49, List.forall_mem_cons.mpr ⟨lw_p50, List.forall_mem_cons.mpr ⟨lw_p51, List.forall_mem_cons.mpr ⟨lw_p52, List.forall_mem_cons.mpr ⟨lw_p53, List.forall_mem_cons.mpr ⟨lw_p54, List.forall_mem_cons.mpr ⟨lw_p55, List.forall_mem_cons.mpr ⟨lw_p56, List.forall_mem_cons.mpr ⟨lw_p57, List.forall_mem_cons.mpr ⟨lw_p58, List.forall_mem_cons.mpr ⟨lw_p59, List.forall_mem_cons.mpr ⟨lw_p60, List.forall_mem_cons.mpr ⟨lw_p61, List.forall_mem_cons.mpr ⟨lw_p62, List.forall_mem_cons.mpr ⟨lw_p63, fun _ h => absurd h List.not_mem_nil⟩⟩⟩⟩⟩⟩⟩⟩⟩⟩⟩⟩⟩⟩⟩⟩
theorem lw_p64 : lw_okq (⟨"RopeFerryModel", "test", "(I)Z"⟩, 33) := ⟨⟨by decide +kernel, by decide +kernel⟩, List.mem_of_getElem? (i := 780) (by decide +kernel), List.mem_of_getElem? (i := 1165) (by decide +kernel), List.mem_of_getElem? (i := 1166) (by decide +kernel)⟩
theorem lw_p65 : lw_okq (⟨"RopeFerryModel", "sum", "(I)Z"⟩, 33) := ⟨⟨by decide +kernel, by decide +kernel⟩, List.mem_of_getElem? (i := 780) (by decide +kernel), List.mem_of_getElem? (i := 1169) (by decide +kernel), List.mem_of_getElem? (i := 1170) (by decide +kernel)⟩
theorem lw_p66 : lw_okq (⟨"RopeFerryModel", "term", "(I)Z"⟩, 33) := ⟨⟨by decide +kernel, by decide +kernel⟩, List.mem_of_getElem? (i := 780) (by decide +kernel), List.mem_of_getElem? (i := 1173) (by decide +kernel), List.mem_of_getElem? (i := 1174) (by decide +kernel)⟩
theorem lw_p67 : lw_okq (⟨"RopeFerryModel", "part0", "(I)Z"⟩, 33) := ⟨⟨by decide +kernel, by decide +kernel⟩, List.mem_of_getElem? (i := 780) (by decide +kernel), List.mem_of_getElem? (i := 1177) (by decide +kernel), List.mem_of_getElem? (i := 1178) (by decide +kernel)⟩
theorem lw_p68 : lw_okq (⟨"RopeFerryModel", "step", "(II)V"⟩, 33) := ⟨⟨by decide +kernel, by decide +kernel⟩, List.mem_of_getElem? (i := 780) (by decide +kernel), List.mem_of_getElem? (i := 1181) (by decide +kernel), List.mem_of_getElem? (i := 1182) (by decide +kernel)⟩
theorem lw_p69 : lw_okq (⟨"RopeFerryModel", "isSign", "(I)Z"⟩, 33) := ⟨⟨by decide +kernel, by decide +kernel⟩, List.mem_of_getElem? (i := 780) (by decide +kernel), List.mem_of_getElem? (i := 1188) (by decide +kernel), List.mem_of_getElem? (i := 1189) (by decide +kernel)⟩
theorem lw_p70 : lw_okq (⟨"RopeFerryModel", "isText", "(I)Z"⟩, 33) := ⟨⟨by decide +kernel, by decide +kernel⟩, List.mem_of_getElem? (i := 780) (by decide +kernel), List.mem_of_getElem? (i := 1196) (by decide +kernel), List.mem_of_getElem? (i := 1197) (by decide +kernel)⟩
theorem lw_p71 : lw_okq (⟨"RopeFerryModel", "setAside", "([I[I)V"⟩, 33) := ⟨⟨by decide +kernel, by decide +kernel⟩, List.mem_of_getElem? (i := 780) (by decide +kernel), List.mem_of_getElem? (i := 1267) (by decide +kernel), List.mem_of_getElem? (i := 1268) (by decide +kernel)⟩
def lw_privs_5 : List (MethodName × Nat) := [(⟨"RopeFerryModel", "test", "(I)Z"⟩, 33), (⟨"RopeFerryModel", "sum", "(I)Z"⟩, 33), (⟨"RopeFerryModel", "term", "(I)Z"⟩, 33), (⟨"RopeFerryModel", "part0", "(I)Z"⟩, 33), (⟨"RopeFerryModel", "step", "(II)V"⟩, 33), (⟨"RopeFerryModel", "isSign", "(I)Z"⟩, 33), (⟨"RopeFerryModel", "isText", "(I)Z"⟩, 33), (⟨"RopeFerryModel", "setAside", "([I[I)V"⟩, 33)]
theorem lw_r5 : ∀ q ∈ lw_privs_5, lw_okq q := List.forall_mem_cons.mpr ⟨lw_p64, List.forall_mem_cons.mpr ⟨lw_p65, List.forall_mem_cons.mpr ⟨lw_p66, List.forall_mem_cons.mpr ⟨lw_p67, List.forall_mem_cons.mpr ⟨lw_p68, List.forall_mem_cons.mpr ⟨lw_p69, List.forall_mem_cons.mpr ⟨lw_p70, List.forall_mem_cons.mpr ⟨lw_p71, fun _ h => absurd h List.not_mem_nil⟩⟩⟩⟩⟩⟩⟩⟩
def lw_privs : List (MethodName × Nat) := lw_privs_1 ++ (lw_privs_2 ++ (lw_privs_3 ++ (lw_privs_4 ++ (lw_privs_5))))
def lw_tbl : List Cond := k2_sels lw_privs ++ tables_1
theorem lw_privs_ok : ∀ q ∈ lw_privs, lw_okq q := by
  show ∀ q ∈ lw_privs_1 ++ (lw_privs_2 ++ (lw_privs_3 ++ (lw_privs_4 ++ (lw_privs_5)))), lw_okq q
  exact List.forall_mem_append.mpr ⟨lw_r1, List.forall_mem_append.mpr ⟨lw_r2, List.forall_mem_append.mpr ⟨lw_r3, List.forall_mem_append.mpr ⟨lw_r4, lw_r5⟩⟩⟩⟩
end
section
def RX0 : String := "RopeFerry$Kinds"
def TX0 : u_T := fun k => match k with
  | _ => ("", "", "", false)
def tyX0 : Nat → FieldType := fun k => match k with
  | _ => .int
abbrev wsX00 : List Cond := u_ws RX0 TX0 0
theorem nmX0 : ∀ a, a < 0 → ∀ b, b < 0 → a ≠ b → (TX0 a).2.1 ≠ (TX0 b).2.1 := by decide +kernel
theorem tyX0_ok : ∀ k, k < 0 → parseFieldDescriptor (TX0 k).2.2.1 = some (tyX0 k) := by decide +kernel
abbrev cX0_isKind : ByteArray := prog_2_method_2_code
def yX0_isKind : MethodName := ⟨RX0, "isKind", "(I)Z"⟩
abbrev cX0_isOf : ByteArray := prog_2_method_3_code
def yX0_isOf : MethodName := ⟨RX0, "isOf", "(II)Z"⟩
abbrev cX0_pays : ByteArray := prog_2_method_4_code
def yX0_pays : MethodName := ⟨RX0, "pays", "(II)I"⟩
abbrev cX0_takes : ByteArray := prog_2_method_5_code
def yX0_takes : MethodName := ⟨RX0, "takes", "(I)I"⟩
abbrev cX0_urges : ByteArray := prog_2_method_6_code
def yX0_urges : MethodName := ⟨RX0, "urges", "(II)I"⟩
abbrev cX0_worth : ByteArray := prog_2_method_7_code
def yX0_worth : MethodName := ⟨RX0, "worth", "(II)I"⟩
def RX1 : String := "RopeFerry$Laws"
def TX1 : u_T := fun k => match k with
  | 0 => ("RopeFerry$Laws", "key", "[I", true)
  | 1 => ("RopeFerry$Laws", "pieces", "[I", true)
  | 2 => ("RopeFerry$Laws", "size", "[I", true)
  | 3 => ("RopeFerry$Laws", "code", "[I", true)
  | _ => ("RopeFerry$Laws", "stack", "[I", true)
def tyX1 : Nat → FieldType := fun k => match k with
  | 0 => .array .int
  | 1 => .array .int
  | 2 => .array .int
  | 3 => .array .int
  | _ => .array .int
abbrev wsX10 : List Cond := u_ws RX1 TX1 5
theorem nmX1 : ∀ a, a < 5 → ∀ b, b < 5 → a ≠ b → (TX1 a).2.1 ≠ (TX1 b).2.1 := by decide +kernel
theorem tyX1_ok : ∀ k, k < 5 → parseFieldDescriptor (TX1 k).2.2.1 = some (tyX1 k) := by decide +kernel
abbrev cX1_init : ByteArray := prog_3_method_1_code
def yX1_init : MethodName := ⟨RX1, "<init>", "()V"⟩
abbrev cX1_learn : ByteArray := prog_3_method_2_code
def yX1_learn : MethodName := ⟨RX1, "learn", "(ILRopeFerry$Reader;)V"⟩
abbrev cX1_gives : ByteArray := prog_3_method_3_code
def yX1_gives : MethodName := ⟨RX1, "gives", "(IIII)I"⟩
abbrev cX1_joined : ByteArray := prog_3_method_4_code
def yX1_joined : MethodName := ⟨RX1, "joined", "(III)I"⟩
def RX2 : String := "RopeFerry$Reader"
def TX2 : u_T := fun k => match k with
  | 0 => ("RopeFerry$Reader", "tape", "[I", true)
  | 1 => ("RopeFerry$Reader", "length", "I", false)
  | 2 => ("RopeFerry$Reader", "start", "I", false)
  | 3 => ("RopeFerry$Reader", "end", "I", false)
  | 4 => ("RopeFerry$Reader", "sort", "I", false)
  | 5 => ("RopeFerry$Reader", "isGlued", "Z", false)
  | 6 => ("RopeFerry$Reader", "fault", "I", false)
  | 7 => ("RopeFerry$Reader", "key", "I", false)
  | 8 => ("RopeFerry$Reader", "code", "[I", true)
  | 9 => ("RopeFerry$Reader", "size", "I", false)
  | _ => ("RopeFerry$Reader", "pieces", "I", false)
def tyX2 : Nat → FieldType := fun k => match k with
  | 0 => .array .int
  | 1 => .int
  | 2 => .int
  | 3 => .int
  | 4 => .int
  | 5 => .boolean
  | 6 => .int
  | 7 => .int
  | 8 => .array .int
  | 9 => .int
  | _ => .int
abbrev wsX20 : List Cond := u_ws RX2 TX2 11
theorem nmX2 : ∀ a, a < 11 → ∀ b, b < 11 → a ≠ b → (TX2 a).2.1 ≠ (TX2 b).2.1 := by decide +kernel
theorem tyX2_ok : ∀ k, k < 11 → parseFieldDescriptor (TX2 k).2.2.1 = some (tyX2 k) := by decide +kernel
abbrev cX2_init : ByteArray := prog_4_method_1_code
def yX2_init : MethodName := ⟨RX2, "<init>", "()V"⟩
abbrev cX2_take : ByteArray := prog_4_method_2_code
def yX2_take : MethodName := ⟨RX2, "take", "(I)V"⟩
abbrev cX2_readTape : ByteArray := prog_4_method_3_code
def yX2_readTape : MethodName := ⟨RX2, "readTape", "()I"⟩
abbrev cX2_goAhead : ByteArray := prog_4_method_4_code
def yX2_goAhead : MethodName := ⟨RX2, "goAhead", "()V"⟩
abbrev cX2_isWord : ByteArray := prog_4_method_5_code
def yX2_isWord : MethodName := ⟨RX2, "isWord", "()Z"⟩
abbrev cX2_byteAt : ByteArray := prog_4_method_6_code
def yX2_byteAt : MethodName := ⟨RX2, "byteAt", "(I)I"⟩
abbrev cX2_sortAt : ByteArray := prog_4_method_7_code
def yX2_sortAt : MethodName := ⟨RX2, "sortAt", "(I)I"⟩
abbrev cX2_meetsFault : ByteArray := prog_4_method_8_code
def yX2_meetsFault : MethodName := ⟨RX2, "meetsFault", "()V"⟩
abbrev cX2_isSign : ByteArray := prog_4_method_9_code
def yX2_isSign : MethodName := ⟨RX2, "isSign", "(I)Z"⟩
abbrev cX2_puts : ByteArray := prog_4_method_10_code
def yX2_puts : MethodName := ⟨RX2, "puts", "(I)V"⟩
abbrev cX2_readKey : ByteArray := prog_4_method_11_code
def yX2_readKey : MethodName := ⟨RX2, "readKey", "()V"⟩
abbrev cX2_spells : ByteArray := prog_4_method_12_code
def yX2_spells : MethodName := ⟨RX2, "spells", "(Ljava/lang/String;)Z"⟩
abbrev cX2_readOr : ByteArray := prog_4_method_13_code
def yX2_readOr : MethodName := ⟨RX2, "readOr", "(II)V"⟩
abbrev cX2_readAnd : ByteArray := prog_4_method_14_code
def yX2_readAnd : MethodName := ⟨RX2, "readAnd", "(II)V"⟩
abbrev cX2_readTest : ByteArray := prog_4_method_15_code
def yX2_readTest : MethodName := ⟨RX2, "readTest", "(II)V"⟩
abbrev cX2_readSum : ByteArray := prog_4_method_16_code
def yX2_readSum : MethodName := ⟨RX2, "readSum", "(II)V"⟩
abbrev cX2_readTerm : ByteArray := prog_4_method_17_code
def yX2_readTerm : MethodName := ⟨RX2, "readTerm", "(II)V"⟩
abbrev cX2_readPiece : ByteArray := prog_4_method_18_code
def yX2_readPiece : MethodName := ⟨RX2, "readPiece", "(II)V"⟩
abbrev cX2_readClosing : ByteArray := prog_4_method_19_code
def yX2_readClosing : MethodName := ⟨RX2, "readClosing", "()V"⟩
abbrev cX2_readNumber : ByteArray := prog_4_method_20_code
def yX2_readNumber : MethodName := ⟨RX2, "readNumber", "()V"⟩
abbrev cX2_readName : ByteArray := prog_4_method_21_code
def yX2_readName : MethodName := ⟨RX2, "readName", "()V"⟩
abbrev cX2_name : ByteArray := prog_4_method_22_code
def yX2_name : MethodName := ⟨RX2, "name", "()I"⟩
def RX3 : String := "RopeFerry$Sheet"
def TX3 : u_T := fun k => match k with
  | 0 => ("RopeFerry$Sheet", "sort", "I", false)
  | 1 => ("RopeFerry$Sheet", "size", "I", false)
  | _ => ("RopeFerry$Sheet", "places", "[I", true)
def tyX3 : Nat → FieldType := fun k => match k with
  | 0 => .int
  | 1 => .int
  | _ => .array .int
abbrev wsX30 : List Cond := u_ws RX3 TX3 3
theorem nmX3 : ∀ a, a < 3 → ∀ b, b < 3 → a ≠ b → (TX3 a).2.1 ≠ (TX3 b).2.1 := by decide +kernel
theorem tyX3_ok : ∀ k, k < 3 → parseFieldDescriptor (TX3 k).2.2.1 = some (tyX3 k) := by decide +kernel
abbrev cX3_init : ByteArray := prog_5_method_1_code
def yX3_init : MethodName := ⟨RX3, "<init>", "()V"⟩
abbrev cX3_becomesNew : ByteArray := prog_5_method_2_code
def yX3_becomesNew : MethodName := ⟨RX3, "becomesNew", "(II)V"⟩
abbrev cX3_become : ByteArray := prog_5_method_3_code
def yX3_become : MethodName := ⟨RX3, "become", "(LRopeFerry$Sheet;)V"⟩
abbrev cX3_isMissing : ByteArray := prog_5_method_4_code
def yX3_isMissing : MethodName := ⟨RX3, "isMissing", "()Z"⟩
abbrev cX3_hasPlace : ByteArray := prog_5_method_5_code
def yX3_hasPlace : MethodName := ⟨RX3, "hasPlace", "(I)Z"⟩
abbrev cX3_hasPlaces : ByteArray := prog_5_method_6_code
def yX3_hasPlaces : MethodName := ⟨RX3, "hasPlaces", "(II)Z"⟩
abbrev cX3_isNumber : ByteArray := prog_5_method_7_code
def yX3_isNumber : MethodName := ⟨RX3, "isNumber", "(I)Z"⟩
def RX4 : String := "RopeFerry$Slot"
def TX4 : u_T := fun k => match k with
  | 0 => ("RopeFerry$Slot", "thing", "I", false)
  | 1 => ("RopeFerry$Slot", "kind", "I", false)
  | 2 => ("RopeFerry$Slot", "weight", "I", false)
  | 3 => ("RopeFerry$Slot", "number", "I", false)
  | _ => ("RopeFerry$Slot", "row", "LRopeFerry$Sheet;", true)
def tyX4 : Nat → FieldType := fun k => match k with
  | 0 => .int
  | 1 => .int
  | 2 => .int
  | 3 => .int
  | _ => .object "RopeFerry$Sheet"
abbrev wsX40 : List Cond := u_ws RX4 TX4 5
theorem nmX4 : ∀ a, a < 5 → ∀ b, b < 5 → a ≠ b → (TX4 a).2.1 ≠ (TX4 b).2.1 := by decide +kernel
theorem tyX4_ok : ∀ k, k < 5 → parseFieldDescriptor (TX4 k).2.2.1 = some (tyX4 k) := by decide +kernel
abbrev cX4_init : ByteArray := prog_6_method_1_code
def yX4_init : MethodName := ⟨RX4, "<init>", "()V"⟩
def RX5 : String := "RopeFerry$State"
def TX5 : u_T := fun k => match k with
  | 0 => ("RopeFerry$State", "laws", "LRopeFerry$Laws;", true)
  | 1 => ("RopeFerry$State", "count", "I", false)
  | 2 => ("RopeFerry$State", "kind", "[I", true)
  | 3 => ("RopeFerry$State", "weight", "[I", true)
  | 4 => ("RopeFerry$State", "bank", "[I", true)
  | 5 => ("RopeFerry$State", "waits", "[I", true)
  | 6 => ("RopeFerry$State", "over", "[I", true)
  | 7 => ("RopeFerry$State", "rules", "[I", true)
  | 8 => ("RopeFerry$State", "time", "I", false)
  | 9 => ("RopeFerry$State", "tolls", "I", false)
  | 10 => ("RopeFerry$State", "step", "I", false)
  | 11 => ("RopeFerry$State", "z", "I", false)
  | 12 => ("RopeFerry$State", "texts", "I", false)
  | 13 => ("RopeFerry$State", "counts", "[I", true)
  | _ => ("RopeFerry$State", "leftOut", "I", false)
def tyX5 : Nat → FieldType := fun k => match k with
  | 0 => .object "RopeFerry$Laws"
  | 1 => .int
  | 2 => .array .int
  | 3 => .array .int
  | 4 => .array .int
  | 5 => .array .int
  | 6 => .array .int
  | 7 => .array .int
  | 8 => .int
  | 9 => .int
  | 10 => .int
  | 11 => .int
  | 12 => .int
  | 13 => .array .int
  | _ => .int
abbrev wsX50 : List Cond := u_ws RX5 TX5 15
theorem nmX5 : ∀ a, a < 15 → ∀ b, b < 15 → a ≠ b → (TX5 a).2.1 ≠ (TX5 b).2.1 := by decide +kernel
theorem tyX5_ok : ∀ k, k < 15 → parseFieldDescriptor (TX5 k).2.2.1 = some (tyX5 k) := by decide +kernel
abbrev cX5_init : ByteArray := prog_7_method_1_code
def yX5_init : MethodName := ⟨RX5, "<init>", "(LRopeFerry$Laws;)V"⟩
abbrev cX5_become : ByteArray := prog_7_method_2_code
def yX5_become : MethodName := ⟨RX5, "become", "(LRopeFerry$State;)V"⟩
abbrev cX5_has : ByteArray := prog_7_method_3_code
def yX5_has : MethodName := ⟨RX5, "has", "(I)Z"⟩
abbrev cX5_comes : ByteArray := prog_7_method_4_code
def yX5_comes : MethodName := ⟨RX5, "comes", "(III)I"⟩
abbrev cX5_draw : ByteArray := prog_7_method_5_code
def yX5_draw : MethodName := ⟨RX5, "draw", "()I"⟩
abbrev cX5_howManyOn : ByteArray := prog_7_method_6_code
def yX5_howManyOn : MethodName := ⟨RX5, "howManyOn", "(I)I"⟩
abbrev cX5_allOf : ByteArray := prog_7_method_7_code
def yX5_allOf : MethodName := ⟨RX5, "allOf", "([I)I"⟩
abbrev cX5_haveAllBeenOver : ByteArray := prog_7_method_8_code
def yX5_haveAllBeenOver : MethodName := ⟨RX5, "haveAllBeenOver", "()Z"⟩
abbrev cX5_pays : ByteArray := prog_7_method_9_code
def yX5_pays : MethodName := ⟨RX5, "pays", "(I)I"⟩
abbrev cX5_paidBy : ByteArray := prog_7_method_10_code
def yX5_paidBy : MethodName := ⟨RX5, "paidBy", "(I)I"⟩
abbrev cX5_pullAt : ByteArray := prog_7_method_11_code
def yX5_pullAt : MethodName := ⟨RX5, "pullAt", "(II)I"⟩
abbrev cX5_effect : ByteArray := prog_7_method_12_code
def yX5_effect : MethodName := ⟨RX5, "effect", "()I"⟩
abbrev cX5_minutes : ByteArray := prog_7_method_13_code
def yX5_minutes : MethodName := ⟨RX5, "minutes", "()I"⟩
abbrev cX5_whoBoards : ByteArray := prog_7_method_14_code
def yX5_whoBoards : MethodName := ⟨RX5, "whoBoards", "()I"⟩
abbrev cX5_mostUrging : ByteArray := prog_7_method_15_code
def yX5_mostUrging : MethodName := ⟨RX5, "mostUrging", "(I)I"⟩
abbrev cX5_bestSet : ByteArray := prog_7_method_16_code
def yX5_bestSet : MethodName := ⟨RX5, "bestSet", "()I"⟩
abbrev cX5_setOn : ByteArray := prog_7_method_17_code
def yX5_setOn : MethodName := ⟨RX5, "setOn", "(I)I"⟩
abbrev cX5_mayCross : ByteArray := prog_7_method_18_code
def yX5_mayCross : MethodName := ⟨RX5, "mayCross", "(I)Z"⟩
abbrev cX5_goOn : ByteArray := prog_7_method_19_code
def yX5_goOn : MethodName := ⟨RX5, "goOn", "(I)V"⟩
abbrev cX5_takeStep : ByteArray := prog_7_method_20_code
def yX5_takeStep : MethodName := ⟨RX5, "takeStep", "()V"⟩
abbrev cX5_waitsForMore : ByteArray := prog_7_method_21_code
def yX5_waitsForMore : MethodName := ⟨RX5, "waitsForMore", "()Z"⟩
abbrev cX5_isDoctorHere : ByteArray := prog_7_method_22_code
def yX5_isDoctorHere : MethodName := ⟨RX5, "isDoctorHere", "()Z"⟩
abbrev cX5_crosses : ByteArray := prog_7_method_23_code
def yX5_crosses : MethodName := ⟨RX5, "crosses", "(I)V"⟩
def RX6 : String := "RopeFerry"
def TX6 : u_T := fun k => match k with
  | 0 => ("RopeFerry", "laws", "LRopeFerry$Laws;", true)
  | 1 => ("RopeFerry", "reader", "LRopeFerry$Reader;", true)
  | 2 => ("RopeFerry", "now", "LRopeFerry$State;", true)
  | 3 => ("RopeFerry", "image", "LRopeFerry$State;", true)
  | 4 => ("RopeFerry", "thought", "LRopeFerry$State;", true)
  | 5 => ("RopeFerry", "imageKept", "Z", false)
  | 6 => ("RopeFerry", "sheets", "[LRopeFerry$Sheet;", true)
  | 7 => ("RopeFerry", "slots", "[LRopeFerry$Slot;", true)
  | 8 => ("RopeFerry", "numbers", "[I", true)
  | _ => ("RopeFerry", "waiting", "I", false)
def tyX6 : Nat → FieldType := fun k => match k with
  | 0 => .object "RopeFerry$Laws"
  | 1 => .object "RopeFerry$Reader"
  | 2 => .object "RopeFerry$State"
  | 3 => .object "RopeFerry$State"
  | 4 => .object "RopeFerry$State"
  | 5 => .boolean
  | 6 => .array (.object "RopeFerry$Sheet")
  | 7 => .array (.object "RopeFerry$Slot")
  | 8 => .array .int
  | _ => .int
abbrev wsX60 : List Cond := u_ws RX6 TX6 10
theorem nmX6 : ∀ a, a < 10 → ∀ b, b < 10 → a ≠ b → (TX6 a).2.1 ≠ (TX6 b).2.1 := by decide +kernel
theorem tyX6_ok : ∀ k, k < 10 → parseFieldDescriptor (TX6 k).2.2.1 = some (tyX6 k) := by decide +kernel
abbrev cX6_init : ByteArray := prog_1_method_1_code
def yX6_init : MethodName := ⟨RX6, "<init>", "()V"⟩
abbrev cX6_load : ByteArray := prog_1_method_2_code
def yX6_load : MethodName := ⟨RX6, "load", "(III)I"⟩
abbrev cX6_told : ByteArray := prog_1_method_3_code
def yX6_told : MethodName := ⟨RX6, "told", "(II)I"⟩
abbrev cX6_as : ByteArray := prog_1_method_4_code
def yX6_as : MethodName := ⟨RX6, "as", "(II)I"⟩
abbrev cX6_turns : ByteArray := prog_1_method_5_code
def yX6_turns : MethodName := ⟨RX6, "turns", "(II)I"⟩
abbrev cX6_set : ByteArray := prog_1_method_6_code
def yX6_set : MethodName := ⟨RX6, "set", "(III)I"⟩
abbrev cX6_boat : ByteArray := prog_1_method_7_code
def yX6_boat : MethodName := ⟨RX6, "boat", "(I)I"⟩
abbrev cX6_rule : ByteArray := prog_1_method_8_code
def yX6_rule : MethodName := ⟨RX6, "rule", "(II)I"⟩
abbrev cX6_pull : ByteArray := prog_1_method_9_code
def yX6_pull : MethodName := ⟨RX6, "pull", "(I)I"⟩
abbrev cX6_loading : ByteArray := prog_1_method_10_code
def yX6_loading : MethodName := ⟨RX6, "loading", "()I"⟩
abbrev cX6_deal : ByteArray := prog_1_method_11_code
def yX6_deal : MethodName := ⟨RX6, "deal", "(I)I"⟩
abbrev cX6_seed : ByteArray := prog_1_method_12_code
def yX6_seed : MethodName := ⟨RX6, "seed", "(I)I"⟩
abbrev cX6_steps : ByteArray := prog_1_method_13_code
def yX6_steps : MethodName := ⟨RX6, "steps", "(I)I"⟩
abbrev cX6_book : ByteArray := prog_1_method_14_code
def yX6_book : MethodName := ⟨RX6, "book", "(I)I"⟩
abbrev cX6_high : ByteArray := prog_1_method_15_code
def yX6_high : MethodName := ⟨RX6, "high", "()I"⟩
abbrev cX6_best : ByteArray := prog_1_method_16_code
def yX6_best : MethodName := ⟨RX6, "best", "(I)I"⟩
abbrev cX6_behind : ByteArray := prog_1_method_17_code
def yX6_behind : MethodName := ⟨RX6, "behind", "(II)I"⟩
abbrev cX6_slant : ByteArray := prog_1_method_18_code
def yX6_slant : MethodName := ⟨RX6, "slant", "(II)I"⟩
abbrev cX6_patience : ByteArray := prog_1_method_19_code
def yX6_patience : MethodName := ⟨RX6, "patience", "(II)I"⟩
abbrev cX6_left : ByteArray := prog_1_method_20_code
def yX6_left : MethodName := ⟨RX6, "left", "(II)I"⟩
abbrev cX6_allOver : ByteArray := prog_1_method_21_code
def yX6_allOver : MethodName := ⟨RX6, "allOver", "()I"⟩
abbrev cX6_slanted : ByteArray := prog_1_method_22_code
def yX6_slanted : MethodName := ⟨RX6, "slanted", "(II)I"⟩
abbrev cX6_differences : ByteArray := prog_1_method_23_code
def yX6_differences : MethodName := ⟨RX6, "differences", "(LRopeFerry$Sheet;I)I"⟩
abbrev cX6_fine : ByteArray := prog_1_method_24_code
def yX6_fine : MethodName := ⟨RX6, "fine", "()I"⟩
abbrev cX6_feed : ByteArray := prog_1_method_25_code
def yX6_feed : MethodName := ⟨RX6, "feed", "(III)I"⟩
abbrev cX6_trim : ByteArray := prog_1_method_26_code
def yX6_trim : MethodName := ⟨RX6, "trim", "(I)I"⟩
abbrev cX6_text : ByteArray := prog_1_method_27_code
def yX6_text : MethodName := ⟨RX6, "text", "()I"⟩
abbrev cX6_textTold : ByteArray := prog_1_method_28_code
def yX6_textTold : MethodName := ⟨RX6, "textTold", "(II)I"⟩
abbrev cX6_why : ByteArray := prog_1_method_29_code
def yX6_why : MethodName := ⟨RX6, "why", "(I)I"⟩
abbrev cX6_sheet : ByteArray := prog_1_method_30_code
def yX6_sheet : MethodName := ⟨RX6, "sheet", "(III)I"⟩
abbrev cX6_mark : ByteArray := prog_1_method_31_code
def yX6_mark : MethodName := ⟨RX6, "mark", "(III)I"⟩
abbrev cX6_pour : ByteArray := prog_1_method_32_code
def yX6_pour : MethodName := ⟨RX6, "pour", "(I)I"⟩
abbrev cX6_reads : ByteArray := prog_1_method_33_code
def yX6_reads : MethodName := ⟨RX6, "reads", "(I)I"⟩
abbrev cX6_copy : ByteArray := prog_1_method_34_code
def yX6_copy : MethodName := ⟨RX6, "copy", "(IIIII)I"⟩
abbrev cX6_lay : ByteArray := prog_1_method_35_code
def yX6_lay : MethodName := ⟨RX6, "lay", "(III)I"⟩
abbrev cX6_ask : ByteArray := prog_1_method_36_code
def yX6_ask : MethodName := ⟨RX6, "ask", "(II)I"⟩
abbrev cX6_item : ByteArray := prog_1_method_37_code
def yX6_item : MethodName := ⟨RX6, "item", "(II)I"⟩
abbrev cX6_rest : ByteArray := prog_1_method_38_code
def yX6_rest : MethodName := ⟨RX6, "rest", "(II)I"⟩
abbrev cX6_sheetAt : ByteArray := prog_1_method_39_code
def yX6_sheetAt : MethodName := ⟨RX6, "sheetAt", "(I)LRopeFerry$Sheet;"⟩
abbrev cX6_slotAt : ByteArray := prog_1_method_40_code
def yX6_slotAt : MethodName := ⟨RX6, "slotAt", "(I)LRopeFerry$Slot;"⟩
abbrev cX6_tell : ByteArray := prog_1_method_41_code
def yX6_tell : MethodName := ⟨RX6, "tell", "(I)I"⟩
abbrev cX6_check : ByteArray := prog_1_method_42_code
def yX6_check : MethodName := ⟨RX6, "check", "(I)I"⟩
abbrev cX6_isNumberAt : ByteArray := prog_1_method_43_code
def yX6_isNumberAt : MethodName := ⟨RX6, "isNumberAt", "(III)Z"⟩
abbrev cX6_keep : ByteArray := prog_1_method_44_code
def yX6_keep : MethodName := ⟨RX6, "keep", "()I"⟩
abbrev cX6_back : ByteArray := prog_1_method_45_code
def yX6_back : MethodName := ⟨RX6, "back", "()I"⟩
abbrev cX6_count : ByteArray := prog_1_method_46_code
def yX6_count : MethodName := ⟨RX6, "count", "(I)I"⟩
abbrev cX6_within : ByteArray := prog_1_method_47_code
def yX6_within : MethodName := ⟨RX6, "within", "(III)Z"⟩
abbrev cX6_held : ByteArray := prog_1_method_48_code
def yX6_held : MethodName := ⟨RX6, "held", "(III)I"⟩
abbrev cX6_swapped : ByteArray := prog_1_method_49_code
def yX6_swapped : MethodName := ⟨RX6, "swapped", "([IIIII)I"⟩
def RX7 : String := "RopeFerryModel"
def TX7 : u_T := fun k => match k with
  | 0 => ("RopeFerryModel", "s", "[I", true)
  | 1 => ("RopeFerryModel", "image", "[I", true)
  | 2 => ("RopeFerryModel", "aside", "[I", true)
  | 3 => ("RopeFerryModel", "hasImage", "Z", false)
  | 4 => ("RopeFerryModel", "tSort", "[I", true)
  | 5 => ("RopeFerryModel", "tSize", "[I", true)
  | 6 => ("RopeFerryModel", "tNumber", "[I", true)
  | 7 => ("RopeFerryModel", "held", "[I", true)
  | 8 => ("RopeFerryModel", "heldNumber", "[I", true)
  | 9 => ("RopeFerryModel", "heldWorth", "[I", true)
  | 10 => ("RopeFerryModel", "heldSize", "[I", true)
  | 11 => ("RopeFerryModel", "heldRow", "[I", true)
  | 12 => ("RopeFerryModel", "unasked", "I", false)
  | 13 => ("RopeFerryModel", "paying", "[I", true)
  | 14 => ("RopeFerryModel", "close", "[I", true)
  | 15 => ("RopeFerryModel", "tape", "[I", true)
  | 16 => ("RopeFerryModel", "taped", "I", false)
  | 17 => ("RopeFerryModel", "begin", "I", false)
  | 18 => ("RopeFerryModel", "behind", "I", false)
  | 19 => ("RopeFerryModel", "token", "I", false)
  | 20 => ("RopeFerryModel", "number", "I", false)
  | 21 => ("RopeFerryModel", "letter", "I", false)
  | 22 => ("RopeFerryModel", "deep", "I", false)
  | 23 => ("RopeFerryModel", "turned", "I", false)
  | 24 => ("RopeFerryModel", "laid", "I", false)
  | 25 => ("RopeFerryModel", "laidAt", "I", false)
  | 26 => ("RopeFerryModel", "said", "I", false)
  | 27 => ("RopeFerryModel", "named", "[I", true)
  | 28 => ("RopeFerryModel", "pile", "[I", true)
  | 29 => ("RopeFerryModel", "carried", "[I", true)
  | 30 => ("RopeFerryModel", "waits", "[I", true)
  | 31 => ("RopeFerryModel", "waiting", "I", false)
  | _ => ("RopeFerryModel", "rowDue", "[I", true)
def tyX7 : Nat → FieldType := fun k => match k with
  | 0 => .array .int
  | 1 => .array .int
  | 2 => .array .int
  | 3 => .boolean
  | 4 => .array .int
  | 5 => .array .int
  | 6 => .array .int
  | 7 => .array .int
  | 8 => .array .int
  | 9 => .array .int
  | 10 => .array .int
  | 11 => .array .int
  | 12 => .int
  | 13 => .array .int
  | 14 => .array .int
  | 15 => .array .int
  | 16 => .int
  | 17 => .int
  | 18 => .int
  | 19 => .int
  | 20 => .int
  | 21 => .int
  | 22 => .int
  | 23 => .int
  | 24 => .int
  | 25 => .int
  | 26 => .int
  | 27 => .array .int
  | 28 => .array .int
  | 29 => .array .int
  | 30 => .array .int
  | 31 => .int
  | _ => .array .int
abbrev wsX70 : List Cond := u_ws RX7 TX7 33
theorem nmX7 : ∀ a, a < 33 → ∀ b, b < 33 → a ≠ b → (TX7 a).2.1 ≠ (TX7 b).2.1 := by decide +kernel
theorem tyX7_ok : ∀ k, k < 33 → parseFieldDescriptor (TX7 k).2.2.1 = some (tyX7 k) := by decide +kernel
abbrev cX7_init : ByteArray := prog_9_method_1_code
def yX7_init : MethodName := ⟨RX7, "<init>", "()V"⟩
abbrev cX7_isIn : ByteArray := prog_9_method_2_code
def yX7_isIn : MethodName := ⟨RX7, "isIn", "(JJJ)Z"⟩
abbrev cX7_orNone : ByteArray := prog_9_method_3_code
def yX7_orNone : MethodName := ⟨RX7, "orNone", "(I)I"⟩
abbrev cX7_held : ByteArray := prog_9_method_4_code
def yX7_held : MethodName := ⟨RX7, "held", "(III)I"⟩
abbrev cX7_off : ByteArray := prog_9_method_5_code
def yX7_off : MethodName := ⟨RX7, "off", "(II)I"⟩
abbrev cX7_manyIn : ByteArray := prog_9_method_6_code
def yX7_manyIn : MethodName := ⟨RX7, "manyIn", "(I)I"⟩
abbrev cX7_becomes : ByteArray := prog_9_method_7_code
def yX7_becomes : MethodName := ⟨RX7, "becomes", "(II)I"⟩
abbrev cX7_textAt : ByteArray := prog_9_method_8_code
def yX7_textAt : MethodName := ⟨RX7, "textAt", "(I)I"⟩
abbrev cX7_of : ByteArray := prog_9_method_9_code
def yX7_of : MethodName := ⟨RX7, "of", "(II)I"⟩
abbrev cX7_sets : ByteArray := prog_9_method_10_code
def yX7_sets : MethodName := ⟨RX7, "sets", "(III)V"⟩
abbrev cX7_isLoad : ByteArray := prog_9_method_11_code
def yX7_isLoad : MethodName := ⟨RX7, "isLoad", "(I)Z"⟩
abbrev cX7_isText : ByteArray := prog_9_method_12_code
def yX7_isText : MethodName := ⟨RX7, "isText", "(I)Z"⟩
abbrev cX7_drawn : ByteArray := prog_9_method_13_code
def yX7_drawn : MethodName := ⟨RX7, "drawn", "()I"⟩
abbrev cX7_comes : ByteArray := prog_9_method_14_code
def yX7_comes : MethodName := ⟨RX7, "comes", "(III)V"⟩
abbrev cX7_load : ByteArray := prog_9_method_15_code
def yX7_load : MethodName := ⟨RX7, "load", "(III)I"⟩
abbrev cX7_pays : ByteArray := prog_9_method_16_code
def yX7_pays : MethodName := ⟨RX7, "pays", "(I)I"⟩
abbrev cX7_takes : ByteArray := prog_9_method_17_code
def yX7_takes : MethodName := ⟨RX7, "takes", "(I)I"⟩
abbrev cX7_urges : ByteArray := prog_9_method_18_code
def yX7_urges : MethodName := ⟨RX7, "urges", "(I)I"⟩
abbrev cX7_worth : ByteArray := prog_9_method_19_code
def yX7_worth : MethodName := ⟨RX7, "worth", "(I)I"⟩
abbrev cX7_told : ByteArray := prog_9_method_20_code
def yX7_told : MethodName := ⟨RX7, "told", "(II)I"⟩
abbrev cX7_isOf : ByteArray := prog_9_method_21_code
def yX7_isOf : MethodName := ⟨RX7, "isOf", "(II)Z"⟩
abbrev cX7_as : ByteArray := prog_9_method_22_code
def yX7_as : MethodName := ⟨RX7, "as", "(II)I"⟩
abbrev cX7_turns : ByteArray := prog_9_method_23_code
def yX7_turns : MethodName := ⟨RX7, "turns", "(II)I"⟩
abbrev cX7_set : ByteArray := prog_9_method_24_code
def yX7_set : MethodName := ⟨RX7, "set", "(III)I"⟩
abbrev cX7_effect : ByteArray := prog_9_method_25_code
def yX7_effect : MethodName := ⟨RX7, "effect", "()I"⟩
abbrev cX7_minutes : ByteArray := prog_9_method_26_code
def yX7_minutes : MethodName := ⟨RX7, "minutes", "()I"⟩
abbrev cX7_boat : ByteArray := prog_9_method_27_code
def yX7_boat : MethodName := ⟨RX7, "boat", "(I)I"⟩
abbrev cX7_mostOf : ByteArray := prog_9_method_28_code
def yX7_mostOf : MethodName := ⟨RX7, "mostOf", "(I)I"⟩
abbrev cX7_rule : ByteArray := prog_9_method_29_code
def yX7_rule : MethodName := ⟨RX7, "rule", "(II)I"⟩
abbrev cX7_pullOf : ByteArray := prog_9_method_30_code
def yX7_pullOf : MethodName := ⟨RX7, "pullOf", "(I)I"⟩
abbrev cX7_pull : ByteArray := prog_9_method_31_code
def yX7_pull : MethodName := ⟨RX7, "pull", "(I)I"⟩
abbrev cX7_nextUrging : ByteArray := prog_9_method_32_code
def yX7_nextUrging : MethodName := ⟨RX7, "nextUrging", "(I)I"⟩
abbrev cX7_loads : ByteArray := prog_9_method_33_code
def yX7_loads : MethodName := ⟨RX7, "loads", "()I"⟩
abbrev cX7_loading : ByteArray := prog_9_method_34_code
def yX7_loading : MethodName := ⟨RX7, "loading", "()I"⟩
abbrev cX7_deal : ByteArray := prog_9_method_35_code
def yX7_deal : MethodName := ⟨RX7, "deal", "(I)I"⟩
abbrev cX7_seed : ByteArray := prog_9_method_36_code
def yX7_seed : MethodName := ⟨RX7, "seed", "(I)I"⟩
abbrev cX7_manyOn : ByteArray := prog_9_method_37_code
def yX7_manyOn : MethodName := ⟨RX7, "manyOn", "(I)I"⟩
abbrev cX7_hasDoctor : ByteArray := prog_9_method_38_code
def yX7_hasDoctor : MethodName := ⟨RX7, "hasDoctor", "(I)Z"⟩
abbrev cX7_stays : ByteArray := prog_9_method_39_code
def yX7_stays : MethodName := ⟨RX7, "stays", "()I"⟩
abbrev cX7_goesOn : ByteArray := prog_9_method_40_code
def yX7_goesOn : MethodName := ⟨RX7, "goesOn", "()V"⟩
abbrev cX7_steps : ByteArray := prog_9_method_41_code
def yX7_steps : MethodName := ⟨RX7, "steps", "(I)I"⟩
abbrev cX7_allOf : ByteArray := prog_9_method_42_code
def yX7_allOf : MethodName := ⟨RX7, "allOf", "(I)I"⟩
abbrev cX7_book : ByteArray := prog_9_method_43_code
def yX7_book : MethodName := ⟨RX7, "book", "(I)I"⟩
abbrev cX7_high : ByteArray := prog_9_method_44_code
def yX7_high : MethodName := ⟨RX7, "high", "()I"⟩
abbrev cX7_best : ByteArray := prog_9_method_45_code
def yX7_best : MethodName := ⟨RX7, "best", "(I)I"⟩
abbrev cX7_laysBy : ByteArray := prog_9_method_46_code
def yX7_laysBy : MethodName := ⟨RX7, "laysBy", "()V"⟩
abbrev cX7_laysBack : ByteArray := prog_9_method_47_code
def yX7_laysBack : MethodName := ⟨RX7, "laysBack", "()V"⟩
abbrev cX7_goesOnMany : ByteArray := prog_9_method_48_code
def yX7_goesOnMany : MethodName := ⟨RX7, "goesOnMany", "(I)V"⟩
abbrev cX7_behind : ByteArray := prog_9_method_49_code
def yX7_behind : MethodName := ⟨RX7, "behind", "(II)I"⟩
abbrev cX7_slant : ByteArray := prog_9_method_50_code
def yX7_slant : MethodName := ⟨RX7, "slant", "(II)I"⟩
abbrev cX7_patience : ByteArray := prog_9_method_51_code
def yX7_patience : MethodName := ⟨RX7, "patience", "(II)I"⟩
abbrev cX7_left : ByteArray := prog_9_method_52_code
def yX7_left : MethodName := ⟨RX7, "left", "(II)I"⟩
abbrev cX7_areOver : ByteArray := prog_9_method_53_code
def yX7_areOver : MethodName := ⟨RX7, "areOver", "()Z"⟩
abbrev cX7_allOver : ByteArray := prog_9_method_54_code
def yX7_allOver : MethodName := ⟨RX7, "allOver", "()I"⟩
abbrev cX7_fine : ByteArray := prog_9_method_55_code
def yX7_fine : MethodName := ⟨RX7, "fine", "()I"⟩
abbrev cX7_feed : ByteArray := prog_9_method_56_code
def yX7_feed : MethodName := ⟨RX7, "feed", "(III)I"⟩
abbrev cX7_trim : ByteArray := prog_9_method_57_code
def yX7_trim : MethodName := ⟨RX7, "trim", "(I)I"⟩
abbrev cX7_isLetter : ByteArray := prog_9_method_58_code
def yX7_isLetter : MethodName := ⟨RX7, "isLetter", "(I)Z"⟩
abbrev cX7_isDigit : ByteArray := prog_9_method_59_code
def yX7_isDigit : MethodName := ⟨RX7, "isDigit", "(I)Z"⟩
abbrev cX7_nextToken : ByteArray := prog_9_method_60_code
def yX7_nextToken : MethodName := ⟨RX7, "nextToken", "()V"⟩
abbrev cX7_isSign : ByteArray := prog_9_method_61_code
def yX7_isSign : MethodName := ⟨RX7, "isSign", "(I)Z"⟩
abbrev cX7_isWordAt : ByteArray := prog_9_method_62_code
def yX7_isWordAt : MethodName := ⟨RX7, "isWordAt", "(IIII)Z"⟩
abbrev cX7_key : ByteArray := prog_9_method_63_code
def yX7_key : MethodName := ⟨RX7, "key", "()I"⟩
abbrev cX7_isName : ByteArray := prog_9_method_64_code
def yX7_isName : MethodName := ⟨RX7, "isName", "(II)Z"⟩
abbrev cX7_step : ByteArray := prog_9_method_65_code
def yX7_step : MethodName := ⟨RX7, "step", "(II)V"⟩
abbrev cX7_either : ByteArray := prog_9_method_66_code
def yX7_either : MethodName := ⟨RX7, "either", "(I)Z"⟩
abbrev cX7_both : ByteArray := prog_9_method_67_code
def yX7_both : MethodName := ⟨RX7, "both", "(I)Z"⟩
abbrev cX7_test : ByteArray := prog_9_method_68_code
def yX7_test : MethodName := ⟨RX7, "test", "(I)Z"⟩
abbrev cX7_sum : ByteArray := prog_9_method_69_code
def yX7_sum : MethodName := ⟨RX7, "sum", "(I)Z"⟩
abbrev cX7_term : ByteArray := prog_9_method_70_code
def yX7_term : MethodName := ⟨RX7, "term", "(I)Z"⟩
abbrev cX7_part0 : ByteArray := prog_9_method_71_code
def yX7_part0 : MethodName := ⟨RX7, "part0", "(I)Z"⟩
abbrev cX7_parse : ByteArray := prog_9_method_72_code
def yX7_parse : MethodName := ⟨RX7, "parse", "()I"⟩
abbrev cX7_text : ByteArray := prog_9_method_73_code
def yX7_text : MethodName := ⟨RX7, "text", "()I"⟩
abbrev cX7_textTold : ByteArray := prog_9_method_74_code
def yX7_textTold : MethodName := ⟨RX7, "textTold", "(II)I"⟩
abbrev cX7_counts : ByteArray := prog_9_method_75_code
def yX7_counts : MethodName := ⟨RX7, "counts", "(I)I"⟩
abbrev cX7_why : ByteArray := prog_9_method_76_code
def yX7_why : MethodName := ⟨RX7, "why", "(I)I"⟩
abbrev cX7_joined : ByteArray := prog_9_method_77_code
def yX7_joined : MethodName := ⟨RX7, "joined", "(III)I"⟩
abbrev cX7_worked : ByteArray := prog_9_method_78_code
def yX7_worked : MethodName := ⟨RX7, "worked", "(I)I"⟩
abbrev cX7_isSheet : ByteArray := prog_9_method_79_code
def yX7_isSheet : MethodName := ⟨RX7, "isSheet", "(I)Z"⟩
abbrev cX7_sheet : ByteArray := prog_9_method_80_code
def yX7_sheet : MethodName := ⟨RX7, "sheet", "(III)I"⟩
abbrev cX7_mark : ByteArray := prog_9_method_81_code
def yX7_mark : MethodName := ⟨RX7, "mark", "(III)I"⟩
abbrev cX7_pour : ByteArray := prog_9_method_82_code
def yX7_pour : MethodName := ⟨RX7, "pour", "(I)I"⟩
abbrev cX7_reads : ByteArray := prog_9_method_83_code
def yX7_reads : MethodName := ⟨RX7, "reads", "(I)I"⟩
abbrev cX7_slanted : ByteArray := prog_9_method_84_code
def yX7_slanted : MethodName := ⟨RX7, "slanted", "(II)I"⟩
abbrev cX7_copy : ByteArray := prog_9_method_85_code
def yX7_copy : MethodName := ⟨RX7, "copy", "(IIIII)I"⟩
abbrev cX7_isSlot : ByteArray := prog_9_method_86_code
def yX7_isSlot : MethodName := ⟨RX7, "isSlot", "(I)Z"⟩
abbrev cX7_lay : ByteArray := prog_9_method_87_code
def yX7_lay : MethodName := ⟨RX7, "lay", "(III)I"⟩
abbrev cX7_ask : ByteArray := prog_9_method_88_code
def yX7_ask : MethodName := ⟨RX7, "ask", "(II)I"⟩
abbrev cX7_item : ByteArray := prog_9_method_89_code
def yX7_item : MethodName := ⟨RX7, "item", "(II)I"⟩
abbrev cX7_rest : ByteArray := prog_9_method_90_code
def yX7_rest : MethodName := ⟨RX7, "rest", "(II)I"⟩
abbrev cX7_tell : ByteArray := prog_9_method_91_code
def yX7_tell : MethodName := ⟨RX7, "tell", "(I)I"⟩
abbrev cX7_setAside : ByteArray := prog_9_method_92_code
def yX7_setAside : MethodName := ⟨RX7, "setAside", "([I[I)V"⟩
abbrev cX7_check : ByteArray := prog_9_method_93_code
def yX7_check : MethodName := ⟨RX7, "check", "(I)I"⟩
abbrev cX7_keep : ByteArray := prog_9_method_94_code
def yX7_keep : MethodName := ⟨RX7, "keep", "()I"⟩
abbrev cX7_back : ByteArray := prog_9_method_95_code
def yX7_back : MethodName := ⟨RX7, "back", "()I"⟩
abbrev cX7_count : ByteArray := prog_9_method_96_code
def yX7_count : MethodName := ⟨RX7, "count", "(I)I"⟩
def RJ6 : String := "java/lang/Integer"
def TJ6 : u_T := fun k => match k with
  | _ => ("", "", "", false)
def tyJ6 : Nat → FieldType := fun k => match k with
  | _ => .int
abbrev wsJ60 : List Cond := u_ws RJ6 TJ6 0
theorem nmJ6 : ∀ a, a < 0 → ∀ b, b < 0 → a ≠ b → (TJ6 a).2.1 ≠ (TJ6 b).2.1 := by decide +kernel
theorem tyJ6_ok : ∀ k, k < 0 → parseFieldDescriptor (TJ6 k).2.2.1 = some (tyJ6 k) := by decide +kernel
abbrev cJ6_bitCount_0f7a4 : ByteArray := prog_10_method_49_code
def yJ6_bitCount_0f7a4 : MethodName := ⟨RJ6, "bitCount", "(I)I"⟩
def RJ9 : String := "java/lang/Math"
def TJ9 : u_T := fun k => match k with
  | _ => ("", "", "", false)
def tyJ9 : Nat → FieldType := fun k => match k with
  | _ => .int
abbrev wsJ90 : List Cond := u_ws RJ9 TJ9 0
theorem nmJ9 : ∀ a, a < 0 → ∀ b, b < 0 → a ≠ b → (TJ9 a).2.1 ≠ (TJ9 b).2.1 := by decide +kernel
theorem tyJ9_ok : ∀ k, k < 0 → parseFieldDescriptor (TJ9 k).2.2.1 = some (tyJ9 k) := by decide +kernel
abbrev cJ9_abs_0f7a4 : ByteArray := prog_11_method_59_code
def yJ9_abs_0f7a4 : MethodName := ⟨RJ9, "abs", "(I)I"⟩
abbrev cJ9_max_7cf53 : ByteArray := prog_11_method_65_code
def yJ9_max_7cf53 : MethodName := ⟨RJ9, "max", "(II)I"⟩
abbrev cJ9_min_7cf53 : ByteArray := prog_11_method_69_code
def yJ9_min_7cf53 : MethodName := ⟨RJ9, "min", "(II)I"⟩
def RJ0 : String := "java/lang/String"
def TJ0 : u_T := fun k => match k with
  | _ => ("", "", "", false)
def tyJ0 : Nat → FieldType := fun k => match k with
  | _ => .int
abbrev wsJ00 : List Cond := u_ws RJ0 TJ0 0
theorem nmJ0 : ∀ a, a < 0 → ∀ b, b < 0 → a ≠ b → (TJ0 a).2.1 ≠ (TJ0 b).2.1 := by decide +kernel
theorem tyJ0_ok : ∀ k, k < 0 → parseFieldDescriptor (TJ0 k).2.2.1 = some (tyJ0 k) := by decide +kernel
abbrev cJ0_length_8abf5 : ByteArray := prog_12_method_54_code
def yJ0_length_8abf5 : MethodName := ⟨RJ0, "length", "()I"⟩
abbrev cJ0_charAt_5068e : ByteArray := prog_12_method_56_code
def yJ0_charAt_5068e : MethodName := ⟨RJ0, "charAt", "(I)C"⟩
abbrev cJ0_coder_7d493 : ByteArray := prog_12_method_152_code
def yJ0_coder_7d493 : MethodName := ⟨RJ0, "coder", "()B"⟩
abbrev cJ0_isLatin1_aae02 : ByteArray := prog_12_method_154_code
def yJ0_isLatin1_aae02 : MethodName := ⟨RJ0, "isLatin1", "()Z"⟩
abbrev cJ0_checkIndex_df160 : ByteArray := prog_12_method_155_code
def yJ0_checkIndex_df160 : MethodName := ⟨RJ0, "checkIndex", "(II)V"⟩
def RJ1 : String := "java/lang/StringLatin1"
def TJ1 : u_T := fun k => match k with
  | _ => ("", "", "", false)
def tyJ1 : Nat → FieldType := fun k => match k with
  | _ => .int
abbrev wsJ10 : List Cond := u_ws RJ1 TJ1 0
theorem nmJ1 : ∀ a, a < 0 → ∀ b, b < 0 → a ≠ b → (TJ1 a).2.1 ≠ (TJ1 b).2.1 := by decide +kernel
theorem tyJ1_ok : ∀ k, k < 0 → parseFieldDescriptor (TJ1 k).2.2.1 = some (tyJ1 k) := by decide +kernel
abbrev cJ1_charAt_3b067 : ByteArray := prog_13_method_2_code
def yJ1_charAt_3b067 : MethodName := ⟨RJ1, "charAt", "([BI)C"⟩
def RJ2 : String := "java/lang/StringUTF16"
def TJ2 : u_T := fun k => match k with
  | _ => ("", "", "", false)
def tyJ2 : Nat → FieldType := fun k => match k with
  | _ => .int
abbrev wsJ20 : List Cond := u_ws RJ2 TJ2 0
theorem nmJ2 : ∀ a, a < 0 → ∀ b, b < 0 → a ≠ b → (TJ2 a).2.1 ≠ (TJ2 b).2.1 := by decide +kernel
theorem tyJ2_ok : ∀ k, k < 0 → parseFieldDescriptor (TJ2 k).2.2.1 = some (tyJ2 k) := by decide +kernel
abbrev cJ2_getChar_3b067 : ByteArray := prog_14_method_5_code
def yJ2_getChar_3b067 : MethodName := ⟨RJ2, "getChar", "([BI)C"⟩
abbrev cJ2_length_9d52b : ByteArray := prog_14_method_6_code
def yJ2_length_9d52b : MethodName := ⟨RJ2, "length", "([B)I"⟩
abbrev cJ2_charAt_3b067 : ByteArray := prog_14_method_83_code
def yJ2_charAt_3b067 : MethodName := ⟨RJ2, "charAt", "([BI)C"⟩
abbrev cJ2_checkIndex_2214a : ByteArray := prog_14_method_91_code
def yJ2_checkIndex_2214a : MethodName := ⟨RJ2, "checkIndex", "(I[B)V"⟩
def RJ10 : String := "java/lang/System"
def TJ10 : u_T := fun k => match k with
  | _ => ("", "", "", false)
def tyJ10 : Nat → FieldType := fun k => match k with
  | _ => .int
abbrev wsJ100 : List Cond := u_ws RJ10 TJ10 0
theorem nmJ10 : ∀ a, a < 0 → ∀ b, b < 0 → a ≠ b → (TJ10 a).2.1 ≠ (TJ10 b).2.1 := by decide +kernel
theorem tyJ10_ok : ∀ k, k < 0 → parseFieldDescriptor (TJ10 k).2.2.1 = some (tyJ10 k) := by decide +kernel
def RJ3 : String := "jdk/internal/util/Preconditions"
def TJ3 : u_T := fun k => match k with
  | _ => ("", "", "", false)
def tyJ3 : Nat → FieldType := fun k => match k with
  | _ => .int
abbrev wsJ30 : List Cond := u_ws RJ3 TJ3 0
theorem nmJ3 : ∀ a, a < 0 → ∀ b, b < 0 → a ≠ b → (TJ3 a).2.1 ≠ (TJ3 b).2.1 := by decide +kernel
theorem tyJ3_ok : ∀ k, k < 0 → parseFieldDescriptor (TJ3 k).2.2.1 = some (tyJ3 k) := by decide +kernel
abbrev cJ3_checkIndex_8e157 : ByteArray := prog_16_method_11_code
def yJ3_checkIndex_8e157 : MethodName := ⟨RJ3, "checkIndex", "(IILjava/util/function/BiFunction;)I"⟩
def RL : String := "RopeFerryLaw"
abbrev cL_law : ByteArray := code
def yL_law : MethodName := ⟨RL, "law", "([I)Z"⟩
end
section
/-! OUR OWN MACHINE: first-order steps over a heap of numbers; cells are numbered; refs stand for cells -/
abbrev zH : Type := Nat → Nat → Int32
abbrev zL : Type := List (Option Value)
abbrev zS : Type := List Value
/-- pc, instruction, a, b, d, v, switch rows -/
abbrev zE : Type := Nat × Instr × Nat × Nat × Nat × Int32 × List (Int32 × Nat)
/-- goes on | calls (next pc, method, arguments, locals, stack) | returns -/
abbrev zO : Type := (Nat × zL × zS × zH) ⊕ ((Nat × Nat × List Value × zL × zS) ⊕ Option Value)
/-- the sorts of cells and the lengths of arrays -/
def zShA : List (Nat × Nat) :=
  [(6,0),(1,0),(10,14),(10,14),(10,14),(10,1344),(10,96),(2,0),(10,96),(10,96)]
  ++ [(5,0),(10,10),(10,10),(10,10),(10,10),(10,10),(10,6),(10,3)]
  ++ [(5,0),(10,10),(10,10),(10,10),(10,10),(10,10),(10,6),(10,3)]
  ++ [(5,0),(10,10),(10,10),(10,10),(10,10),(10,10),(10,6),(10,3)]
  ++ [(11,4),(3,0),(10,24),(3,0),(10,24),(3,0),(10,24),(3,0),(10,24),(12,5)]
  ++ [(4,0),(3,0),(10,24),(4,0),(3,0),(10,24),(4,0),(3,0),(10,24),(4,0),(3,0),(10,24),(4,0),(3,0),(10,24),(10,60)]
  ++ [(7,0),(10,3062),(10,3062),(10,3062),(10,4),(10,4),(10,96),(10,5),(10,5),(10,5),(10,5),(10,120),(10,10),(10,62),(10,96),(10,128),(10,100),(10,24),(10,60),(10,60)]
  ++ [(20,6),(20,6),(20,6),(22,9),(21,0),(99,0),(23,4),(23,4),(23,4)]
def zcls (c : Nat) : Nat := (zShA.getD c (99, 0)).1
def zaln (c : Nat) : Nat := (zShA.getD c (99, 0)).2
/-- the arrays of constants -/
def zkoA : List (List Int32) := [[-1,0,0,1,2,0],[0,0,1,0,1,0],[1,90,20,99,9999,10],[119,115,118,115,119,97,116,112,32]]
def zkon (c k : Nat) : Int32 := (zkoA.getD (c - 80) []).getD k 0
/-- how many fields -/
def znf (ci : Nat) : Nat := [0,5,11,3,5,15,10,33].getD ci 0
/-- the fields that hold references: where they point to -/
def zrfo (ci k c : Nat) : Option Nat := match ci, k with
  | 1, 0 => some 2 | 1, 1 => some 3 | 1, 2 => some 4 | 1, 3 => some 5 | 1, 4 => some 6
  | 2, 0 => some 8 | 2, 8 => some 9
  | 3, 2 => some (c + 1)
  | 4, 4 => some (c + 1)
  | 5, 0 => some 1 | 5, 2 => some (c + 1) | 5, 3 => some (c + 2) | 5, 4 => some (c + 3) | 5, 5 => some (c + 4) | 5, 6 => some (c + 5) | 5, 7 => some (c + 6) | 5, 13 => some (c + 7)
  | 6, 0 => some 1 | 6, 1 => some 7 | 6, 2 => some 10 | 6, 3 => some 18 | 6, 4 => some 26 | 6, 6 => some 34 | 6, 7 => some 43 | 6, 8 => some 59
  | 7, 0 => some 61 | 7, 1 => some 62 | 7, 2 => some 63 | 7, 4 => some 64 | 7, 5 => some 65 | 7, 6 => some 66 | 7, 7 => some 67 | 7, 8 => some 68 | 7, 9 => some 69 | 7, 10 => some 70 | 7, 11 => some 71 | 7, 13 => some 72 | 7, 14 => some 73 | 7, 15 => some 74 | 7, 27 => some 75 | 7, 28 => some 76 | 7, 29 => some 77 | 7, 30 => some 78 | 7, 32 => some 79
  | _, _ => none
def zfv (h : zH) (ci k c : Nat) : Value := match zrfo ci k c with
  | some r => .ref r
  | none => .int (h c k)
/-- a row of the heap replaced -/
def zhr (h : zH) (c : Nat) (r : Nat → Int32) : zH := fun c' => if c' = c then r else h c'
abbrev zix (i : Int32) : Nat := i.toNatClampNeg
/-- an index in range -/
def zok (i : Int32) (n : Nat) : Prop := ¬ i < 0 ∧ i.toNatClampNeg < n
def zp1 (st : zS) (f : Int32 → zS → Option zO) : Option zO := match st with | .int x :: r => f x r | _ => none
def zp2 (st : zS) (f : Int32 → Int32 → zS → Option zO) : Option zO := match st with | .int y :: .int x :: r => f x y r | _ => none
def zpR (st : zS) (f : Nat → zS → Option zO) : Option zO := match st with | .ref c :: r => f c r | _ => none
def zp1R (st : zS) (f : Int32 → Nat → zS → Option zO) : Option zO := match st with | .int x :: .ref c :: r => f x c r | _ => none
def zp2R (st : zS) (f : Int32 → Int32 → Nat → zS → Option zO) : Option zO := match st with | .int x :: .int i :: .ref c :: r => f x i c r | _ => none
def zpJ2 (st : zS) (f : Int64 → Int64 → zS → Option zO) : Option zO := match st with | .long y :: .long x :: r => f x y r | _ => none
def zpA (st : zS) (f : Option Nat → zS → Option zO) : Option zO := match st with | .ref c :: r => f (some c) r | .null :: r => f none r | _ => none
def zpV (st : zS) (f : Value → zS → Option zO) : Option zO := match st with | .int x :: r => f (.int x) r | .ref c :: r => f (.ref c) r | .null :: r => f .null r | _ => none
def zldI (lv : zL) (a : Nat) (f : Int32 → Option zO) : Option zO := match lv[a]? with | some (some (.int x)) => f x | _ => none
def zldJ (lv : zL) (a : Nat) (f : Int64 → Option zO) : Option zO := match lv[a]? with | some (some (.long x)) => f x | _ => none
def zldA (lv : zL) (a : Nat) (f : Option Nat → Option zO) : Option zO := match lv[a]? with | some (some (.ref c)) => f (some c) | some (some .null) => f none | _ => none
def zrf (r : Option Nat) : Value := match r with | some a => .ref a | none => .null
noncomputable def zif (c : Prop) (x : Option zO) : Option zO := @ite _ c (Classical.propDecidable c) x none
def zsw (ks : List (Int32 × Nat)) (dflt : Nat) (x : Int32) : Nat := match ks with
  | [] => dflt
  | q :: l => if x = q.1 then q.2 else zsw l dflt x
def zif1 (c : Jvm.ClassFile.Cond) (x : Int32) (a b : Nat) : Nat := match c with
  | .eq => if x = 0 then a else b
  | .ne => if x = 0 then b else a
  | .lt => if x < 0 then a else b
  | .ge => if x < 0 then b else a
  | .gt => if x ≤ 0 then b else a
  | .le => if x ≤ 0 then a else b
def zif2 (c : Jvm.ClassFile.Cond) (x y : Int32) (a b : Nat) : Nat := match c with
  | .eq => if x = y then a else b
  | .ne => if x = y then b else a
  | .lt => if x < y then a else b
  | .ge => if x < y then b else a
  | .gt => if x ≤ y then b else a
  | .le => if x ≤ y then a else b
/-- one step -/
noncomputable def znx (e : zE) (lv : zL) (st : zS) (h : zH) : Option zO := match e with
  | (pc, ins, a, b, d, v, ks) => match ins with
    | .iconst _ => some (.inl (pc + 1, lv, .int v :: st, h))
    | .bipush _ => some (.inl (pc + 2, lv, .int v :: st, h))
    | .sipush _ => some (.inl (pc + 3, lv, .int v :: st, h))
    | .ldc _ => some (.inl (pc + 2, lv, (if a = 0 then .int v else .ref b) :: st, h))
    | .ldc_w _ => some (.inl (pc + 3, lv, .int v :: st, h))
    | .lconst _ => some (.inl (pc + 1, lv, .long v.toInt64 :: st, h))
    | .ldc2_w _ => some (.inl (pc + 3, lv, .long v.toInt64 :: st, h))
    | .aconst_null => some (.inl (pc + 1, lv, .null :: st, h))
    | .iload _ => zldI lv a fun x => some (.inl (pc + 2, lv, .int x :: st, h))
    | .iload_n _ => zldI lv a fun x => some (.inl (pc + 1, lv, .int x :: st, h))
    | .lload _ => zldJ lv a fun x => some (.inl (pc + 2, lv, .long x :: st, h))
    | .lload_n _ => zldJ lv a fun x => some (.inl (pc + 1, lv, .long x :: st, h))
    | .aload _ => zldA lv a fun x => some (.inl (pc + 2, lv, zrf x :: st, h))
    | .aload_n _ => zldA lv a fun x => some (.inl (pc + 1, lv, zrf x :: st, h))
    | .istore _ => zp1 st fun x r => some (.inl (pc + 2, lv.set a (some (.int x)), r, h))
    | .istore_n _ => zp1 st fun x r => some (.inl (pc + 1, lv.set a (some (.int x)), r, h))
    | .astore _ => zpA st fun x r => some (.inl (pc + 2, lv.set a (some (zrf x)), r, h))
    | .astore_n _ => zpA st fun x r => some (.inl (pc + 1, lv.set a (some (zrf x)), r, h))
    | .iinc _ _ => zldI lv a fun x => some (.inl (pc + 3, lv.set a (some (.int (x + v))), st, h))
    | .iadd => zp2 st fun x y r => some (.inl (pc + 1, lv, .int (x + y) :: r, h))
    | .isub => zp2 st fun x y r => some (.inl (pc + 1, lv, .int (x - y) :: r, h))
    | .imul => zp2 st fun x y r => some (.inl (pc + 1, lv, .int (x * y) :: r, h))
    | .iand => zp2 st fun x y r => some (.inl (pc + 1, lv, .int (x &&& y) :: r, h))
    | .ior => zp2 st fun x y r => some (.inl (pc + 1, lv, .int (x ||| y) :: r, h))
    | .ixor => zp2 st fun x y r => some (.inl (pc + 1, lv, .int (x ^^^ y) :: r, h))
    | .idiv => zp2 st fun x y r => zif (¬ y = 0) (some (.inl (pc + 1, lv, .int (x / y) :: r, h)))
    | .irem => zp2 st fun x y r => zif (¬ y = 0) (some (.inl (pc + 1, lv, .int (x - x / y * y) :: r, h)))
    | .ineg => zp1 st fun x r => some (.inl (pc + 1, lv, .int (-x) :: r, h))
    | .ishl => zp2 st fun x y r => some (.inl (pc + 1, lv, .int (x <<< (y &&& 31)) :: r, h))
    | .ishr => zp2 st fun x y r => some (.inl (pc + 1, lv, .int (x >>> (y &&& 31)) :: r, h))
    | .iushr => zp2 st fun x y r => some (.inl (pc + 1, lv, .int ((x.toUInt32 >>> (y.toUInt32 &&& Int32.toUInt32 31)).toInt32) :: r, h))
    | .i2l => zp1 st fun x r => some (.inl (pc + 1, lv, .long x.toInt64 :: r, h))
    | .i2s => zp1 st fun x r => some (.inl (pc + 1, lv, .int x.toInt16.toInt32 :: r, h))
    | .ladd => zpJ2 st fun x y r => some (.inl (pc + 1, lv, .long (x + y) :: r, h))
    | .lcmp => zpJ2 st fun x y r => some (.inl (pc + 1, lv, .int (lg_cmp x y) :: r, h))
    | .dup => zpV st fun x r => some (.inl (pc + 1, lv, x :: x :: r, h))
    | .pop => zpV st fun _ r => some (.inl (pc + 1, lv, r, h))
    | .dup2 => zp1R st fun i c r => some (.inl (pc + 1, lv, .int i :: .ref c :: .int i :: .ref c :: r, h))
    | .goto _ => some (.inl (a, lv, st, h))
    | .ifCond c _ => zp1 st fun x r => some (.inl (zif1 c x a (pc + 3), lv, r, h))
    | .if_icmp c _ => zp2 st fun x y r => some (.inl (zif2 c x y a (pc + 3), lv, r, h))
    | .ifnull _ => zpA st fun x r => some (.inl (if x = none then a else pc + 3, lv, r, h))
    | .ifnonnull _ => zpA st fun x r => some (.inl (if x = none then pc + 3 else a, lv, r, h))
    | .tableswitch _ _ _ _ => zp1 st fun x r => some (.inl (zsw ks a x, lv, r, h))
    | .lookupswitch _ _ => zp1 st fun x r => some (.inl (zsw ks a x, lv, r, h))
    | .getfield _ => zpR st fun c r => zif (zcls c = a) (some (.inl (pc + 3, lv, zfv h a b c :: r, h)))
    | .putfield _ => zp1R st fun x c r => zif (zcls c = a ∧ (d = 0 ∨ x = 0 ∨ x = 1)) (some (.inl (pc + 3, lv, r, zhr h c (upd (h c) b x))))
    | .getstatic _ => some (.inl (pc + 3, lv, .ref b :: st, h))
    | .iaload => zp1R st fun i c r => match zcls c with
      | 10 => zif (zok i (zaln c)) (some (.inl (pc + 1, lv, .int (h c (zix i)) :: r, h)))
      | 20 => zif (zok i (zaln c)) (some (.inl (pc + 1, lv, .int (zkon c (zix i)) :: r, h)))
      | 21 => zif (zok i (zix (h 85 0))) (some (.inl (pc + 1, lv, .int (h 84 (zix i)) :: r, h)))
      | _ => none
    | .caload => zp1R st fun i c r => zif (zcls c = 22 ∧ zok i (zaln c)) (some (.inl (pc + 1, lv, .int (zkon c (zix i)) :: r, h)))
    | .aaload => zp1R st fun i c r => match zcls c with
      | 11 => zif (zok i 4) (some (.inl (pc + 1, lv, .ref (35 + 2 * zix i) :: r, h)))
      | 12 => zif (zok i 5) (some (.inl (pc + 1, lv, .ref (44 + 3 * zix i) :: r, h)))
      | _ => none
    | .iastore => zp2R st fun x i c r => zif (zcls c = 10 ∧ zok i (zaln c)) (some (.inl (pc + 1, lv, r, zhr h c (upd (h c) (zix i) x))))
    | .arraylength => zpR st fun c r => match zcls c with
      | 10 => some (.inl (pc + 1, lv, .int (Int32.ofNat (zaln c)) :: r, h))
      | 22 => some (.inl (pc + 1, lv, .int (Int32.ofNat (zaln c)) :: r, h))
      | 21 => some (.inl (pc + 1, lv, .int (h 85 0) :: r, h))
      | _ => none
    | .invokestatic _ => zif (b ≤ st.length ∧ (st.drop b).length ≤ 4) (some (.inr (.inl (pc + 3, a, (st.take b).reverse, lv, st.drop b))))
    | .invokevirtual _ => zif (b ≤ st.length) (zpR (st.drop b) fun c r => zif (zcls c = d ∧ r.length ≤ 4) (some (.inr (.inl (pc + 3, a, .ref c :: (st.take b).reverse, lv, r)))))
    | .ireturn => match st with
      | [.int x] => zif (d = 0 ∨ x = 0 ∨ x = 1) (some (.inr (.inr (some (.int x)))))
      | _ => none
    | .areturn => match st with
      | [.ref c] => some (.inr (.inr (some (.ref c))))
      | [.null] => some (.inr (.inr (some .null)))
      | _ => none
    | .return_ => match st with
      | [] => some (.inr (.inr none))
      | _ => none
    | _ => none
def zcopy (args : List Value) (h : zH) (Q : Option Value → zH → Prop) : Prop := match args with
  | [.ref a, .int sp, .ref b, .int dp, .int n] => (zcls a = 10 ∧ zcls b = 10 ∧ ¬ sp < 0 ∧ ¬ dp < 0 ∧ ¬ n < 0 ∧ zix sp + zix n ≤ zaln a ∧ zix dp + zix n ≤ zaln b) ∧ Q none (zhr h b (va_cpy (h a) (h b) (zix sp) (zix dp) (zix n)))
  | _ => False
/-- members of the JDK -/
def zbi (d : Nat) (y : Nat) (args : List Value) (h : zH) (Q : Option Value → zH → Prop) : Prop := match y with
  | 1000 => (match args with | [.int x, .int z] => Q (some (.int (if x < z then z else x))) h | _ => False)
  | 1001 => (match args with | [.int x, .int z] => Q (some (.int (if z < x then z else x))) h | _ => False)
  | 1002 => (match args with | [.int x] => Q (some (.int (if 0 ≤ x then x else 0 - x))) h | _ => False)
  | 1003 => zcopy args h Q
  | 1004 => (match args with | [.ref c] => (8 ≤ d ∧ zcls c = 23) ∧ Q (some (.int 4)) h | _ => False)
  | 1005 => (match args with | [.ref c, .int i] => (8 ≤ d ∧ zcls c = 23 ∧ zok i 4) ∧ Q (some (.int (([[116,111,108,108],[112,117,108,108],[102,105,110,101]].getD (c - 86) []).getD (zix i) 0))) h | _ => False)
  | _ => False
def zgo (cal : Nat → List Value → zH → (Option Value → zH → Prop) → Prop) (P : Nat → zL → zS → zH → Prop) (Q : Option Value → zH → Prop) (h : zH) : Option zO → Prop
  | none => False
  | some (.inl (pc, lv, st, h')) => P pc lv st h'
  | some (.inr (.inl (pc, y, args, lv, rest))) => cal y args h (fun r h' => P pc lv (r.toList ++ rest) h')
  | some (.inr (.inr v)) => Q v h
def zSx (cal : Nat → List Value → zH → (Option Value → zH → Prop) → Prop) (code : Nat → Option zE) (P : Nat → zL → zS → zH → Prop) (Q : Option Value → zH → Prop) (pc : Nat) (lv : zL) (st : zS) (h : zH) : Prop := match code pc with
  | none => False
  | some e => zgo cal P Q h (znx e lv st h)
/-- the least predicate that is closed -/
def zX0 (cal : Nat → List Value → zH → (Option Value → zH → Prop) → Prop) (code : Nat → Option zE) (Q : Option Value → zH → Prop) (pc : Nat) (lv : zL) (st : zS) (h : zH) : Prop :=
  ∀ P : Nat → zL → zS → zH → Prop, (∀ pc lv st h, zSx cal code P Q pc lv st h → P pc lv st h) → P pc lv st h
def zent (args : List Value) (n : Nat) : zL := args.flatMap (fun v => if v.category = 2 then [some v, none] else [some v]) ++ List.replicate (n - (args.flatMap (fun v => if v.category = 2 then [some v, (none : Option Value)] else [some v])).length) none
def zM0 (cod : Nat → Nat → Option zE) (nL : Nat → Nat) : Nat → Nat → List Value → zH → (Option Value → zH → Prop) → Prop
  | 0, _, _, _, _ => False
  | d + 1, y, args, h, Q => (1000 ≤ y → zbi d y args h Q) ∧ (y < 1000 → zX0 (zM0 cod nL d) (cod y) Q 0 (zent args (nL y)) [] h)
end
section
/-! laws of our machine: monotone, one step unfolded -/
theorem zgo_mono {cal : Nat → List Value → zH → (Option Value → zH → Prop) → Prop} (hc : ∀ y a h (Q Q' : Option Value → zH → Prop), (∀ r h, Q r h → Q' r h) → cal y a h Q → cal y a h Q') {P P' : Nat → zL → zS → zH → Prop} {Q Q' : Option Value → zH → Prop} (hP : ∀ pc lv st h, P pc lv st h → P' pc lv st h) (hQ : ∀ r h, Q r h → Q' r h) {h : zH} {o : Option zO} (hg : zgo cal P Q h o) : zgo cal P' Q' h o := by
  match o, hg with
  | some (.inl (pc, lv, st, h')), hg => exact hP _ _ _ _ hg
  | some (.inr (.inl (pc, y, args, lv, rest))), hg => exact hc _ _ _ _ _ (fun r h' q => hP _ _ _ _ q) hg
  | some (.inr (.inr v)), hg => exact hQ _ _ hg
theorem zSx_mono {cal : Nat → List Value → zH → (Option Value → zH → Prop) → Prop} (hc : ∀ y a h (Q Q' : Option Value → zH → Prop), (∀ r h, Q r h → Q' r h) → cal y a h Q → cal y a h Q') {code : Nat → Option zE} {P P' : Nat → zL → zS → zH → Prop} {Q Q' : Option Value → zH → Prop} (hP : ∀ pc lv st h, P pc lv st h → P' pc lv st h) (hQ : ∀ r h, Q r h → Q' r h) {pc : Nat} {lv : zL} {st : zS} {h : zH} (hg : zSx cal code P Q pc lv st h) : zSx cal code P' Q' pc lv st h := by
  unfold zSx at hg ⊢
  split
  · rename_i e; rw [e] at hg; exact hg
  · rename_i e he; rw [he] at hg; exact zgo_mono hc hP hQ hg
theorem zX0_in {cal : Nat → List Value → zH → (Option Value → zH → Prop) → Prop} (hc : ∀ y a h (Q Q' : Option Value → zH → Prop), (∀ r h, Q r h → Q' r h) → cal y a h Q → cal y a h Q') {code : Nat → Option zE} {Q : Option Value → zH → Prop} {pc : Nat} {lv : zL} {st : zS} {h : zH} (hg : zSx cal code (zX0 cal code Q) Q pc lv st h) : zX0 cal code Q pc lv st h := by
  intro P hP
  exact hP _ _ _ _ (zSx_mono hc (fun pc lv st h q => q P hP) (fun _ _ q => q) hg)
theorem zX0_out {cal : Nat → List Value → zH → (Option Value → zH → Prop) → Prop} (hc : ∀ y a h (Q Q' : Option Value → zH → Prop), (∀ r h, Q r h → Q' r h) → cal y a h Q → cal y a h Q') {code : Nat → Option zE} {Q : Option Value → zH → Prop} {pc : Nat} {lv : zL} {st : zS} {h : zH} (hg : zX0 cal code Q pc lv st h) : zSx cal code (zX0 cal code Q) Q pc lv st h :=
  hg (fun pc lv st h => zSx cal code (zX0 cal code Q) Q pc lv st h) (fun pc lv st h q => zSx_mono hc (fun pc lv st h q => zX0_in hc q) (fun _ _ q => q) q)
theorem zX0_unf {cal : Nat → List Value → zH → (Option Value → zH → Prop) → Prop} (hc : ∀ y a h (Q Q' : Option Value → zH → Prop), (∀ r h, Q r h → Q' r h) → cal y a h Q → cal y a h Q') {code : Nat → Option zE} {Q : Option Value → zH → Prop} {pc : Nat} {lv : zL} {st : zS} {h : zH} : zX0 cal code Q pc lv st h = zSx cal code (zX0 cal code Q) Q pc lv st h := propext ⟨zX0_out hc, zX0_in hc⟩
theorem zX0_mono {cal : Nat → List Value → zH → (Option Value → zH → Prop) → Prop} (hc : ∀ y a h (Q Q' : Option Value → zH → Prop), (∀ r h, Q r h → Q' r h) → cal y a h Q → cal y a h Q') {code : Nat → Option zE} {Q Q' : Option Value → zH → Prop} (hQ : ∀ r h, Q r h → Q' r h) {pc : Nat} {lv : zL} {st : zS} {h : zH} (hg : zX0 cal code Q pc lv st h) : zX0 cal code Q' pc lv st h :=
  hg (fun pc lv st h => zX0 cal code Q' pc lv st h) (fun pc lv st h q => zX0_in hc (zSx_mono hc (fun _ _ _ _ q => q) hQ q))
theorem zbi_mono {d y : Nat} {args : List Value} {h : zH} {Q Q' : Option Value → zH → Prop} (hQ : ∀ r h, Q r h → Q' r h) (hg : zbi d y args h Q) : zbi d y args h Q' := by
  unfold zbi at hg ⊢
  split at hg
  · split at hg
    · exact hQ _ _ hg
    · exact hg
  · split at hg
    · exact hQ _ _ hg
    · exact hg
  · split at hg
    · exact hQ _ _ hg
    · exact hg
  · unfold zcopy at hg ⊢
    split at hg
    · exact ⟨hg.1, hQ _ _ hg.2⟩
    · exact hg
  · split at hg
    · exact ⟨hg.1, hQ _ _ hg.2⟩
    · exact hg
  · split at hg
    · exact ⟨hg.1, hQ _ _ hg.2⟩
    · exact hg
  · exact hg.elim
theorem zM0_mono {cod : Nat → Nat → Option zE} {nL : Nat → Nat} : ∀ (d : Nat) (y : Nat) (a : List Value) (h : zH) (Q Q' : Option Value → zH → Prop), (∀ r h, Q r h → Q' r h) → zM0 cod nL d y a h Q → zM0 cod nL d y a h Q'
  | 0, _, _, _, _, _, _, hg => hg.elim
  | d + 1, y, a, h, Q, Q', hQ, hg => ⟨fun q => zbi_mono hQ (hg.1 q), fun q => zX0_mono (zM0_mono d) hQ (hg.2 q)⟩
end
section
/-! the methods: name, bytes, locals, result, how many parameters, static -/
def zyT0 : List (MethodName × ByteArray × Nat × Option FieldType × Nat × Bool) := [(yX0_isKind, cX0_isKind, 1, (some .boolean), 1, true),
  (yX0_isOf, cX0_isOf, 4, (some .boolean), 2, true),
  (yX0_pays, cX0_pays, 2, (some .int), 2, true),
  (yX0_takes, cX0_takes, 1, (some .int), 1, true),
  (yX0_urges, cX0_urges, 2, (some .int), 2, true),
  (yX0_worth, cX0_worth, 2, (some .int), 2, true),
  (yX1_learn, cX1_learn, 3, none, 2, false),
  (yX1_gives, cX1_gives, 8, (some .int), 4, false),
  (yX1_joined, cX1_joined, 3, (some .int), 3, true),
  (yX2_take, cX2_take, 3, none, 1, false),
  (yX2_readTape, cX2_readTape, 1, (some .int), 0, false),
  (yX2_goAhead, cX2_goAhead, 3, none, 0, false),
  (yX2_isWord, cX2_isWord, 1, (some .boolean), 0, false),
  (yX2_byteAt, cX2_byteAt, 2, (some .int), 1, false),
  (yX2_sortAt, cX2_sortAt, 3, (some .int), 1, false),
  (yX2_meetsFault, cX2_meetsFault, 1, none, 0, false),
  (yX2_isSign, cX2_isSign, 2, (some .boolean), 1, false),
  (yX2_puts, cX2_puts, 2, none, 1, false),
  (yX2_readKey, cX2_readKey, 1, none, 0, false),
  (yX2_spells, cX2_spells, 3, (some .boolean), 1, false),
  (yX2_readOr, cX2_readOr, 4, none, 2, false),
  (yX2_readAnd, cX2_readAnd, 4, none, 2, false),
  (yX2_readTest, cX2_readTest, 4, none, 2, false),
  (yX2_readSum, cX2_readSum, 5, none, 2, false),
  (yX2_readTerm, cX2_readTerm, 5, none, 2, false),
  (yX2_readPiece, cX2_readPiece, 3, none, 2, false)]
def zyT1 : List (MethodName × ByteArray × Nat × Option FieldType × Nat × Bool) := [(yX2_readClosing, cX2_readClosing, 1, none, 0, false),
  (yX2_readNumber, cX2_readNumber, 3, none, 0, false),
  (yX2_readName, cX2_readName, 2, none, 0, false),
  (yX2_name, cX2_name, 3, (some .int), 0, false),
  (yX3_becomesNew, cX3_becomesNew, 4, none, 2, false),
  (yX3_become, cX3_become, 2, none, 1, false),
  (yX3_isMissing, cX3_isMissing, 1, (some .boolean), 0, false),
  (yX3_hasPlace, cX3_hasPlace, 2, (some .boolean), 1, false),
  (yX3_hasPlaces, cX3_hasPlaces, 3, (some .boolean), 2, false),
  (yX3_isNumber, cX3_isNumber, 2, (some .boolean), 1, false),
  (yX5_become, cX5_become, 2, none, 1, false),
  (yX5_has, cX5_has, 2, (some .boolean), 1, false),
  (yX5_comes, cX5_comes, 5, (some .int), 3, false),
  (yX5_draw, cX5_draw, 1, (some .int), 0, false),
  (yX5_howManyOn, cX5_howManyOn, 4, (some .int), 1, false),
  (yX5_allOf, cX5_allOf, 4, (some .int), 1, false),
  (yX5_haveAllBeenOver, cX5_haveAllBeenOver, 2, (some .boolean), 0, false),
  (yX5_pays, cX5_pays, 4, (some .int), 1, false),
  (yX5_paidBy, cX5_paidBy, 4, (some .int), 1, false),
  (yX5_pullAt, cX5_pullAt, 4, (some .int), 2, false),
  (yX5_effect, cX5_effect, 1, (some .int), 0, false),
  (yX5_minutes, cX5_minutes, 2, (some .int), 0, false),
  (yX5_whoBoards, cX5_whoBoards, 8, (some .int), 0, false),
  (yX5_mostUrging, cX5_mostUrging, 6, (some .int), 1, false),
  (yX5_bestSet, cX5_bestSet, 7, (some .int), 0, false),
  (yX5_setOn, cX5_setOn, 4, (some .int), 1, false)]
def zyT2 : List (MethodName × ByteArray × Nat × Option FieldType × Nat × Bool) := [(yX5_mayCross, cX5_mayCross, 5, (some .boolean), 1, false),
  (yX5_goOn, cX5_goOn, 3, none, 1, false),
  (yX5_takeStep, cX5_takeStep, 4, none, 0, false),
  (yX5_waitsForMore, cX5_waitsForMore, 2, (some .boolean), 0, false),
  (yX5_isDoctorHere, cX5_isDoctorHere, 2, (some .boolean), 0, false),
  (yX5_crosses, cX5_crosses, 4, none, 1, false),
  (yX6_load, cX6_load, 4, (some .int), 3, false),
  (yX6_told, cX6_told, 3, (some .int), 2, false),
  (yX6_as, cX6_as, 3, (some .int), 2, false),
  (yX6_turns, cX6_turns, 3, (some .int), 2, false),
  (yX6_set, cX6_set, 4, (some .int), 3, false),
  (yX6_boat, cX6_boat, 2, (some .int), 1, false),
  (yX6_rule, cX6_rule, 3, (some .int), 2, false),
  (yX6_pull, cX6_pull, 2, (some .int), 1, false),
  (yX6_loading, cX6_loading, 1, (some .int), 0, false),
  (yX6_deal, cX6_deal, 7, (some .int), 1, false),
  (yX6_seed, cX6_seed, 3, (some .int), 1, false),
  (yX6_steps, cX6_steps, 3, (some .int), 1, false),
  (yX6_book, cX6_book, 2, (some .int), 1, false),
  (yX6_high, cX6_high, 2, (some .int), 0, false),
  (yX6_best, cX6_best, 3, (some .int), 1, false),
  (yX6_behind, cX6_behind, 3, (some .int), 2, false),
  (yX6_slant, cX6_slant, 7, (some .int), 2, false),
  (yX6_patience, cX6_patience, 6, (some .int), 2, false),
  (yX6_left, cX6_left, 6, (some .int), 2, false),
  (yX6_allOver, cX6_allOver, 2, (some .int), 0, false)]
def zyT3 : List (MethodName × ByteArray × Nat × Option FieldType × Nat × Bool) := [(yX6_slanted, cX6_slanted, 8, (some .int), 2, false),
  (yX6_differences, cX6_differences, 5, (some .int), 2, false),
  (yX6_fine, cX6_fine, 2, (some .int), 0, false),
  (yX6_feed, cX6_feed, 4, (some .int), 3, false),
  (yX6_trim, cX6_trim, 2, (some .int), 1, false),
  (yX6_text, cX6_text, 3, (some .int), 0, false),
  (yX6_textTold, cX6_textTold, 3, (some .int), 2, false),
  (yX6_why, cX6_why, 2, (some .int), 1, false),
  (yX6_sheet, cX6_sheet, 5, (some .int), 3, false),
  (yX6_mark, cX6_mark, 5, (some .int), 3, false),
  (yX6_pour, cX6_pour, 6, (some .int), 1, false),
  (yX6_reads, cX6_reads, 4, (some .int), 1, false),
  (yX6_copy, cX6_copy, 8, (some .int), 5, false),
  (yX6_lay, cX6_lay, 6, (some .int), 3, false),
  (yX6_ask, cX6_ask, 4, (some .int), 2, false),
  (yX6_item, cX6_item, 4, (some .int), 2, false),
  (yX6_rest, cX6_rest, 4, (some .int), 2, false),
  (yX6_sheetAt, cX6_sheetAt, 2, (some (.object "RopeFerry$Sheet")), 1, false),
  (yX6_slotAt, cX6_slotAt, 2, (some (.object "RopeFerry$Slot")), 1, false),
  (yX6_tell, cX6_tell, 2, (some .int), 1, false),
  (yX6_check, cX6_check, 5, (some .int), 1, false),
  (yX6_isNumberAt, cX6_isNumberAt, 4, (some .boolean), 3, false),
  (yX6_keep, cX6_keep, 1, (some .int), 0, false),
  (yX6_back, cX6_back, 1, (some .int), 0, false),
  (yX6_count, cX6_count, 2, (some .int), 1, false),
  (yX6_within, cX6_within, 3, (some .boolean), 3, true)]
def zyT4 : List (MethodName × ByteArray × Nat × Option FieldType × Nat × Bool) := [(yX6_held, cX6_held, 3, (some .int), 3, true),
  (yX6_swapped, cX6_swapped, 6, (some .int), 5, true),
  (yX7_isIn, cX7_isIn, 6, (some .boolean), 3, true),
  (yX7_orNone, cX7_orNone, 1, (some .int), 1, true),
  (yX7_held, cX7_held, 3, (some .int), 3, true),
  (yX7_off, cX7_off, 2, (some .int), 2, true),
  (yX7_manyIn, cX7_manyIn, 3, (some .int), 1, true),
  (yX7_becomes, cX7_becomes, 4, (some .int), 2, false),
  (yX7_textAt, cX7_textAt, 2, (some .int), 1, false),
  (yX7_of, cX7_of, 3, (some .int), 2, false),
  (yX7_sets, cX7_sets, 4, none, 3, false),
  (yX7_isLoad, cX7_isLoad, 2, (some .boolean), 1, false),
  (yX7_isText, cX7_isText, 2, (some .boolean), 1, false),
  (yX7_drawn, cX7_drawn, 1, (some .int), 0, false),
  (yX7_comes, cX7_comes, 5, none, 3, false),
  (yX7_load, cX7_load, 4, (some .int), 3, false),
  (yX7_pays, cX7_pays, 4, (some .int), 1, false),
  (yX7_takes, cX7_takes, 2, (some .int), 1, false),
  (yX7_urges, cX7_urges, 3, (some .int), 1, false),
  (yX7_worth, cX7_worth, 3, (some .int), 1, false),
  (yX7_told, cX7_told, 3, (some .int), 2, false),
  (yX7_isOf, cX7_isOf, 2, (some .boolean), 2, true),
  (yX7_as, cX7_as, 3, (some .int), 2, false),
  (yX7_turns, cX7_turns, 3, (some .int), 2, false),
  (yX7_set, cX7_set, 4, (some .int), 3, false),
  (yX7_effect, cX7_effect, 2, (some .int), 0, false)]
def zyT5 : List (MethodName × ByteArray × Nat × Option FieldType × Nat × Bool) := [(yX7_minutes, cX7_minutes, 2, (some .int), 0, false),
  (yX7_boat, cX7_boat, 2, (some .int), 1, false),
  (yX7_mostOf, cX7_mostOf, 1, (some .int), 1, true),
  (yX7_rule, cX7_rule, 3, (some .int), 2, false),
  (yX7_pullOf, cX7_pullOf, 3, (some .int), 1, false),
  (yX7_pull, cX7_pull, 2, (some .int), 1, false),
  (yX7_nextUrging, cX7_nextUrging, 5, (some .int), 1, false),
  (yX7_loads, cX7_loads, 6, (some .int), 0, false),
  (yX7_loading, cX7_loading, 1, (some .int), 0, false),
  (yX7_deal, cX7_deal, 5, (some .int), 1, false),
  (yX7_seed, cX7_seed, 2, (some .int), 1, false),
  (yX7_manyOn, cX7_manyOn, 4, (some .int), 1, false),
  (yX7_hasDoctor, cX7_hasDoctor, 3, (some .boolean), 1, false),
  (yX7_stays, cX7_stays, 2, (some .int), 0, false),
  (yX7_goesOn, cX7_goesOn, 4, none, 0, false),
  (yX7_steps, cX7_steps, 4, (some .int), 1, false),
  (yX7_allOf, cX7_allOf, 4, (some .int), 1, false),
  (yX7_book, cX7_book, 2, (some .int), 1, false),
  (yX7_high, cX7_high, 4, (some .int), 0, false),
  (yX7_best, cX7_best, 11, (some .int), 1, false),
  (yX7_laysBy, cX7_laysBy, 2, none, 0, false),
  (yX7_laysBack, cX7_laysBack, 2, none, 0, false),
  (yX7_goesOnMany, cX7_goesOnMany, 3, none, 1, false),
  (yX7_behind, cX7_behind, 4, (some .int), 2, false),
  (yX7_slant, cX7_slant, 7, (some .int), 2, false),
  (yX7_patience, cX7_patience, 7, (some .int), 2, false)]
def zyT6 : List (MethodName × ByteArray × Nat × Option FieldType × Nat × Bool) := [(yX7_left, cX7_left, 7, (some .int), 2, false),
  (yX7_areOver, cX7_areOver, 2, (some .boolean), 0, false),
  (yX7_allOver, cX7_allOver, 3, (some .int), 0, false),
  (yX7_fine, cX7_fine, 2, (some .int), 0, false),
  (yX7_feed, cX7_feed, 6, (some .int), 3, false),
  (yX7_trim, cX7_trim, 2, (some .int), 1, false),
  (yX7_isLetter, cX7_isLetter, 2, (some .boolean), 1, false),
  (yX7_isDigit, cX7_isDigit, 2, (some .boolean), 1, false),
  (yX7_nextToken, cX7_nextToken, 3, none, 0, false),
  (yX7_isSign, cX7_isSign, 2, (some .boolean), 1, false),
  (yX7_isWordAt, cX7_isWordAt, 6, (some .boolean), 4, false),
  (yX7_key, cX7_key, 1, (some .int), 0, false),
  (yX7_isName, cX7_isName, 2, (some .boolean), 2, true),
  (yX7_step, cX7_step, 3, none, 2, false),
  (yX7_either, cX7_either, 2, (some .boolean), 1, false),
  (yX7_both, cX7_both, 2, (some .boolean), 1, false),
  (yX7_test, cX7_test, 3, (some .boolean), 1, false),
  (yX7_sum, cX7_sum, 3, (some .boolean), 1, false),
  (yX7_term, cX7_term, 3, (some .boolean), 1, false),
  (yX7_part0, cX7_part0, 2, (some .boolean), 1, false),
  (yX7_parse, cX7_parse, 3, (some .int), 0, false),
  (yX7_text, cX7_text, 3, (some .int), 0, false),
  (yX7_textTold, cX7_textTold, 3, (some .int), 2, false),
  (yX7_counts, cX7_counts, 4, (some .int), 1, false),
  (yX7_why, cX7_why, 2, (some .int), 1, false),
  (yX7_joined, cX7_joined, 3, (some .int), 3, true)]
def zyT7 : List (MethodName × ByteArray × Nat × Option FieldType × Nat × Bool) := [(yX7_worked, cX7_worked, 6, (some .int), 1, false),
  (yX7_isSheet, cX7_isSheet, 1, (some .boolean), 1, true),
  (yX7_sheet, cX7_sheet, 5, (some .int), 3, false),
  (yX7_mark, cX7_mark, 4, (some .int), 3, false),
  (yX7_pour, cX7_pour, 6, (some .int), 1, false),
  (yX7_reads, cX7_reads, 4, (some .int), 1, false),
  (yX7_slanted, cX7_slanted, 9, (some .int), 2, false),
  (yX7_copy, cX7_copy, 7, (some .int), 5, false),
  (yX7_isSlot, cX7_isSlot, 1, (some .boolean), 1, true),
  (yX7_lay, cX7_lay, 7, (some .int), 3, false),
  (yX7_ask, cX7_ask, 3, (some .int), 2, false),
  (yX7_item, cX7_item, 4, (some .int), 2, false),
  (yX7_rest, cX7_rest, 3, (some .int), 2, false),
  (yX7_tell, cX7_tell, 2, (some .int), 1, false),
  (yX7_setAside, cX7_setAside, 4, none, 2, false),
  (yX7_check, cX7_check, 5, (some .int), 1, false),
  (yX7_keep, cX7_keep, 1, (some .int), 0, false),
  (yX7_back, cX7_back, 1, (some .int), 0, false),
  (yX7_count, cX7_count, 2, (some .int), 1, false),
  (yJ6_bitCount_0f7a4, cJ6_bitCount_0f7a4, 1, (some .int), 1, true)]
def zyT : List (MethodName × ByteArray × Nat × Option FieldType × Nat × Bool) := zyT0 ++ zyT1 ++ zyT2 ++ zyT3 ++ zyT4 ++ zyT5 ++ zyT6 ++ zyT7
def zyR (y : Nat) : MethodName × ByteArray × Nat × Option FieldType × Nat × Bool := zyT.getD y (yX0_isKind, cX0_isKind, 1, some .boolean, 1, true)
def zyN (y : Nat) : MethodName := (zyR y).1
def zyB (y : Nat) : ByteArray := (zyR y).2.1
def zyL (y : Nat) : Nat := (zyR y).2.2.1
def zyQ (y : Nat) : Option FieldType := (zyR y).2.2.2.1
def zyP (y : Nat) : Nat := (zyR y).2.2.2.2.1
def zyS (y : Nat) : Bool := (zyR y).2.2.2.2.2
def zNest : Jvm.Cond → Bool
  | .fieldLinkNest _ _ _ _ _ _ => true
  | .methodLinkNest _ _ _ _ => true
  | _ => false
def ztab (k : Nat) : List Jvm.Cond := match k with
  | 0 => k2_sels lw_privs | 1 => tables_1_1 | 2 => tables_1_2 | 3 => tables_1_3 | 4 => tables_1_4 | 5 => tables_1_5 | 6 => tables_1_6 | _ => []
/-- a word of the tables by its place -/
def zG (u : Nat) (w : Jvm.Cond) : Bool := decide ((ztab (u / 1000))[u % 1000]? = some w) && goodWord w
def zN (u : Nat) (w : Jvm.Cond) : Bool := decide ((ztab (u / 1000))[u % 1000]? = some w) && zNest w
theorem ztab_in {k : Nat} {w : Jvm.Cond} (h : w ∈ ztab k) : w ∈ lw_tbl := by
  unfold lw_tbl tables_1
  match k, h with
  | 0, h => exact List.mem_append_left _ h
  | 1, h => exact List.mem_append_right _ (List.mem_append_left _ h)
  | 2, h => exact List.mem_append_right _ (List.mem_append_right _ (List.mem_append_left _ h))
  | 3, h => exact List.mem_append_right _ (List.mem_append_right _ (List.mem_append_right _ (List.mem_append_left _ h)))
  | 4, h => exact List.mem_append_right _ (List.mem_append_right _ (List.mem_append_right _ (List.mem_append_right _ (List.mem_append_left _ h))))
  | 5, h => exact List.mem_append_right _ (List.mem_append_right _ (List.mem_append_right _ (List.mem_append_right _ (List.mem_append_right _ (List.mem_append_left _ h)))))
  | 6, h => exact List.mem_append_right _ (List.mem_append_right _ (List.mem_append_right _ (List.mem_append_right _ (List.mem_append_right _ (List.mem_append_right _ h)))))
  | k + 7, h => exact absurd h List.not_mem_nil
theorem zG_in {u : Nat} {w : Jvm.Cond} (h : zG u w = true) : w ∈ lw_tbl ∧ goodWord w = true := by
  simp only [zG, Bool.and_eq_true, decide_eq_true_eq] at h
  exact ⟨ztab_in (List.mem_of_getElem? h.1), h.2⟩
theorem zN_in {u : Nat} {w : Jvm.Cond} (h : zN u w = true) : w ∈ lw_tbl ∧ zNest w = true := by
  simp only [zN, Bool.and_eq_true, decide_eq_true_eq] at h
  exact ⟨ztab_in (List.mem_of_getElem? h.1), h.2⟩
abbrev zcl : List vw_C := [(RX0, TX0, 0), (RX1, TX1, 5), (RX2, TX2, 11), (RX3, TX3, 3), (RX4, TX4, 5), (RX5, TX5, 15), (RX6, TX6, 10), (RX7, TX7, 33)]
def zstc : List (String × String × String × FieldType × Nat) := [(RX0, "ABOVE", "[I", .int, 80), (RX5, "LOWEST", "[I", .int, 81), (RX5, "HIGHEST", "[I", .int, 82), (RX2, "NAMES_BY_KEY", "[C", .char, 83)]
def zlit : List (Nat × String × Nat) := [(81, "toll", 86), (89, "pull", 87), (91, "fine", 88)]
/-- the length of an instruction -/
def zlen (ins : Instr) (b : Nat) : Nat := match ins with
  | .iconst _ | .lconst _ | .aconst_null | .iload_n _ | .lload_n _ | .aload_n _ | .istore_n _ | .astore_n _ | .iadd | .isub | .imul | .iand | .ior | .ixor | .idiv | .irem | .ineg | .ishl | .ishr | .iushr | .i2l | .i2s | .ladd | .lcmp | .dup | .pop | .dup2 | .iaload | .caload | .aaload | .iastore | .arraylength | .ireturn | .areturn | .return_ => 1
  | .bipush _ | .ldc _ | .iload _ | .lload _ | .aload _ | .istore _ | .astore _ => 2
  | .tableswitch _ _ _ _ | .lookupswitch _ _ => b
  | _ => 3
def zksT (pc : Nat) : Int → List Int → List (Int32 × Nat) → Bool
  | _, [], [] => true
  | lo, o :: os, q :: ks => decide (q.1 = Int32.ofInt lo) && decide ((pc : Int) + o = (q.2 : Int)) && zksT pc (lo + 1) os ks
  | _, _, _ => false
def zksL (pc : Nat) : List (Int × Int) → List (Int32 × Nat) → Bool
  | [], [] => true
  | p :: ps, q :: ks => decide (q.1 = Int32.ofInt p.1) && decide ((pc : Int) + p.2 = (q.2 : Int)) && decide (-2147483648 ≤ p.1 ∧ p.1 < 2147483648) && zksL pc ps ks
  | _, _ => false
def zF (u : Nat) (own : String) (i a b : Nat) : Bool := match zcl[a]? with
  | some q => decide (b < q.2.2) && decide ((q.2.1 b).1 = q.1) && (zG u (.fieldLink own i q.1 (q.2.1 b).2.1 (q.2.1 b).2.2.1) || zN u (.fieldLinkNest own i q.1 (q.2.1 b).2.1 (q.2.1 b).2.2.1 "RopeFerry"))
  | none => false
def zFw (a b d : Nat) : Bool := match zcl[a]? with
  | some q => decide ((q.2.1 b).2.2.2 = false) && decide (zrfo a b 0 = none) && decide ((parseFieldDescriptor (q.2.1 b).2.2.1 = some .int) ∨ (d = 1 ∧ parseFieldDescriptor (q.2.1 b).2.2.1 = some .boolean))
  | none => false
def zFs (u : Nat) (own : String) (i a b : Nat) : Bool := match zstc[a]? with
  | some q => decide (q.2.2.2.2 = b) && (zG u (.fieldLink own i q.1 q.2.1 q.2.2.1) || zN u (.fieldLinkNest own i q.1 q.2.1 q.2.2.1 "RopeFerry"))
  | none => false
def zML (u : Nat) (own : String) (i : Nat) (y : MethodName) : Bool := zG u (.methodLink own i y) || zN u (.methodLinkNest own i y "RopeFerry")
def zcS (u : Nat) (own : String) (i a b : Nat) : Bool := match a with
  | 1000 => zG u (.methodLink own i Lib.Math.max.name) && decide (b = 2)
  | 1001 => zG u (.methodLink own i Lib.Math.min.name) && decide (b = 2)
  | 1002 => zG u (.methodLink own i Lib.Math.abs.name) && decide (b = 1)
  | 1003 => zG u (.methodLink own i arraycopyName) && decide (b = 5)
  | y => decide (y < 202) && zML u own i (zyN y) && zyS y && decide (b = zyP y)
def zcV (u : Nat) (own : String) (i a b d : Nat) : Bool := match a with
  | 1004 => zG u (.methodLink own i yJ0_length_8abf5) && decide (b = 0 ∧ d = 23)
  | 1005 => zG u (.methodLink own i yJ0_charAt_5068e) && decide (b = 1 ∧ d = 23)
  | y => decide (y < 202) && zML u own i (zyN y) && !(zyS y) && decide (b = zyP y) && decide ((zcl[d]?).map (·.1) = some (zyN y).cls)
/-- what an entry of a code table must fit -/
def zlk (own : String) (nL : Nat) (nol : Bool) (rk : Option FieldType) (u : Nat) : zE → Bool
  | (pc, ins, a, b, d, v, ks) => match ins with
    | .iconst n => decide (Int32.ofInt n = v)
    | .bipush n => decide ((Int8.ofInt n).toInt32 = v)
    | .sipush n => decide ((Int16.ofInt n).toInt32 = v)
    | .ldc i => (decide (a = 0) && zG u (.constant own i v)) || (decide (a = 1) && decide (own = RX2) && zlit.any (fun q => decide (q.1 = i ∧ q.2.2 = b)))
    | .ldc_w i => zG u (.constant own i v)
    | .lconst n => decide (Int64.ofNat (n : Nat) = v.toInt64)
    | .ldc2_w i => zG u (.constantLong own i v.toInt64)
    | .iload i | .lload i | .aload i => decide (i = a)
    | .iload_n k | .lload_n k | .aload_n k => decide ((k : Nat) = a)
    | .istore i | .astore i => decide (i = a) && decide (a < nL) && nol
    | .istore_n k | .astore_n k => decide ((k : Nat) = a) && decide (a < nL) && nol
    | .iinc i n => decide (i = a) && decide (a < nL) && nol && decide (Int32.ofInt n = v)
    | .goto off | .ifCond _ off | .if_icmp _ off | .ifnull off | .ifnonnull off => decide ((pc : Int) + off = (a : Int))
    | .tableswitch df lo hi offs => decide ((pc : Int) + df = (a : Int)) && zksT pc lo offs.toList ks && decide (hi + 1 = lo + offs.toList.length) && decide (-2147483648 ≤ lo ∧ hi < 2147483648)
    | .lookupswitch df ps => decide ((pc : Int) + df = (a : Int)) && zksL pc ps.toList ks && (ps.toList.zip (ps.toList.drop 1)).all (fun (a, next) => a.1 < next.1)
    | .getfield i => zF u own i a b
    | .putfield i => zF u own i a b && zFw a b d
    | .getstatic i => zFs u own i a b
    | .invokestatic i => zcS u own i a b
    | .invokevirtual i => zcV u own i a b d
    | .ireturn => decide (rk = some .int) || (decide (rk = some .boolean) && decide (d = 1))
    | .areturn => (match rk with | some (.object _) => true | _ => false)
    | .return_ => decide (rk = none)
    | _ => true
def zchk (own : String) (cc : ByteArray) (nL : Nat) (nol : Bool) (rk : Option FieldType) : List zE → List Nat → Bool
  | [], [] => true
  | e :: l, u :: us => decide (decode cc e.1 = .ok (e.2.1, zlen e.2.1 e.2.2.2.1)) && zlk own nL nol rk u e && zchk own cc nL nol rk l us
  | _, _ => false
/-- what a method's row must fit -/
def zmok (u : Nat × Nat × Nat × Nat) (q : MethodName × ByteArray × Nat × Option FieldType × Nat × Bool) : Bool :=
  zG u.1 (.code q.1 q.2.1 q.2.2.1 q.2.2.2.1) && zG u.2.1 (.initialized q.1.cls) && (if q.2.2.2.2.2 then zG u.2.2.1 (.static q.1) else zG u.2.2.1 (.instanceMethod q.1) && zG u.2.2.2 (.selects q.1.cls q.1 q.1))
  && plainName q.1.cls && decide (q.1.cls ≠ "java/lang/invoke/MethodHandle" ∧ q.1.cls ≠ "java/lang/invoke/VarHandle") && decide ((parseMethodDescriptor q.1.desc).map (fun d => d.parameters.length) = some q.2.2.2.2.1) && decide (q.2.2.1 ≤ 30)
def zmoks : List (Nat × Nat × Nat × Nat) → List (MethodName × ByteArray × Nat × Option FieldType × Nat × Bool) → Bool
  | [], [] => true
  | u :: us, q :: qs => zmok u q && zmoks us qs
  | _, _ => false
theorem zmok_0 : zmoks [(2008, 1008, 2007, 0), (2070, 1008, 2069, 0), (2053, 1008, 2052, 0), (2057, 1008, 2056, 0), (2060, 1008, 2059, 0), (2063, 1008, 2062, 0), (3200, 1003, 3198, 3199), (2037, 1003, 2035, 2036), (2041, 1003, 2040, 0), (3053, 1002, 3051, 3052), (3065, 1002, 3063, 3064), (3069, 1002, 3068, 8), (3073, 1002, 3072, 9), (3077, 1002, 3076, 10), (3081, 1002, 3080, 11), (3146, 1002, 3145, 14), (3196, 1002, 3195, 26), (3178, 1002, 3177, 22), (3087, 1002, 3086, 12), (3092, 1002, 3091, 13), (3150, 1002, 3149, 15), (3154, 1002, 3153, 16), (3158, 1002, 3157, 17), (3162, 1002, 3161, 18), (3166, 1002, 3165, 19), (3170, 1002, 3169, 20)] zyT0 = true := by decide +kernel
theorem zmok_1 : zmoks [(3192, 1002, 3191, 25), (3174, 1002, 3173, 21), (3182, 1002, 3181, 23), (3186, 1002, 3185, 24), (3218, 1005, 3216, 3217), (4019, 1005, 4017, 4018), (3024, 1005, 3022, 3023), (3037, 1005, 3035, 3036), (4006, 1005, 4004, 4005), (3033, 1005, 3031, 3032), (2228, 1004, 2226, 2227), (2028, 1004, 2026, 2027), (2018, 1004, 2016, 2017), (2142, 1004, 2140, 2141), (2167, 1004, 2165, 2166), (2192, 1004, 2190, 2191), (3011, 1004, 3009, 3010), (2032, 1004, 2030, 2031), (2178, 1004, 2176, 2177), (2119, 1004, 2117, 2118), (2093, 1004, 2091, 2092), (2101, 1004, 2099, 2100), (2127, 1004, 2125, 2126), (2131, 1004, 2130, 0), (2205, 1004, 2203, 2204), (2209, 1004, 2208, 4)] zyT1 = true := by decide +kernel
theorem zmok_2 : zmoks [(2213, 1004, 2212, 5), (2155, 1004, 2153, 2154), (2159, 1004, 2157, 2158), (2163, 1004, 2162, 1), (2171, 1004, 2170, 2), (2183, 1004, 2182, 3), (2005, 1001, 2003, 2004), (2024, 1001, 2022, 2023), (2067, 1001, 2065, 2066), (2078, 1001, 2076, 2077), (2085, 1001, 2083, 2084), (2089, 1001, 2087, 2088), (2107, 1001, 2105, 2106), (2115, 1001, 2113, 2114), (2123, 1001, 2121, 2122), (2138, 1001, 2136, 2137), (2147, 1001, 2145, 2146), (2151, 1001, 2149, 2150), (2188, 1001, 2186, 2187), (2196, 1001, 2194, 2195), (2201, 1001, 2199, 2200), (2224, 1001, 2222, 2223), (2235, 1001, 2233, 2234), (2239, 1001, 2237, 2238), (3003, 1001, 3001, 3002), (3007, 1001, 3005, 3006)] zyT2 = true := by decide +kernel
theorem zmok_3 : zmoks [(3016, 1001, 3014, 3015), (3029, 1001, 3028, 7), (3044, 1001, 3042, 3043), (3049, 1001, 3047, 3048), (3057, 1001, 3055, 3056), (3061, 1001, 3059, 3060), (3206, 1001, 3204, 3205), (3210, 1001, 3208, 3209), (3214, 1001, 3212, 3213), (3224, 1001, 3222, 3223), (3233, 1001, 3231, 3232), (3238, 1001, 3236, 3237), (4002, 1001, 4000, 4001), (4011, 1001, 4009, 4010), (4024, 1001, 4022, 4023), (4028, 1001, 4026, 4027), (4032, 1001, 4030, 4031), (3020, 1001, 3019, 6), (4015, 1001, 4014, 27), (4037, 1001, 4035, 4036), (4041, 1001, 4039, 4040), (4045, 1001, 4044, 28), (4049, 1001, 4047, 4048), (4053, 1001, 4051, 4052), (4057, 1001, 4055, 4056), (2011, 1001, 2010, 0)] zyT3 = true := by decide +kernel
theorem zmok_4 : zmoks [(2044, 1001, 2043, 0), (2081, 1001, 2080, 0), (4172, 1007, 4171, 0), (5105, 1007, 5104, 0), (4217, 1007, 4216, 0), (5023, 1007, 5022, 0), (5113, 1007, 5112, 0), (5005, 1007, 5004, 40), (4207, 1007, 4206, 35), (4195, 1007, 4194, 32), (4183, 1007, 4182, 30), (4191, 1007, 4190, 31), (5238, 1007, 5237, 70), (5064, 1007, 5063, 46), (4179, 1007, 4178, 29), (4168, 1007, 4166, 4167), (4199, 1007, 4198, 33), (4221, 1007, 4220, 37), (4225, 1007, 4224, 38), (4229, 1007, 4228, 39), (4187, 1007, 4185, 4186), (4236, 1007, 4235, 0), (4233, 1007, 4231, 4232), (5001, 1007, 4239, 5000), (5009, 1007, 5007, 5008), (5020, 1007, 5019, 41)] zyT4 = true := by decide +kernel
theorem zmok_5 : zmoks [(5027, 1007, 5026, 42), (5015, 1007, 5013, 5014), (5034, 1007, 5033, 0), (5031, 1007, 5029, 5030), (5043, 1007, 5042, 43), (5038, 1007, 5036, 5037), (5055, 1007, 5054, 45), (5051, 1007, 5050, 44), (5047, 1007, 5045, 5046), (5059, 1007, 5057, 5058), (5069, 1007, 5067, 5068), (5086, 1007, 5085, 49), (5090, 1007, 5089, 50), (5082, 1007, 5081, 48), (5078, 1007, 5077, 47), (5073, 1007, 5071, 5072), (5098, 1007, 5097, 51), (5094, 1007, 5092, 5093), (5102, 1007, 5100, 5101), (5110, 1007, 5108, 5109), (5122, 1007, 5121, 52), (5130, 1007, 5129, 54), (5126, 1007, 5125, 53), (5117, 1007, 5115, 5116), (5134, 1007, 5132, 5133), (5139, 1007, 5137, 5138)] zyT5 = true := by decide +kernel
theorem zmok_6 : zmoks [(5143, 1007, 5141, 5142), (5151, 1007, 5150, 55), (5147, 1007, 5145, 5146), (5155, 1007, 5153, 5154), (5159, 1007, 5157, 5158), (5163, 1007, 5161, 5162), (5179, 1007, 5178, 58), (5185, 1007, 5184, 59), (5175, 1007, 5174, 57), (5230, 1007, 5229, 69), (5195, 1007, 5194, 61), (5191, 1007, 5190, 60), (5226, 1007, 5225, 0), (5223, 1007, 5222, 68), (5199, 1007, 5198, 62), (5203, 1007, 5202, 63), (5207, 1007, 5206, 64), (5211, 1007, 5210, 65), (5215, 1007, 5214, 66), (5219, 1007, 5218, 67), (5171, 1007, 5170, 56), (5167, 1007, 5165, 5166), (5234, 1007, 5232, 5233), (4203, 1007, 4202, 34), (6002, 1007, 6000, 6001), (4214, 1007, 4213, 0)] zyT6 = true := by decide +kernel
theorem zmok_7 : zmoks [(4211, 1007, 4210, 36), (6010, 1007, 6009, 0), (6007, 1007, 6005, 6006), (6016, 1007, 6014, 6015), (6024, 1007, 6022, 6023), (6028, 1007, 6026, 6027), (6032, 1007, 6030, 6031), (6036, 1007, 6034, 6035), (6043, 1007, 6042, 0), (6040, 1007, 6038, 6039), (6047, 1007, 6045, 6046), (6051, 1007, 6049, 6050), (6055, 1007, 6053, 6054), (6060, 1007, 6058, 6059), (6069, 1007, 6068, 71), (6064, 1007, 6062, 6063), (6073, 1007, 6071, 6072), (6077, 1007, 6075, 6076), (6081, 1007, 6079, 6080), (2216, 1010, 2215, 0)] zyT7 = true := by decide +kernel
end
section
/-! code tables: printed by gen06.py from the bytecode -/
def zc0 : List zE := [(0, .iload_n 0, 0, 0, 0, 0, []),
  (1, .iconst 0, 0, 0, 0, 0, []),
  (2, .iconst 5, 0, 0, 0, 5, []),
  (3, .invokestatic 9, 103, 3, 0, 0, []),
  (6, .ireturn, 0, 0, 1, 0, [])]
theorem zk0 : zchk RX0 cX0_isKind 1 true (some .boolean) zc0 [0, 0, 0, 2009, 0] = true := by decide +kernel
def zc1 : List zE := [(0, .iload_n 0, 0, 0, 0, 0, []),
  (1, .istore_n 2, 2, 0, 0, 0, []),
  (2, .iconst 0, 0, 0, 0, 0, []),
  (3, .istore_n 3, 3, 0, 0, 0, []),
  (4, .iload_n 3, 3, 0, 0, 0, []),
  (5, .iconst 5, 0, 0, 0, 5, []),
  (6, .if_icmp .gt 29, 35, 0, 0, 0, []),
  (9, .iload_n 2, 2, 0, 0, 0, []),
  (10, .invokestatic 15, 0, 1, 0, 0, []),
  (13, .ifCond .eq 22, 35, 0, 0, 0, []),
  (16, .iload_n 2, 2, 0, 0, 0, []),
  (17, .iload_n 1, 1, 0, 0, 0, []),
  (18, .if_icmp .ne 5, 23, 0, 0, 0, []),
  (21, .iconst 1, 0, 0, 0, 1, []),
  (22, .ireturn, 0, 0, 1, 0, []),
  (23, .getstatic 19, 0, 80, 0, 0, []),
  (26, .iload_n 2, 2, 0, 0, 0, []),
  (27, .iaload, 0, 0, 0, 0, []),
  (28, .istore_n 2, 2, 0, 0, 0, []),
  (29, .iinc 3 1, 3, 0, 0, 1, []),
  (32, .goto (-28), 4, 0, 0, 0, []),
  (35, .iconst 0, 0, 0, 0, 0, []),
  (36, .ireturn, 0, 0, 1, 0, [])]
theorem zk1 : zchk RX0 cX0_isOf 4 true (some .boolean) zc1 [0, 0, 0, 0, 0, 0, 0, 0, 2071, 0, 0, 0, 0, 0, 0, 2072, 0, 0, 0, 0, 0, 0, 0] = true := by decide +kernel
def zc2 : List zE := [(0, .iload_n 0, 0, 0, 0, 0, []),
  (1, .tableswitch 62 1 5 #[35, 50, 39, 54, 60], 63, 35, 0, 0, [(1, 36), (2, 51), (3, 40), (4, 55), (5, 61)]),
  (36, .iconst 2, 0, 0, 0, 2, []),
  (37, .iload_n 1, 1, 0, 0, 0, []),
  (38, .imul, 0, 0, 0, 0, []),
  (39, .ireturn, 0, 0, 0, 0, []),
  (40, .iconst 0, 0, 0, 0, 0, []),
  (41, .iconst 2, 0, 0, 0, 2, []),
  (42, .iload_n 1, 1, 0, 0, 0, []),
  (43, .imul, 0, 0, 0, 0, []),
  (44, .bipush 10, 0, 0, 0, 10, []),
  (46, .isub, 0, 0, 0, 0, []),
  (47, .invokestatic 23, 1000, 2, 0, 0, []),
  (50, .ireturn, 0, 0, 0, 0, []),
  (51, .iload_n 1, 1, 0, 0, 0, []),
  (52, .iconst 2, 0, 0, 0, 2, []),
  (53, .idiv, 0, 0, 0, 0, []),
  (54, .ireturn, 0, 0, 0, 0, []),
  (55, .iload_n 1, 1, 0, 0, 0, []),
  (56, .iconst 2, 0, 0, 0, 2, []),
  (57, .idiv, 0, 0, 0, 0, []),
  (58, .iconst 3, 0, 0, 0, 3, []),
  (59, .iadd, 0, 0, 0, 0, []),
  (60, .ireturn, 0, 0, 0, 0, []),
  (61, .iconst 0, 0, 0, 0, 0, []),
  (62, .ireturn, 0, 0, 0, 0, []),
  (63, .iload_n 1, 1, 0, 0, 0, []),
  (64, .ireturn, 0, 0, 0, 0, [])]
theorem zk2 : zchk RX0 cX0_pays 2 true (some .int) zc2 [0, 0, 0, 0, 0, 0, 0, 0, 0, 0, 0, 0, 2054, 0, 0, 0, 0, 0, 0, 0, 0, 0, 0, 0, 0, 0, 0, 0] = true := by decide +kernel
def zc3 : List zE := [(0, .iload_n 0, 0, 0, 0, 0, []),
  (1, .tableswitch 37 1 4 #[31, 33, 31, 35], 38, 31, 0, 0, [(1, 32), (2, 34), (3, 32), (4, 36)]),
  (32, .iconst 3, 0, 0, 0, 3, []),
  (33, .ireturn, 0, 0, 0, 0, []),
  (34, .iconst 1, 0, 0, 0, 1, []),
  (35, .ireturn, 0, 0, 0, 0, []),
  (36, .iconst 4, 0, 0, 0, 4, []),
  (37, .ireturn, 0, 0, 0, 0, []),
  (38, .iconst 2, 0, 0, 0, 2, []),
  (39, .ireturn, 0, 0, 0, 0, [])]
theorem zk3 : zchk RX0 cX0_takes 1 true (some .int) zc3 [0, 0, 0, 0, 0, 0, 0, 0, 0, 0] = true := by decide +kernel
def zc4 : List zE := [(0, .iload_n 0, 0, 0, 0, 0, []),
  (1, .tableswitch 49 1 5 #[35, 41, 39, 41, 45], 50, 35, 0, 0, [(1, 36), (2, 42), (3, 40), (4, 42), (5, 46)]),
  (36, .iload_n 1, 1, 0, 0, 0, []),
  (37, .iconst 5, 0, 0, 0, 5, []),
  (38, .iadd, 0, 0, 0, 0, []),
  (39, .ireturn, 0, 0, 0, 0, []),
  (40, .iconst 0, 0, 0, 0, 0, []),
  (41, .ireturn, 0, 0, 0, 0, []),
  (42, .iload_n 1, 1, 0, 0, 0, []),
  (43, .iconst 2, 0, 0, 0, 2, []),
  (44, .idiv, 0, 0, 0, 0, []),
  (45, .ireturn, 0, 0, 0, 0, []),
  (46, .sipush 9999, 0, 0, 0, 9999, []),
  (49, .ireturn, 0, 0, 0, 0, []),
  (50, .iload_n 1, 1, 0, 0, 0, []),
  (51, .ireturn, 0, 0, 0, 0, [])]
theorem zk4 : zchk RX0 cX0_urges 2 true (some .int) zc4 [0, 0, 0, 0, 0, 0, 0, 0, 0, 0, 0, 0, 0, 0, 0, 0] = true := by decide +kernel
def zc5 : List zE := [(0, .iload_n 0, 0, 0, 0, 0, []),
  (1, .tableswitch 62 1 5 #[35, 47, 40, 52, 60], 63, 35, 0, 0, [(1, 36), (2, 48), (3, 41), (4, 53), (5, 61)]),
  (36, .iload_n 1, 1, 0, 0, 0, []),
  (37, .bipush 8, 0, 0, 0, 8, []),
  (39, .iadd, 0, 0, 0, 0, []),
  (40, .ireturn, 0, 0, 0, 0, []),
  (41, .iconst 2, 0, 0, 0, 2, []),
  (42, .iload_n 1, 1, 0, 0, 0, []),
  (43, .bipush 8, 0, 0, 0, 8, []),
  (45, .iadd, 0, 0, 0, 0, []),
  (46, .imul, 0, 0, 0, 0, []),
  (47, .ireturn, 0, 0, 0, 0, []),
  (48, .bipush 99, 0, 0, 0, 99, []),
  (50, .iload_n 1, 1, 0, 0, 0, []),
  (51, .isub, 0, 0, 0, 0, []),
  (52, .ireturn, 0, 0, 0, 0, []),
  (53, .bipush 99, 0, 0, 0, 99, []),
  (55, .iload_n 1, 1, 0, 0, 0, []),
  (56, .isub, 0, 0, 0, 0, []),
  (57, .bipush 7, 0, 0, 0, 7, []),
  (59, .isub, 0, 0, 0, 0, []),
  (60, .ireturn, 0, 0, 0, 0, []),
  (61, .iconst 5, 0, 0, 0, 5, []),
  (62, .ireturn, 0, 0, 0, 0, []),
  (63, .iload_n 1, 1, 0, 0, 0, []),
  (64, .ireturn, 0, 0, 0, 0, [])]
theorem zk5 : zchk RX0 cX0_worth 2 true (some .int) zc5 [0, 0, 0, 0, 0, 0, 0, 0, 0, 0, 0, 0, 0, 0, 0, 0, 0, 0, 0, 0, 0, 0, 0, 0, 0, 0] = true := by decide +kernel
def zc6 : List zE := [(0, .iload_n 1, 1, 0, 0, 0, []),
  (1, .iconst 0, 0, 0, 0, 0, []),
  (2, .bipush 13, 0, 0, 0, 13, []),
  (4, .invokestatic 27, 103, 3, 0, 0, []),
  (7, .ifCond .ne 4, 11, 0, 0, 0, []),
  (10, .return_, 0, 0, 0, 0, []),
  (11, .aload_n 0, 0, 0, 0, 0, []),
  (12, .getfield 9, 1, 0, 0, 0, []),
  (15, .iload_n 1, 1, 0, 0, 0, []),
  (16, .aload_n 2, 2, 0, 0, 0, []),
  (17, .getfield 31, 2, 7, 0, 0, []),
  (20, .iastore, 0, 0, 0, 0, []),
  (21, .aload_n 0, 0, 0, 0, 0, []),
  (22, .getfield 15, 1, 1, 0, 0, []),
  (25, .iload_n 1, 1, 0, 0, 0, []),
  (26, .aload_n 2, 2, 0, 0, 0, []),
  (27, .getfield 36, 2, 10, 0, 0, []),
  (30, .iastore, 0, 0, 0, 0, []),
  (31, .aload_n 0, 0, 0, 0, 0, []),
  (32, .getfield 18, 1, 2, 0, 0, []),
  (35, .iload_n 1, 1, 0, 0, 0, []),
  (36, .aload_n 2, 2, 0, 0, 0, []),
  (37, .getfield 38, 2, 9, 0, 0, []),
  (40, .iastore, 0, 0, 0, 0, []),
  (41, .aload_n 2, 2, 0, 0, 0, []),
  (42, .getfield 40, 2, 8, 0, 0, []),
  (45, .iconst 0, 0, 0, 0, 0, []),
  (46, .aload_n 0, 0, 0, 0, 0, []),
  (47, .getfield 21, 1, 3, 0, 0, []),
  (50, .iload_n 1, 1, 0, 0, 0, []),
  (51, .bipush 96, 0, 0, 0, 96, []),
  (53, .imul, 0, 0, 0, 0, []),
  (54, .bipush 96, 0, 0, 0, 96, []),
  (56, .invokestatic 41, 1003, 5, 0, 0, []),
  (59, .return_, 0, 0, 0, 0, [])]
theorem zk6 : zchk RX1 cX1_learn 3 true none zc6 [0, 0, 0, 2038, 0, 0, 0, 1081, 0, 0, 1039, 0, 0, 1083, 0, 0, 1046, 0, 0, 1085, 0, 0, 1044, 0, 0, 1042, 0, 0, 1086, 0, 0, 0, 0, 3201, 0] = true := by decide +kernel
def zc7 : List zE := [(0, .iload_n 1, 1, 0, 0, 0, []),
  (1, .iconst 0, 0, 0, 0, 0, []),
  (2, .bipush 13, 0, 0, 0, 13, []),
  (4, .invokestatic 27, 103, 3, 0, 0, []),
  (7, .ifCond .ne 5, 12, 0, 0, 0, []),
  (10, .iconst 0, 0, 0, 0, 0, []),
  (11, .ireturn, 0, 0, 0, 0, []),
  (12, .iconst 0, 0, 0, 0, 0, []),
  (13, .istore 5, 5, 0, 0, 0, []),
  (15, .iconst 0, 0, 0, 0, 0, []),
  (16, .istore 6, 6, 0, 0, 0, []),
  (18, .iload 6, 6, 0, 0, 0, []),
  (20, .aload_n 0, 0, 0, 0, 0, []),
  (21, .getfield 18, 1, 2, 0, 0, []),
  (24, .iload_n 1, 1, 0, 0, 0, []),
  (25, .iaload, 0, 0, 0, 0, []),
  (26, .if_icmp .ge 172, 198, 0, 0, 0, []),
  (29, .iload 6, 6, 0, 0, 0, []),
  (31, .bipush 96, 0, 0, 0, 96, []),
  (33, .if_icmp .ge 165, 198, 0, 0, 0, []),
  (36, .aload_n 0, 0, 0, 0, 0, []),
  (37, .getfield 21, 1, 3, 0, 0, []),
  (40, .iload_n 1, 1, 0, 0, 0, []),
  (41, .bipush 96, 0, 0, 0, 96, []),
  (43, .imul, 0, 0, 0, 0, []),
  (44, .iload 6, 6, 0, 0, 0, []),
  (46, .iadd, 0, 0, 0, 0, []),
  (47, .iaload, 0, 0, 0, 0, []),
  (48, .istore 7, 7, 0, 0, 0, []),
  (50, .iload 7, 7, 0, 0, 0, []),
  (52, .bipush (-3), 0, 0, 0, (-3), []),
  (54, .if_icmp .lt 56, 110, 0, 0, 0, []),
  (57, .iload 5, 5, 0, 0, 0, []),
  (59, .bipush 96, 0, 0, 0, 96, []),
  (61, .if_icmp .ge 131, 192, 0, 0, 0, []),
  (64, .aload_n 0, 0, 0, 0, 0, []),
  (65, .getfield 24, 1, 4, 0, 0, []),
  (68, .iload 5, 5, 0, 0, 0, []),
  (70, .iload 7, 7, 0, 0, 0, []),
  (72, .ifCond .lt 8, 80, 0, 0, 0, []),
  (75, .iload 7, 7, 0, 0, 0, []),
  (77, .goto 26, 103, 0, 0, 0, []),
  (80, .iload 7, 7, 0, 0, 0, []),
  (82, .iconst (-1), 0, 0, 0, (-1), []),
  (83, .if_icmp .ne 7, 90, 0, 0, 0, []),
  (86, .iload_n 2, 2, 0, 0, 0, []),
  (87, .goto 16, 103, 0, 0, 0, []),
  (90, .iload 7, 7, 0, 0, 0, []),
  (92, .bipush (-2), 0, 0, 0, (-2), []),
  (94, .if_icmp .ne 7, 101, 0, 0, 0, []),
  (97, .iload_n 3, 3, 0, 0, 0, []),
  (98, .goto 5, 103, 0, 0, 0, []),
  (101, .iload 4, 4, 0, 0, 0, []),
  (103, .iastore, 0, 0, 0, 0, []),
  (104, .iinc 5 1, 5, 0, 0, 1, []),
  (107, .goto 85, 192, 0, 0, 0, []),
  (110, .iload 7, 7, 0, 0, 0, []),
  (112, .bipush (-33), 0, 0, 0, (-33), []),
  (114, .if_icmp .ne 38, 152, 0, 0, 0, []),
  (117, .iload 5, 5, 0, 0, 0, []),
  (119, .iconst 1, 0, 0, 0, 1, []),
  (120, .if_icmp .lt 72, 192, 0, 0, 0, []),
  (123, .aload_n 0, 0, 0, 0, 0, []),
  (124, .getfield 24, 1, 4, 0, 0, []),
  (127, .iload 5, 5, 0, 0, 0, []),
  (129, .iconst 1, 0, 0, 0, 1, []),
  (130, .isub, 0, 0, 0, 0, []),
  (131, .aload_n 0, 0, 0, 0, 0, []),
  (132, .getfield 24, 1, 4, 0, 0, []),
  (135, .iload 5, 5, 0, 0, 0, []),
  (137, .iconst 1, 0, 0, 0, 1, []),
  (138, .isub, 0, 0, 0, 0, []),
  (139, .iaload, 0, 0, 0, 0, []),
  (140, .ifCond .ne 7, 147, 0, 0, 0, []),
  (143, .iconst 1, 0, 0, 0, 1, []),
  (144, .goto 4, 148, 0, 0, 0, []),
  (147, .iconst 0, 0, 0, 0, 0, []),
  (148, .iastore, 0, 0, 0, 0, []),
  (149, .goto 43, 192, 0, 0, 0, []),
  (152, .iload 5, 5, 0, 0, 0, []),
  (154, .iconst 2, 0, 0, 0, 2, []),
  (155, .if_icmp .lt 37, 192, 0, 0, 0, []),
  (158, .iinc 5 (-1), 5, 0, 0, (-1), []),
  (161, .aload_n 0, 0, 0, 0, 0, []),
  (162, .getfield 24, 1, 4, 0, 0, []),
  (165, .iload 5, 5, 0, 0, 0, []),
  (167, .iconst 1, 0, 0, 0, 1, []),
  (168, .isub, 0, 0, 0, 0, []),
  (169, .iload 7, 7, 0, 0, 0, []),
  (171, .ineg, 0, 0, 0, 0, []),
  (172, .aload_n 0, 0, 0, 0, 0, []),
  (173, .getfield 24, 1, 4, 0, 0, []),
  (176, .iload 5, 5, 0, 0, 0, []),
  (178, .iconst 1, 0, 0, 0, 1, []),
  (179, .isub, 0, 0, 0, 0, []),
  (180, .iaload, 0, 0, 0, 0, []),
  (181, .aload_n 0, 0, 0, 0, 0, []),
  (182, .getfield 24, 1, 4, 0, 0, []),
  (185, .iload 5, 5, 0, 0, 0, []),
  (187, .iaload, 0, 0, 0, 0, []),
  (188, .invokestatic 47, 8, 3, 0, 0, []),
  (191, .iastore, 0, 0, 0, 0, []),
  (192, .iinc 6 1, 6, 0, 0, 1, []),
  (195, .goto (-177), 18, 0, 0, 0, []),
  (198, .iload 5, 5, 0, 0, 0, []),
  (200, .iconst 1, 0, 0, 0, 1, []),
  (201, .if_icmp .lt 15, 216, 0, 0, 0, []),
  (204, .aload_n 0, 0, 0, 0, 0, []),
  (205, .getfield 24, 1, 4, 0, 0, []),
  (208, .iload 5, 5, 0, 0, 0, []),
  (210, .iconst 1, 0, 0, 0, 1, []),
  (211, .isub, 0, 0, 0, 0, []),
  (212, .iaload, 0, 0, 0, 0, []),
  (213, .goto 4, 217, 0, 0, 0, []),
  (216, .iconst 0, 0, 0, 0, 0, []),
  (217, .ireturn, 0, 0, 0, 0, [])]
theorem zk7 : zchk RX1 cX1_gives 8 true (some .int) zc7 [0, 0, 0, 2038, 0, 0, 0, 0, 0, 0, 0, 0, 0, 1085, 0, 0, 0, 0, 0, 0, 0, 1086, 0, 0, 0, 0, 0, 0, 0, 0, 0, 0, 0, 0, 0, 0, 1087, 0, 0, 0, 0, 0, 0, 0, 0, 0, 0, 0, 0, 0, 0, 0, 0, 0, 0, 0, 0, 0, 0, 0, 0, 0, 0, 1087, 0, 0, 0, 0, 1087, 0, 0, 0, 0, 0, 0, 0, 0, 0, 0, 0, 0, 0, 0, 0, 1087, 0, 0, 0, 0, 0, 0, 1087, 0, 0, 0, 0, 0, 1087, 0, 0, 2039, 0, 0, 0, 0, 0, 0, 0, 1087, 0, 0, 0, 0, 0, 0, 0] = true := by decide +kernel
def zc8 : List zE := [(0, .iload_n 0, 0, 0, 0, 0, []),
  (1, .lookupswitch 168 #[(38, 97), (42, 152), (43, 144), (45, 148), (47, 156), (60, 111), (61, 122), (62, 133), (124, 83)], 169, 83, 0, 0, [(38, 98), (42, 153), (43, 145), (45, 149), (47, 157), (60, 112), (61, 123), (62, 134), (124, 84)]),
  (84, .iload_n 1, 1, 0, 0, 0, []),
  (85, .ifCond .ne 7, 92, 0, 0, 0, []),
  (88, .iload_n 2, 2, 0, 0, 0, []),
  (89, .ifCond .eq 7, 96, 0, 0, 0, []),
  (92, .iconst 1, 0, 0, 0, 1, []),
  (93, .goto 4, 97, 0, 0, 0, []),
  (96, .iconst 0, 0, 0, 0, 0, []),
  (97, .ireturn, 0, 0, 0, 0, []),
  (98, .iload_n 1, 1, 0, 0, 0, []),
  (99, .ifCond .eq 11, 110, 0, 0, 0, []),
  (102, .iload_n 2, 2, 0, 0, 0, []),
  (103, .ifCond .eq 7, 110, 0, 0, 0, []),
  (106, .iconst 1, 0, 0, 0, 1, []),
  (107, .goto 4, 111, 0, 0, 0, []),
  (110, .iconst 0, 0, 0, 0, 0, []),
  (111, .ireturn, 0, 0, 0, 0, []),
  (112, .iload_n 1, 1, 0, 0, 0, []),
  (113, .iload_n 2, 2, 0, 0, 0, []),
  (114, .if_icmp .ge 7, 121, 0, 0, 0, []),
  (117, .iconst 1, 0, 0, 0, 1, []),
  (118, .goto 4, 122, 0, 0, 0, []),
  (121, .iconst 0, 0, 0, 0, 0, []),
  (122, .ireturn, 0, 0, 0, 0, []),
  (123, .iload_n 1, 1, 0, 0, 0, []),
  (124, .iload_n 2, 2, 0, 0, 0, []),
  (125, .if_icmp .ne 7, 132, 0, 0, 0, []),
  (128, .iconst 1, 0, 0, 0, 1, []),
  (129, .goto 4, 133, 0, 0, 0, []),
  (132, .iconst 0, 0, 0, 0, 0, []),
  (133, .ireturn, 0, 0, 0, 0, []),
  (134, .iload_n 1, 1, 0, 0, 0, []),
  (135, .iload_n 2, 2, 0, 0, 0, []),
  (136, .if_icmp .le 7, 143, 0, 0, 0, []),
  (139, .iconst 1, 0, 0, 0, 1, []),
  (140, .goto 4, 144, 0, 0, 0, []),
  (143, .iconst 0, 0, 0, 0, 0, []),
  (144, .ireturn, 0, 0, 0, 0, []),
  (145, .iload_n 1, 1, 0, 0, 0, []),
  (146, .iload_n 2, 2, 0, 0, 0, []),
  (147, .iadd, 0, 0, 0, 0, []),
  (148, .ireturn, 0, 0, 0, 0, []),
  (149, .iload_n 1, 1, 0, 0, 0, []),
  (150, .iload_n 2, 2, 0, 0, 0, []),
  (151, .isub, 0, 0, 0, 0, []),
  (152, .ireturn, 0, 0, 0, 0, []),
  (153, .iload_n 1, 1, 0, 0, 0, []),
  (154, .iload_n 2, 2, 0, 0, 0, []),
  (155, .imul, 0, 0, 0, 0, []),
  (156, .ireturn, 0, 0, 0, 0, []),
  (157, .iload_n 2, 2, 0, 0, 0, []),
  (158, .ifCond .ne 7, 165, 0, 0, 0, []),
  (161, .iconst 0, 0, 0, 0, 0, []),
  (162, .goto 6, 168, 0, 0, 0, []),
  (165, .iload_n 1, 1, 0, 0, 0, []),
  (166, .iload_n 2, 2, 0, 0, 0, []),
  (167, .idiv, 0, 0, 0, 0, []),
  (168, .ireturn, 0, 0, 0, 0, []),
  (169, .iconst 0, 0, 0, 0, 0, []),
  (170, .ireturn, 0, 0, 0, 0, [])]
theorem zk8 : zchk RX1 cX1_joined 3 true (some .int) zc8 [0, 0, 0, 0, 0, 0, 0, 0, 0, 0, 0, 0, 0, 0, 0, 0, 0, 0, 0, 0, 0, 0, 0, 0, 0, 0, 0, 0, 0, 0, 0, 0, 0, 0, 0, 0, 0, 0, 0, 0, 0, 0, 0, 0, 0, 0, 0, 0, 0, 0, 0, 0, 0, 0, 0, 0, 0, 0, 0, 0, 0] = true := by decide +kernel
def zc9 : List zE := [(0, .bipush 24, 0, 0, 0, 24, []),
  (2, .istore_n 2, 2, 0, 0, 0, []),
  (3, .iload_n 2, 2, 0, 0, 0, []),
  (4, .ifCond .lt 44, 48, 0, 0, 0, []),
  (7, .aload_n 0, 0, 0, 0, 0, []),
  (8, .getfield 15, 2, 1, 0, 0, []),
  (11, .bipush 96, 0, 0, 0, 96, []),
  (13, .if_icmp .ge 29, 42, 0, 0, 0, []),
  (16, .aload_n 0, 0, 0, 0, 0, []),
  (17, .getfield 9, 2, 0, 0, 0, []),
  (20, .aload_n 0, 0, 0, 0, 0, []),
  (21, .getfield 15, 2, 1, 0, 0, []),
  (24, .iload_n 1, 1, 0, 0, 0, []),
  (25, .iload_n 2, 2, 0, 0, 0, []),
  (26, .iushr, 0, 0, 0, 0, []),
  (27, .sipush 255, 0, 0, 0, 255, []),
  (30, .iand, 0, 0, 0, 0, []),
  (31, .iastore, 0, 0, 0, 0, []),
  (32, .aload_n 0, 0, 0, 0, 0, []),
  (33, .dup, 0, 0, 0, 0, []),
  (34, .getfield 15, 2, 1, 0, 0, []),
  (37, .iconst 1, 0, 0, 0, 1, []),
  (38, .iadd, 0, 0, 0, 0, []),
  (39, .putfield 15, 2, 1, 0, 0, []),
  (42, .iinc 2 (-8), 2, 0, 0, (-8), []),
  (45, .goto (-42), 3, 0, 0, 0, []),
  (48, .return_, 0, 0, 0, 0, [])]
theorem zk9 : zchk RX2 cX2_take 3 true none zc9 [0, 0, 0, 0, 0, 1031, 0, 0, 0, 1030, 0, 1031, 0, 0, 0, 0, 0, 0, 0, 0, 1031, 0, 0, 1031, 0, 0, 0] = true := by decide +kernel
def zc10 : List zE := [(0, .aload_n 0, 0, 0, 0, 0, []),
  (1, .iconst 0, 0, 0, 0, 0, []),
  (2, .putfield 22, 2, 3, 0, 0, []),
  (5, .aload_n 0, 0, 0, 0, 0, []),
  (6, .iconst (-1), 0, 0, 0, (-1), []),
  (7, .putfield 25, 2, 4, 0, 0, []),
  (10, .aload_n 0, 0, 0, 0, 0, []),
  (11, .iconst (-1), 0, 0, 0, (-1), []),
  (12, .putfield 32, 2, 6, 0, 0, []),
  (15, .aload_n 0, 0, 0, 0, 0, []),
  (16, .iconst 0, 0, 0, 0, 0, []),
  (17, .putfield 41, 2, 9, 0, 0, []),
  (20, .aload_n 0, 0, 0, 0, 0, []),
  (21, .iconst 0, 0, 0, 0, 0, []),
  (22, .putfield 44, 2, 10, 0, 0, []),
  (25, .aload_n 0, 0, 0, 0, 0, []),
  (26, .invokevirtual 47, 11, 0, 2, 0, []),
  (29, .aload_n 0, 0, 0, 0, 0, []),
  (30, .invokevirtual 50, 18, 0, 2, 0, []),
  (33, .aload_n 0, 0, 0, 0, 0, []),
  (34, .iconst 0, 0, 0, 0, 0, []),
  (35, .iconst 0, 0, 0, 0, 0, []),
  (36, .invokevirtual 53, 20, 2, 2, 0, []),
  (39, .aload_n 0, 0, 0, 0, 0, []),
  (40, .getfield 25, 2, 4, 0, 0, []),
  (43, .iconst (-1), 0, 0, 0, (-1), []),
  (44, .if_icmp .eq 7, 51, 0, 0, 0, []),
  (47, .aload_n 0, 0, 0, 0, 0, []),
  (48, .invokevirtual 57, 15, 0, 2, 0, []),
  (51, .aload_n 0, 0, 0, 0, 0, []),
  (52, .getfield 32, 2, 6, 0, 0, []),
  (55, .ireturn, 0, 0, 0, 0, [])]
theorem zk10 : zchk RX2 cX2_readTape 1 true (some .int) zc10 [0, 0, 1034, 0, 0, 1035, 0, 0, 1037, 0, 0, 1043, 0, 0, 1045, 0, 3066, 0, 3084, 0, 0, 0, 3147, 0, 1035, 0, 0, 0, 3143, 0, 1037, 0] = true := by decide +kernel
def zc11 : List zE := [(0, .aload_n 0, 0, 0, 0, 0, []),
  (1, .invokevirtual 60, 12, 0, 2, 0, []),
  (4, .istore_n 1, 1, 0, 0, 0, []),
  (5, .aload_n 0, 0, 0, 0, 0, []),
  (6, .getfield 22, 2, 3, 0, 0, []),
  (9, .istore_n 2, 2, 0, 0, 0, []),
  (10, .aload_n 0, 0, 0, 0, 0, []),
  (11, .aload_n 0, 0, 0, 0, 0, []),
  (12, .getfield 22, 2, 3, 0, 0, []),
  (15, .putfield 19, 2, 2, 0, 0, []),
  (18, .aload_n 0, 0, 0, 0, 0, []),
  (19, .getfield 19, 2, 2, 0, 0, []),
  (22, .aload_n 0, 0, 0, 0, 0, []),
  (23, .getfield 15, 2, 1, 0, 0, []),
  (26, .if_icmp .ge 29, 55, 0, 0, 0, []),
  (29, .aload_n 0, 0, 0, 0, 0, []),
  (30, .aload_n 0, 0, 0, 0, 0, []),
  (31, .getfield 19, 2, 2, 0, 0, []),
  (34, .invokevirtual 64, 13, 1, 2, 0, []),
  (37, .bipush 32, 0, 0, 0, 32, []),
  (39, .if_icmp .ne 16, 55, 0, 0, 0, []),
  (42, .aload_n 0, 0, 0, 0, 0, []),
  (43, .dup, 0, 0, 0, 0, []),
  (44, .getfield 19, 2, 2, 0, 0, []),
  (47, .iconst 1, 0, 0, 0, 1, []),
  (48, .iadd, 0, 0, 0, 0, []),
  (49, .putfield 19, 2, 2, 0, 0, []),
  (52, .goto (-34), 18, 0, 0, 0, []),
  (55, .aload_n 0, 0, 0, 0, 0, []),
  (56, .aload_n 0, 0, 0, 0, 0, []),
  (57, .aload_n 0, 0, 0, 0, 0, []),
  (58, .getfield 19, 2, 2, 0, 0, []),
  (61, .invokevirtual 68, 14, 1, 2, 0, []),
  (64, .putfield 25, 2, 4, 0, 0, []),
  (67, .aload_n 0, 0, 0, 0, 0, []),
  (68, .aload_n 0, 0, 0, 0, 0, []),
  (69, .getfield 19, 2, 2, 0, 0, []),
  (72, .iconst 1, 0, 0, 0, 1, []),
  (73, .iadd, 0, 0, 0, 0, []),
  (74, .aload_n 0, 0, 0, 0, 0, []),
  (75, .getfield 15, 2, 1, 0, 0, []),
  (78, .invokestatic 71, 1001, 2, 0, 0, []),
  (81, .putfield 22, 2, 3, 0, 0, []),
  (84, .aload_n 0, 0, 0, 0, 0, []),
  (85, .invokevirtual 60, 12, 0, 2, 0, []),
  (88, .ifCond .eq 42, 130, 0, 0, 0, []),
  (91, .aload_n 0, 0, 0, 0, 0, []),
  (92, .getfield 22, 2, 3, 0, 0, []),
  (95, .aload_n 0, 0, 0, 0, 0, []),
  (96, .getfield 15, 2, 1, 0, 0, []),
  (99, .if_icmp .ge 31, 130, 0, 0, 0, []),
  (102, .aload_n 0, 0, 0, 0, 0, []),
  (103, .aload_n 0, 0, 0, 0, 0, []),
  (104, .getfield 22, 2, 3, 0, 0, []),
  (107, .invokevirtual 68, 14, 1, 2, 0, []),
  (110, .aload_n 0, 0, 0, 0, 0, []),
  (111, .getfield 25, 2, 4, 0, 0, []),
  (114, .if_icmp .ne 16, 130, 0, 0, 0, []),
  (117, .aload_n 0, 0, 0, 0, 0, []),
  (118, .dup, 0, 0, 0, 0, []),
  (119, .getfield 22, 2, 3, 0, 0, []),
  (122, .iconst 1, 0, 0, 0, 1, []),
  (123, .iadd, 0, 0, 0, 0, []),
  (124, .putfield 22, 2, 3, 0, 0, []),
  (127, .goto (-43), 84, 0, 0, 0, []),
  (130, .aload_n 0, 0, 0, 0, 0, []),
  (131, .iload_n 1, 1, 0, 0, 0, []),
  (132, .ifCond .eq 22, 154, 0, 0, 0, []),
  (135, .aload_n 0, 0, 0, 0, 0, []),
  (136, .invokevirtual 60, 12, 0, 2, 0, []),
  (139, .ifCond .eq 15, 154, 0, 0, 0, []),
  (142, .aload_n 0, 0, 0, 0, 0, []),
  (143, .getfield 19, 2, 2, 0, 0, []),
  (146, .iload_n 2, 2, 0, 0, 0, []),
  (147, .if_icmp .ne 7, 154, 0, 0, 0, []),
  (150, .iconst 1, 0, 0, 0, 1, []),
  (151, .goto 4, 155, 0, 0, 0, []),
  (154, .iconst 0, 0, 0, 0, 0, []),
  (155, .putfield 28, 2, 5, 1, 0, []),
  (158, .return_, 0, 0, 0, 0, [])]
theorem zk11 : zchk RX2 cX2_goAhead 3 true none zc11 [0, 3070, 0, 0, 1034, 0, 0, 0, 1034, 1033, 0, 1033, 0, 1031, 0, 0, 0, 1033, 3074, 0, 0, 0, 0, 1033, 0, 0, 1033, 0, 0, 0, 0, 1033, 3078, 1035, 0, 0, 1033, 0, 0, 0, 1031, 3083, 1034, 0, 3070, 0, 0, 1034, 0, 1031, 0, 0, 0, 1034, 3078, 0, 1035, 0, 0, 0, 1034, 0, 0, 1034, 0, 0, 0, 0, 0, 3070, 0, 0, 1033, 0, 0, 0, 0, 0, 1036, 0] = true := by decide +kernel
def zc12 : List zE := [(0, .aload_n 0, 0, 0, 0, 0, []),
  (1, .getfield 25, 2, 4, 0, 0, []),
  (4, .bipush (-2), 0, 0, 0, (-2), []),
  (6, .if_icmp .eq 12, 18, 0, 0, 0, []),
  (9, .aload_n 0, 0, 0, 0, 0, []),
  (10, .getfield 25, 2, 4, 0, 0, []),
  (13, .bipush (-3), 0, 0, 0, (-3), []),
  (15, .if_icmp .ne 7, 22, 0, 0, 0, []),
  (18, .iconst 1, 0, 0, 0, 1, []),
  (19, .goto 4, 23, 0, 0, 0, []),
  (22, .iconst 0, 0, 0, 0, 0, []),
  (23, .ireturn, 0, 0, 1, 0, [])]
theorem zk12 : zchk RX2 cX2_isWord 1 true (some .boolean) zc12 [0, 1035, 0, 0, 0, 1035, 0, 0, 0, 0, 0, 0] = true := by decide +kernel
def zc13 : List zE := [(0, .iload_n 1, 1, 0, 0, 0, []),
  (1, .ifCond .lt 26, 27, 0, 0, 0, []),
  (4, .iload_n 1, 1, 0, 0, 0, []),
  (5, .aload_n 0, 0, 0, 0, 0, []),
  (6, .getfield 15, 2, 1, 0, 0, []),
  (9, .if_icmp .ge 18, 27, 0, 0, 0, []),
  (12, .iload_n 1, 1, 0, 0, 0, []),
  (13, .bipush 96, 0, 0, 0, 96, []),
  (15, .if_icmp .ge 12, 27, 0, 0, 0, []),
  (18, .aload_n 0, 0, 0, 0, 0, []),
  (19, .getfield 9, 2, 0, 0, 0, []),
  (22, .iload_n 1, 1, 0, 0, 0, []),
  (23, .iaload, 0, 0, 0, 0, []),
  (24, .goto 4, 28, 0, 0, 0, []),
  (27, .iconst (-1), 0, 0, 0, (-1), []),
  (28, .ireturn, 0, 0, 0, 0, [])]
theorem zk13 : zchk RX2 cX2_byteAt 2 true (some .int) zc13 [0, 0, 0, 0, 1031, 0, 0, 0, 0, 0, 1030, 0, 0, 0, 0, 0] = true := by decide +kernel
def zc14 : List zE := [(0, .aload_n 0, 0, 0, 0, 0, []),
  (1, .iload_n 1, 1, 0, 0, 0, []),
  (2, .invokevirtual 64, 13, 1, 2, 0, []),
  (5, .istore_n 2, 2, 0, 0, 0, []),
  (6, .iload_n 2, 2, 0, 0, 0, []),
  (7, .bipush 97, 0, 0, 0, 97, []),
  (9, .bipush 122, 0, 0, 0, 122, []),
  (11, .invokestatic 77, 103, 3, 0, 0, []),
  (14, .ifCond .eq 6, 20, 0, 0, 0, []),
  (17, .bipush (-2), 0, 0, 0, (-2), []),
  (19, .ireturn, 0, 0, 0, 0, []),
  (20, .iload_n 2, 2, 0, 0, 0, []),
  (21, .bipush 48, 0, 0, 0, 48, []),
  (23, .bipush 57, 0, 0, 0, 57, []),
  (25, .invokestatic 77, 103, 3, 0, 0, []),
  (28, .ifCond .eq 8, 36, 0, 0, 0, []),
  (31, .bipush (-3), 0, 0, 0, (-3), []),
  (33, .goto 4, 37, 0, 0, 0, []),
  (36, .iload_n 2, 2, 0, 0, 0, []),
  (37, .ireturn, 0, 0, 0, 0, [])]
theorem zk14 : zchk RX2 cX2_sortAt 3 true (some .int) zc14 [0, 0, 3074, 0, 0, 0, 0, 3082, 0, 0, 0, 0, 0, 0, 3082, 0, 0, 0, 0, 0] = true := by decide +kernel
def zc15 : List zE := [(0, .aload_n 0, 0, 0, 0, 0, []),
  (1, .getfield 32, 2, 6, 0, 0, []),
  (4, .iconst (-1), 0, 0, 0, (-1), []),
  (5, .if_icmp .ne 11, 16, 0, 0, 0, []),
  (8, .aload_n 0, 0, 0, 0, 0, []),
  (9, .aload_n 0, 0, 0, 0, 0, []),
  (10, .getfield 19, 2, 2, 0, 0, []),
  (13, .putfield 32, 2, 6, 0, 0, []),
  (16, .return_, 0, 0, 0, 0, [])]
theorem zk15 : zchk RX2 cX2_meetsFault 1 true none zc15 [0, 1037, 0, 0, 0, 0, 1033, 1037, 0] = true := by decide +kernel
def zc16 : List zE := [(0, .aload_n 0, 0, 0, 0, 0, []),
  (1, .getfield 32, 2, 6, 0, 0, []),
  (4, .iconst (-1), 0, 0, 0, (-1), []),
  (5, .if_icmp .ne 15, 20, 0, 0, 0, []),
  (8, .aload_n 0, 0, 0, 0, 0, []),
  (9, .getfield 25, 2, 4, 0, 0, []),
  (12, .iload_n 1, 1, 0, 0, 0, []),
  (13, .if_icmp .ne 7, 20, 0, 0, 0, []),
  (16, .iconst 1, 0, 0, 0, 1, []),
  (17, .goto 4, 21, 0, 0, 0, []),
  (20, .iconst 0, 0, 0, 0, 0, []),
  (21, .ireturn, 0, 0, 1, 0, [])]
theorem zk16 : zchk RX2 cX2_isSign 2 true (some .boolean) zc16 [0, 1037, 0, 0, 0, 1035, 0, 0, 0, 0, 0, 0] = true := by decide +kernel
def zc17 : List zE := [(0, .aload_n 0, 0, 0, 0, 0, []),
  (1, .getfield 41, 2, 9, 0, 0, []),
  (4, .bipush 96, 0, 0, 0, 96, []),
  (6, .if_icmp .ge 23, 29, 0, 0, 0, []),
  (9, .aload_n 0, 0, 0, 0, 0, []),
  (10, .getfield 38, 2, 8, 0, 0, []),
  (13, .aload_n 0, 0, 0, 0, 0, []),
  (14, .getfield 41, 2, 9, 0, 0, []),
  (17, .iload_n 1, 1, 0, 0, 0, []),
  (18, .iastore, 0, 0, 0, 0, []),
  (19, .aload_n 0, 0, 0, 0, 0, []),
  (20, .dup, 0, 0, 0, 0, []),
  (21, .getfield 41, 2, 9, 0, 0, []),
  (24, .iconst 1, 0, 0, 0, 1, []),
  (25, .iadd, 0, 0, 0, 0, []),
  (26, .putfield 41, 2, 9, 0, 0, []),
  (29, .return_, 0, 0, 0, 0, [])]
theorem zk17 : zchk RX2 cX2_puts 2 true none zc17 [0, 1043, 0, 0, 0, 1041, 0, 1043, 0, 0, 0, 0, 1043, 0, 0, 1043, 0] = true := by decide +kernel
def zc18 : List zE := [(0, .aload_n 0, 0, 0, 0, 0, []),
  (1, .ldc 81, 1, 86, 0, 0, []),
  (3, .invokevirtual 83, 19, 1, 2, 0, []),
  (6, .ifCond .eq 11, 17, 0, 0, 0, []),
  (9, .aload_n 0, 0, 0, 0, 0, []),
  (10, .iconst 0, 0, 0, 0, 0, []),
  (11, .putfield 35, 2, 7, 0, 0, []),
  (14, .goto 42, 56, 0, 0, 0, []),
  (17, .aload_n 0, 0, 0, 0, 0, []),
  (18, .ldc 89, 1, 87, 0, 0, []),
  (20, .invokevirtual 83, 19, 1, 2, 0, []),
  (23, .ifCond .eq 11, 34, 0, 0, 0, []),
  (26, .aload_n 0, 0, 0, 0, 0, []),
  (27, .iconst 1, 0, 0, 0, 1, []),
  (28, .putfield 35, 2, 7, 0, 0, []),
  (31, .goto 25, 56, 0, 0, 0, []),
  (34, .aload_n 0, 0, 0, 0, 0, []),
  (35, .ldc 91, 1, 88, 0, 0, []),
  (37, .invokevirtual 83, 19, 1, 2, 0, []),
  (40, .ifCond .eq 11, 51, 0, 0, 0, []),
  (43, .aload_n 0, 0, 0, 0, 0, []),
  (44, .iconst 2, 0, 0, 0, 2, []),
  (45, .putfield 35, 2, 7, 0, 0, []),
  (48, .goto 8, 56, 0, 0, 0, []),
  (51, .aload_n 0, 0, 0, 0, 0, []),
  (52, .invokevirtual 57, 15, 0, 2, 0, []),
  (55, .return_, 0, 0, 0, 0, []),
  (56, .aload_n 0, 0, 0, 0, 0, []),
  (57, .invokevirtual 47, 11, 0, 2, 0, []),
  (60, .return_, 0, 0, 0, 0, [])]
theorem zk18 : zchk RX2 cX2_readKey 1 true none zc18 [0, 0, 3089, 0, 0, 0, 1038, 0, 0, 0, 3089, 0, 0, 0, 1038, 0, 0, 0, 3089, 0, 0, 0, 1038, 0, 0, 3143, 0, 0, 3066, 0] = true := by decide +kernel
def zc19 : List zE := [(0, .aload_n 0, 0, 0, 0, 0, []),
  (1, .getfield 25, 2, 4, 0, 0, []),
  (4, .bipush (-2), 0, 0, 0, (-2), []),
  (6, .if_icmp .ne 19, 25, 0, 0, 0, []),
  (9, .aload_n 0, 0, 0, 0, 0, []),
  (10, .getfield 22, 2, 3, 0, 0, []),
  (13, .aload_n 0, 0, 0, 0, 0, []),
  (14, .getfield 19, 2, 2, 0, 0, []),
  (17, .isub, 0, 0, 0, 0, []),
  (18, .aload_n 1, 1, 0, 0, 0, []),
  (19, .invokevirtual 93, 1004, 0, 23, 0, []),
  (22, .if_icmp .eq 5, 27, 0, 0, 0, []),
  (25, .iconst 0, 0, 0, 0, 0, []),
  (26, .ireturn, 0, 0, 1, 0, []),
  (27, .iconst 0, 0, 0, 0, 0, []),
  (28, .istore_n 2, 2, 0, 0, 0, []),
  (29, .iload_n 2, 2, 0, 0, 0, []),
  (30, .aload_n 1, 1, 0, 0, 0, []),
  (31, .invokevirtual 93, 1004, 0, 23, 0, []),
  (34, .if_icmp .ge 29, 63, 0, 0, 0, []),
  (37, .aload_n 0, 0, 0, 0, 0, []),
  (38, .aload_n 0, 0, 0, 0, 0, []),
  (39, .getfield 19, 2, 2, 0, 0, []),
  (42, .iload_n 2, 2, 0, 0, 0, []),
  (43, .iadd, 0, 0, 0, 0, []),
  (44, .invokevirtual 64, 13, 1, 2, 0, []),
  (47, .aload_n 1, 1, 0, 0, 0, []),
  (48, .iload_n 2, 2, 0, 0, 0, []),
  (49, .invokevirtual 98, 1005, 1, 23, 0, []),
  (52, .if_icmp .eq 5, 57, 0, 0, 0, []),
  (55, .iconst 0, 0, 0, 0, 0, []),
  (56, .ireturn, 0, 0, 1, 0, []),
  (57, .iinc 2 1, 2, 0, 0, 1, []),
  (60, .goto (-31), 29, 0, 0, 0, []),
  (63, .iconst 1, 0, 0, 0, 1, []),
  (64, .ireturn, 0, 0, 1, 0, [])]
theorem zk19 : zchk RX2 cX2_spells 3 true (some .boolean) zc19 [0, 1035, 0, 0, 0, 1034, 0, 1033, 0, 0, 3093, 0, 0, 0, 0, 0, 0, 0, 3093, 0, 0, 0, 1033, 0, 0, 3074, 0, 0, 3103, 0, 0, 0, 0, 0, 0, 0] = true := by decide +kernel
def zc20 : List zE := [(0, .aload_n 0, 0, 0, 0, 0, []),
  (1, .iload_n 1, 1, 0, 0, 0, []),
  (2, .iload_n 2, 2, 0, 0, 0, []),
  (3, .invokevirtual 102, 21, 2, 2, 0, []),
  (6, .iconst 0, 0, 0, 0, 0, []),
  (7, .istore_n 3, 3, 0, 0, 0, []),
  (8, .iload_n 3, 3, 0, 0, 0, []),
  (9, .bipush 96, 0, 0, 0, 96, []),
  (11, .if_icmp .ge 34, 45, 0, 0, 0, []),
  (14, .aload_n 0, 0, 0, 0, 0, []),
  (15, .bipush 124, 0, 0, 0, 124, []),
  (17, .invokevirtual 105, 16, 1, 2, 0, []),
  (20, .ifCond .eq 25, 45, 0, 0, 0, []),
  (23, .aload_n 0, 0, 0, 0, 0, []),
  (24, .invokevirtual 47, 11, 0, 2, 0, []),
  (27, .aload_n 0, 0, 0, 0, 0, []),
  (28, .iload_n 1, 1, 0, 0, 0, []),
  (29, .iload_n 2, 2, 0, 0, 0, []),
  (30, .invokevirtual 102, 21, 2, 2, 0, []),
  (33, .aload_n 0, 0, 0, 0, 0, []),
  (34, .bipush (-124), 0, 0, 0, (-124), []),
  (36, .invokevirtual 109, 17, 1, 2, 0, []),
  (39, .iinc 3 1, 3, 0, 0, 1, []),
  (42, .goto (-34), 8, 0, 0, 0, []),
  (45, .return_, 0, 0, 0, 0, [])]
theorem zk20 : zchk RX2 cX2_readOr 4 true none zc20 [0, 0, 0, 3151, 0, 0, 0, 0, 0, 0, 0, 3193, 0, 0, 3066, 0, 0, 0, 3151, 0, 0, 3175, 0, 0, 0] = true := by decide +kernel
def zc21 : List zE := [(0, .aload_n 0, 0, 0, 0, 0, []),
  (1, .iload_n 1, 1, 0, 0, 0, []),
  (2, .iload_n 2, 2, 0, 0, 0, []),
  (3, .invokevirtual 113, 22, 2, 2, 0, []),
  (6, .iconst 0, 0, 0, 0, 0, []),
  (7, .istore_n 3, 3, 0, 0, 0, []),
  (8, .iload_n 3, 3, 0, 0, 0, []),
  (9, .bipush 96, 0, 0, 0, 96, []),
  (11, .if_icmp .ge 34, 45, 0, 0, 0, []),
  (14, .aload_n 0, 0, 0, 0, 0, []),
  (15, .bipush 38, 0, 0, 0, 38, []),
  (17, .invokevirtual 105, 16, 1, 2, 0, []),
  (20, .ifCond .eq 25, 45, 0, 0, 0, []),
  (23, .aload_n 0, 0, 0, 0, 0, []),
  (24, .invokevirtual 47, 11, 0, 2, 0, []),
  (27, .aload_n 0, 0, 0, 0, 0, []),
  (28, .iload_n 1, 1, 0, 0, 0, []),
  (29, .iload_n 2, 2, 0, 0, 0, []),
  (30, .invokevirtual 113, 22, 2, 2, 0, []),
  (33, .aload_n 0, 0, 0, 0, 0, []),
  (34, .bipush (-38), 0, 0, 0, (-38), []),
  (36, .invokevirtual 109, 17, 1, 2, 0, []),
  (39, .iinc 3 1, 3, 0, 0, 1, []),
  (42, .goto (-34), 8, 0, 0, 0, []),
  (45, .return_, 0, 0, 0, 0, [])]
theorem zk21 : zchk RX2 cX2_readAnd 4 true none zc21 [0, 0, 0, 3155, 0, 0, 0, 0, 0, 0, 0, 3193, 0, 0, 3066, 0, 0, 0, 3155, 0, 0, 3175, 0, 0, 0] = true := by decide +kernel
def zc22 : List zE := [(0, .aload_n 0, 0, 0, 0, 0, []),
  (1, .iload_n 1, 1, 0, 0, 0, []),
  (2, .iload_n 2, 2, 0, 0, 0, []),
  (3, .invokevirtual 116, 23, 2, 2, 0, []),
  (6, .aload_n 0, 0, 0, 0, 0, []),
  (7, .bipush 60, 0, 0, 0, 60, []),
  (9, .invokevirtual 105, 16, 1, 2, 0, []),
  (12, .ifCond .ne 21, 33, 0, 0, 0, []),
  (15, .aload_n 0, 0, 0, 0, 0, []),
  (16, .bipush 61, 0, 0, 0, 61, []),
  (18, .invokevirtual 105, 16, 1, 2, 0, []),
  (21, .ifCond .ne 12, 33, 0, 0, 0, []),
  (24, .aload_n 0, 0, 0, 0, 0, []),
  (25, .bipush 62, 0, 0, 0, 62, []),
  (27, .invokevirtual 105, 16, 1, 2, 0, []),
  (30, .ifCond .eq 24, 54, 0, 0, 0, []),
  (33, .aload_n 0, 0, 0, 0, 0, []),
  (34, .getfield 25, 2, 4, 0, 0, []),
  (37, .istore_n 3, 3, 0, 0, 0, []),
  (38, .aload_n 0, 0, 0, 0, 0, []),
  (39, .invokevirtual 47, 11, 0, 2, 0, []),
  (42, .aload_n 0, 0, 0, 0, 0, []),
  (43, .iload_n 1, 1, 0, 0, 0, []),
  (44, .iload_n 2, 2, 0, 0, 0, []),
  (45, .invokevirtual 116, 23, 2, 2, 0, []),
  (48, .aload_n 0, 0, 0, 0, 0, []),
  (49, .iload_n 3, 3, 0, 0, 0, []),
  (50, .ineg, 0, 0, 0, 0, []),
  (51, .invokevirtual 109, 17, 1, 2, 0, []),
  (54, .return_, 0, 0, 0, 0, [])]
theorem zk22 : zchk RX2 cX2_readTest 4 true none zc22 [0, 0, 0, 3159, 0, 0, 3193, 0, 0, 0, 3193, 0, 0, 0, 3193, 0, 0, 1035, 0, 0, 3066, 0, 0, 0, 3159, 0, 0, 0, 3175, 0] = true := by decide +kernel
def zc23 : List zE := [(0, .aload_n 0, 0, 0, 0, 0, []),
  (1, .iload_n 1, 1, 0, 0, 0, []),
  (2, .iload_n 2, 2, 0, 0, 0, []),
  (3, .invokevirtual 119, 24, 2, 2, 0, []),
  (6, .iconst 0, 0, 0, 0, 0, []),
  (7, .istore_n 3, 3, 0, 0, 0, []),
  (8, .iload_n 3, 3, 0, 0, 0, []),
  (9, .bipush 96, 0, 0, 0, 96, []),
  (11, .if_icmp .ge 50, 61, 0, 0, 0, []),
  (14, .aload_n 0, 0, 0, 0, 0, []),
  (15, .bipush 43, 0, 0, 0, 43, []),
  (17, .invokevirtual 105, 16, 1, 2, 0, []),
  (20, .ifCond .ne 12, 32, 0, 0, 0, []),
  (23, .aload_n 0, 0, 0, 0, 0, []),
  (24, .bipush 45, 0, 0, 0, 45, []),
  (26, .invokevirtual 105, 16, 1, 2, 0, []),
  (29, .ifCond .eq 32, 61, 0, 0, 0, []),
  (32, .aload_n 0, 0, 0, 0, 0, []),
  (33, .getfield 25, 2, 4, 0, 0, []),
  (36, .istore 4, 4, 0, 0, 0, []),
  (38, .aload_n 0, 0, 0, 0, 0, []),
  (39, .invokevirtual 47, 11, 0, 2, 0, []),
  (42, .aload_n 0, 0, 0, 0, 0, []),
  (43, .iload_n 1, 1, 0, 0, 0, []),
  (44, .iload_n 2, 2, 0, 0, 0, []),
  (45, .invokevirtual 119, 24, 2, 2, 0, []),
  (48, .aload_n 0, 0, 0, 0, 0, []),
  (49, .iload 4, 4, 0, 0, 0, []),
  (51, .ineg, 0, 0, 0, 0, []),
  (52, .invokevirtual 109, 17, 1, 2, 0, []),
  (55, .iinc 3 1, 3, 0, 0, 1, []),
  (58, .goto (-50), 8, 0, 0, 0, []),
  (61, .return_, 0, 0, 0, 0, [])]
theorem zk23 : zchk RX2 cX2_readSum 5 true none zc23 [0, 0, 0, 3163, 0, 0, 0, 0, 0, 0, 0, 3193, 0, 0, 0, 3193, 0, 0, 1035, 0, 0, 3066, 0, 0, 0, 3163, 0, 0, 0, 3175, 0, 0, 0] = true := by decide +kernel
def zc24 : List zE := [(0, .aload_n 0, 0, 0, 0, 0, []),
  (1, .iload_n 1, 1, 0, 0, 0, []),
  (2, .iload_n 2, 2, 0, 0, 0, []),
  (3, .invokevirtual 122, 25, 2, 2, 0, []),
  (6, .iconst 0, 0, 0, 0, 0, []),
  (7, .istore_n 3, 3, 0, 0, 0, []),
  (8, .iload_n 3, 3, 0, 0, 0, []),
  (9, .bipush 96, 0, 0, 0, 96, []),
  (11, .if_icmp .ge 50, 61, 0, 0, 0, []),
  (14, .aload_n 0, 0, 0, 0, 0, []),
  (15, .bipush 42, 0, 0, 0, 42, []),
  (17, .invokevirtual 105, 16, 1, 2, 0, []),
  (20, .ifCond .ne 12, 32, 0, 0, 0, []),
  (23, .aload_n 0, 0, 0, 0, 0, []),
  (24, .bipush 47, 0, 0, 0, 47, []),
  (26, .invokevirtual 105, 16, 1, 2, 0, []),
  (29, .ifCond .eq 32, 61, 0, 0, 0, []),
  (32, .aload_n 0, 0, 0, 0, 0, []),
  (33, .getfield 25, 2, 4, 0, 0, []),
  (36, .istore 4, 4, 0, 0, 0, []),
  (38, .aload_n 0, 0, 0, 0, 0, []),
  (39, .invokevirtual 47, 11, 0, 2, 0, []),
  (42, .aload_n 0, 0, 0, 0, 0, []),
  (43, .iload_n 1, 1, 0, 0, 0, []),
  (44, .iload_n 2, 2, 0, 0, 0, []),
  (45, .invokevirtual 122, 25, 2, 2, 0, []),
  (48, .aload_n 0, 0, 0, 0, 0, []),
  (49, .iload 4, 4, 0, 0, 0, []),
  (51, .ineg, 0, 0, 0, 0, []),
  (52, .invokevirtual 109, 17, 1, 2, 0, []),
  (55, .iinc 3 1, 3, 0, 0, 1, []),
  (58, .goto (-50), 8, 0, 0, 0, []),
  (61, .return_, 0, 0, 0, 0, [])]
theorem zk24 : zchk RX2 cX2_readTerm 5 true none zc24 [0, 0, 0, 3167, 0, 0, 0, 0, 0, 0, 0, 3193, 0, 0, 0, 3193, 0, 0, 1035, 0, 0, 3066, 0, 0, 0, 3167, 0, 0, 0, 3175, 0, 0, 0] = true := by decide +kernel
def zc25 : List zE := [(0, .aload_n 0, 0, 0, 0, 0, []),
  (1, .getfield 32, 2, 6, 0, 0, []),
  (4, .iconst (-1), 0, 0, 0, (-1), []),
  (5, .if_icmp .eq 4, 9, 0, 0, 0, []),
  (8, .return_, 0, 0, 0, 0, []),
  (9, .aload_n 0, 0, 0, 0, 0, []),
  (10, .getfield 25, 2, 4, 0, 0, []),
  (13, .bipush (-3), 0, 0, 0, (-3), []),
  (15, .if_icmp .ne 17, 32, 0, 0, 0, []),
  (18, .aload_n 0, 0, 0, 0, 0, []),
  (19, .getfield 28, 2, 5, 0, 0, []),
  (22, .ifCond .ne 10, 32, 0, 0, 0, []),
  (25, .aload_n 0, 0, 0, 0, 0, []),
  (26, .invokevirtual 125, 27, 0, 2, 0, []),
  (29, .goto 100, 129, 0, 0, 0, []),
  (32, .aload_n 0, 0, 0, 0, 0, []),
  (33, .getfield 25, 2, 4, 0, 0, []),
  (36, .bipush (-2), 0, 0, 0, (-2), []),
  (38, .if_icmp .ne 17, 55, 0, 0, 0, []),
  (41, .aload_n 0, 0, 0, 0, 0, []),
  (42, .getfield 28, 2, 5, 0, 0, []),
  (45, .ifCond .ne 10, 55, 0, 0, 0, []),
  (48, .aload_n 0, 0, 0, 0, 0, []),
  (49, .invokevirtual 128, 28, 0, 2, 0, []),
  (52, .goto 77, 129, 0, 0, 0, []),
  (55, .aload_n 0, 0, 0, 0, 0, []),
  (56, .getfield 25, 2, 4, 0, 0, []),
  (59, .bipush 33, 0, 0, 0, 33, []),
  (61, .if_icmp .ne 30, 91, 0, 0, 0, []),
  (64, .iload_n 2, 2, 0, 0, 0, []),
  (65, .bipush 8, 0, 0, 0, 8, []),
  (67, .if_icmp .ge 24, 91, 0, 0, 0, []),
  (70, .aload_n 0, 0, 0, 0, 0, []),
  (71, .invokevirtual 47, 11, 0, 2, 0, []),
  (74, .aload_n 0, 0, 0, 0, 0, []),
  (75, .iload_n 1, 1, 0, 0, 0, []),
  (76, .iload_n 2, 2, 0, 0, 0, []),
  (77, .iconst 1, 0, 0, 0, 1, []),
  (78, .iadd, 0, 0, 0, 0, []),
  (79, .invokevirtual 122, 25, 2, 2, 0, []),
  (82, .aload_n 0, 0, 0, 0, 0, []),
  (83, .bipush (-33), 0, 0, 0, (-33), []),
  (85, .invokevirtual 109, 17, 1, 2, 0, []),
  (88, .goto 41, 129, 0, 0, 0, []),
  (91, .aload_n 0, 0, 0, 0, 0, []),
  (92, .getfield 25, 2, 4, 0, 0, []),
  (95, .bipush 40, 0, 0, 0, 40, []),
  (97, .if_icmp .ne 28, 125, 0, 0, 0, []),
  (100, .iload_n 1, 1, 0, 0, 0, []),
  (101, .bipush 8, 0, 0, 0, 8, []),
  (103, .if_icmp .ge 22, 125, 0, 0, 0, []),
  (106, .aload_n 0, 0, 0, 0, 0, []),
  (107, .invokevirtual 47, 11, 0, 2, 0, []),
  (110, .aload_n 0, 0, 0, 0, 0, []),
  (111, .iload_n 1, 1, 0, 0, 0, []),
  (112, .iconst 1, 0, 0, 0, 1, []),
  (113, .iadd, 0, 0, 0, 0, []),
  (114, .iload_n 2, 2, 0, 0, 0, []),
  (115, .invokevirtual 53, 20, 2, 2, 0, []),
  (118, .aload_n 0, 0, 0, 0, 0, []),
  (119, .invokevirtual 131, 26, 0, 2, 0, []),
  (122, .goto 7, 129, 0, 0, 0, []),
  (125, .aload_n 0, 0, 0, 0, 0, []),
  (126, .invokevirtual 57, 15, 0, 2, 0, []),
  (129, .return_, 0, 0, 0, 0, [])]
theorem zk25 : zchk RX2 cX2_readPiece 3 true none zc25 [0, 1037, 0, 0, 0, 0, 1035, 0, 0, 0, 1036, 0, 0, 3171, 0, 0, 1035, 0, 0, 0, 1036, 0, 0, 3179, 0, 0, 1035, 0, 0, 0, 0, 0, 0, 3066, 0, 0, 0, 0, 0, 3167, 0, 0, 3175, 0, 0, 1035, 0, 0, 0, 0, 0, 0, 3066, 0, 0, 0, 0, 0, 3147, 0, 3189, 0, 0, 3143, 0] = true := by decide +kernel
def zc26 : List zE := [(0, .aload_n 0, 0, 0, 0, 0, []),
  (1, .bipush 41, 0, 0, 0, 41, []),
  (3, .invokevirtual 105, 16, 1, 2, 0, []),
  (6, .ifCond .eq 10, 16, 0, 0, 0, []),
  (9, .aload_n 0, 0, 0, 0, 0, []),
  (10, .invokevirtual 47, 11, 0, 2, 0, []),
  (13, .goto 7, 20, 0, 0, 0, []),
  (16, .aload_n 0, 0, 0, 0, 0, []),
  (17, .invokevirtual 57, 15, 0, 2, 0, []),
  (20, .return_, 0, 0, 0, 0, [])]
theorem zk26 : zchk RX2 cX2_readClosing 1 true none zc26 [0, 0, 3193, 0, 0, 3066, 0, 0, 3143, 0] = true := by decide +kernel
def zc27 : List zE := [(0, .aload_n 0, 0, 0, 0, 0, []),
  (1, .getfield 22, 2, 3, 0, 0, []),
  (4, .aload_n 0, 0, 0, 0, 0, []),
  (5, .getfield 19, 2, 2, 0, 0, []),
  (8, .isub, 0, 0, 0, 0, []),
  (9, .iconst 4, 0, 0, 0, 4, []),
  (10, .if_icmp .le 8, 18, 0, 0, 0, []),
  (13, .aload_n 0, 0, 0, 0, 0, []),
  (14, .invokevirtual 57, 15, 0, 2, 0, []),
  (17, .return_, 0, 0, 0, 0, []),
  (18, .iconst 0, 0, 0, 0, 0, []),
  (19, .istore_n 1, 1, 0, 0, 0, []),
  (20, .aload_n 0, 0, 0, 0, 0, []),
  (21, .getfield 19, 2, 2, 0, 0, []),
  (24, .istore_n 2, 2, 0, 0, 0, []),
  (25, .iload_n 2, 2, 0, 0, 0, []),
  (26, .aload_n 0, 0, 0, 0, 0, []),
  (27, .getfield 22, 2, 3, 0, 0, []),
  (30, .if_icmp .ge 23, 53, 0, 0, 0, []),
  (33, .iload_n 1, 1, 0, 0, 0, []),
  (34, .bipush 10, 0, 0, 0, 10, []),
  (36, .imul, 0, 0, 0, 0, []),
  (37, .aload_n 0, 0, 0, 0, 0, []),
  (38, .iload_n 2, 2, 0, 0, 0, []),
  (39, .invokevirtual 64, 13, 1, 2, 0, []),
  (42, .bipush 48, 0, 0, 0, 48, []),
  (44, .isub, 0, 0, 0, 0, []),
  (45, .iadd, 0, 0, 0, 0, []),
  (46, .istore_n 1, 1, 0, 0, 0, []),
  (47, .iinc 2 1, 2, 0, 0, 1, []),
  (50, .goto (-25), 25, 0, 0, 0, []),
  (53, .aload_n 0, 0, 0, 0, 0, []),
  (54, .iload_n 1, 1, 0, 0, 0, []),
  (55, .invokevirtual 109, 17, 1, 2, 0, []),
  (58, .aload_n 0, 0, 0, 0, 0, []),
  (59, .dup, 0, 0, 0, 0, []),
  (60, .getfield 44, 2, 10, 0, 0, []),
  (63, .iconst 1, 0, 0, 0, 1, []),
  (64, .iadd, 0, 0, 0, 0, []),
  (65, .putfield 44, 2, 10, 0, 0, []),
  (68, .aload_n 0, 0, 0, 0, 0, []),
  (69, .invokevirtual 47, 11, 0, 2, 0, []),
  (72, .return_, 0, 0, 0, 0, [])]
theorem zk27 : zchk RX2 cX2_readNumber 3 true none zc27 [0, 1034, 0, 1033, 0, 0, 0, 0, 3143, 0, 0, 0, 0, 1033, 0, 0, 0, 1034, 0, 0, 0, 0, 0, 0, 3074, 0, 0, 0, 0, 0, 0, 0, 0, 3175, 0, 0, 1045, 0, 0, 1045, 0, 3066, 0] = true := by decide +kernel
def zc28 : List zE := [(0, .aload_n 0, 0, 0, 0, 0, []),
  (1, .invokevirtual 134, 29, 0, 2, 0, []),
  (4, .istore_n 1, 1, 0, 0, 0, []),
  (5, .iload_n 1, 1, 0, 0, 0, []),
  (6, .iconst (-1), 0, 0, 0, (-1), []),
  (7, .if_icmp .ne 8, 15, 0, 0, 0, []),
  (10, .aload_n 0, 0, 0, 0, 0, []),
  (11, .invokevirtual 57, 15, 0, 2, 0, []),
  (14, .return_, 0, 0, 0, 0, []),
  (15, .aload_n 0, 0, 0, 0, 0, []),
  (16, .iconst (-1), 0, 0, 0, (-1), []),
  (17, .iload_n 1, 1, 0, 0, 0, []),
  (18, .isub, 0, 0, 0, 0, []),
  (19, .invokevirtual 109, 17, 1, 2, 0, []),
  (22, .aload_n 0, 0, 0, 0, 0, []),
  (23, .dup, 0, 0, 0, 0, []),
  (24, .getfield 44, 2, 10, 0, 0, []),
  (27, .iconst 1, 0, 0, 0, 1, []),
  (28, .iadd, 0, 0, 0, 0, []),
  (29, .putfield 44, 2, 10, 0, 0, []),
  (32, .aload_n 0, 0, 0, 0, 0, []),
  (33, .invokevirtual 47, 11, 0, 2, 0, []),
  (36, .return_, 0, 0, 0, 0, [])]
theorem zk28 : zchk RX2 cX2_readName 2 true none zc28 [0, 3183, 0, 0, 0, 0, 0, 3143, 0, 0, 0, 0, 0, 3175, 0, 0, 1045, 0, 0, 1045, 0, 3066, 0] = true := by decide +kernel
end
section
/-! code tables: printed by gen06.py from the bytecode -/
def zc29 : List zE := [(0, .iconst 0, 0, 0, 0, 0, []),
  (1, .istore_n 1, 1, 0, 0, 0, []),
  (2, .iload_n 1, 1, 0, 0, 0, []),
  (3, .iconst 3, 0, 0, 0, 3, []),
  (4, .if_icmp .ge 63, 67, 0, 0, 0, []),
  (7, .aload_n 0, 0, 0, 0, 0, []),
  (8, .getfield 35, 2, 7, 0, 0, []),
  (11, .iconst 3, 0, 0, 0, 3, []),
  (12, .imul, 0, 0, 0, 0, []),
  (13, .iload_n 1, 1, 0, 0, 0, []),
  (14, .iadd, 0, 0, 0, 0, []),
  (15, .istore_n 2, 2, 0, 0, 0, []),
  (16, .aload_n 0, 0, 0, 0, 0, []),
  (17, .getfield 22, 2, 3, 0, 0, []),
  (20, .aload_n 0, 0, 0, 0, 0, []),
  (21, .getfield 19, 2, 2, 0, 0, []),
  (24, .isub, 0, 0, 0, 0, []),
  (25, .iconst 1, 0, 0, 0, 1, []),
  (26, .if_icmp .ne 35, 61, 0, 0, 0, []),
  (29, .iload_n 2, 2, 0, 0, 0, []),
  (30, .iconst 0, 0, 0, 0, 0, []),
  (31, .getstatic 137, 3, 83, 0, 0, []),
  (34, .arraylength, 0, 0, 0, 0, []),
  (35, .iconst 1, 0, 0, 0, 1, []),
  (36, .isub, 0, 0, 0, 0, []),
  (37, .invokestatic 77, 103, 3, 0, 0, []),
  (40, .ifCond .eq 21, 61, 0, 0, 0, []),
  (43, .aload_n 0, 0, 0, 0, 0, []),
  (44, .aload_n 0, 0, 0, 0, 0, []),
  (45, .getfield 19, 2, 2, 0, 0, []),
  (48, .invokevirtual 64, 13, 1, 2, 0, []),
  (51, .getstatic 137, 3, 83, 0, 0, []),
  (54, .iload_n 2, 2, 0, 0, 0, []),
  (55, .caload, 0, 0, 0, 0, []),
  (56, .if_icmp .ne 5, 61, 0, 0, 0, []),
  (59, .iload_n 1, 1, 0, 0, 0, []),
  (60, .ireturn, 0, 0, 0, 0, []),
  (61, .iinc 1 1, 1, 0, 0, 1, []),
  (64, .goto (-62), 2, 0, 0, 0, []),
  (67, .iconst (-1), 0, 0, 0, (-1), []),
  (68, .ireturn, 0, 0, 0, 0, [])]
theorem zk29 : zchk RX2 cX2_name 3 true (some .int) zc29 [0, 0, 0, 0, 0, 0, 1038, 0, 0, 0, 0, 0, 0, 1034, 0, 1033, 0, 0, 0, 0, 0, 3187, 0, 0, 0, 3082, 0, 0, 0, 1033, 3074, 3187, 0, 0, 0, 0, 0, 0, 0, 0, 0] = true := by decide +kernel
def zc30 : List zE := [(0, .aload_n 0, 0, 0, 0, 0, []),
  (1, .iload_n 1, 1, 0, 0, 0, []),
  (2, .putfield 13, 3, 0, 0, 0, []),
  (5, .aload_n 0, 0, 0, 0, 0, []),
  (6, .iload_n 2, 2, 0, 0, 0, []),
  (7, .iconst 0, 0, 0, 0, 0, []),
  (8, .bipush 24, 0, 0, 0, 24, []),
  (10, .invokestatic 24, 104, 3, 0, 0, []),
  (13, .putfield 17, 3, 1, 0, 0, []),
  (16, .iconst 0, 0, 0, 0, 0, []),
  (17, .istore_n 3, 3, 0, 0, 0, []),
  (18, .iload_n 3, 3, 0, 0, 0, []),
  (19, .bipush 24, 0, 0, 0, 24, []),
  (21, .if_icmp .ge 16, 37, 0, 0, 0, []),
  (24, .aload_n 0, 0, 0, 0, 0, []),
  (25, .getfield 20, 3, 2, 0, 0, []),
  (28, .iload_n 3, 3, 0, 0, 0, []),
  (29, .iconst 0, 0, 0, 0, 0, []),
  (30, .iastore, 0, 0, 0, 0, []),
  (31, .iinc 3 1, 3, 0, 0, 1, []),
  (34, .goto (-16), 18, 0, 0, 0, []),
  (37, .return_, 0, 0, 0, 0, [])]
theorem zk30 : zchk RX3 cX3_becomesNew 4 true none zc30 [0, 0, 1170, 0, 0, 0, 0, 3219, 1172, 0, 0, 0, 0, 0, 0, 1174, 0, 0, 0, 0, 0, 0] = true := by decide +kernel
def zc31 : List zE := [(0, .aload_n 0, 0, 0, 0, 0, []),
  (1, .aload_n 1, 1, 0, 0, 0, []),
  (2, .getfield 13, 3, 0, 0, 0, []),
  (5, .putfield 13, 3, 0, 0, 0, []),
  (8, .aload_n 0, 0, 0, 0, 0, []),
  (9, .aload_n 1, 1, 0, 0, 0, []),
  (10, .getfield 17, 3, 1, 0, 0, []),
  (13, .putfield 17, 3, 1, 0, 0, []),
  (16, .aload_n 1, 1, 0, 0, 0, []),
  (17, .getfield 20, 3, 2, 0, 0, []),
  (20, .iconst 0, 0, 0, 0, 0, []),
  (21, .aload_n 0, 0, 0, 0, 0, []),
  (22, .getfield 20, 3, 2, 0, 0, []),
  (25, .iconst 0, 0, 0, 0, 0, []),
  (26, .bipush 24, 0, 0, 0, 24, []),
  (28, .invokestatic 28, 1003, 5, 0, 0, []),
  (31, .return_, 0, 0, 0, 0, [])]
theorem zk31 : zchk RX3 cX3_become 2 true none zc31 [0, 0, 1170, 1170, 0, 0, 1172, 1172, 0, 1174, 0, 0, 1174, 0, 0, 4020, 0] = true := by decide +kernel
def zc32 : List zE := [(0, .aload_n 0, 0, 0, 0, 0, []),
  (1, .getfield 13, 3, 0, 0, 0, []),
  (4, .iconst (-1), 0, 0, 0, (-1), []),
  (5, .if_icmp .ne 7, 12, 0, 0, 0, []),
  (8, .iconst 1, 0, 0, 0, 1, []),
  (9, .goto 4, 13, 0, 0, 0, []),
  (12, .iconst 0, 0, 0, 0, 0, []),
  (13, .ireturn, 0, 0, 1, 0, [])]
theorem zk32 : zchk RX3 cX3_isMissing 1 true (some .boolean) zc32 [0, 1170, 0, 0, 0, 0, 0, 0] = true := by decide +kernel
def zc33 : List zE := [(0, .iload_n 1, 1, 0, 0, 0, []),
  (1, .iconst 0, 0, 0, 0, 0, []),
  (2, .aload_n 0, 0, 0, 0, 0, []),
  (3, .getfield 17, 3, 1, 0, 0, []),
  (6, .iconst 1, 0, 0, 0, 1, []),
  (7, .isub, 0, 0, 0, 0, []),
  (8, .invokestatic 34, 103, 3, 0, 0, []),
  (11, .ireturn, 0, 0, 1, 0, [])]
theorem zk33 : zchk RX3 cX3_hasPlace 2 true (some .boolean) zc33 [0, 0, 0, 1172, 0, 0, 3038, 0] = true := by decide +kernel
def zc34 : List zE := [(0, .iload_n 2, 2, 0, 0, 0, []),
  (1, .iconst 0, 0, 0, 0, 0, []),
  (2, .aload_n 0, 0, 0, 0, 0, []),
  (3, .getfield 17, 3, 1, 0, 0, []),
  (6, .invokestatic 34, 103, 3, 0, 0, []),
  (9, .ifCond .eq 21, 30, 0, 0, 0, []),
  (12, .iload_n 1, 1, 0, 0, 0, []),
  (13, .iconst 0, 0, 0, 0, 0, []),
  (14, .aload_n 0, 0, 0, 0, 0, []),
  (15, .getfield 17, 3, 1, 0, 0, []),
  (18, .iload_n 2, 2, 0, 0, 0, []),
  (19, .isub, 0, 0, 0, 0, []),
  (20, .invokestatic 34, 103, 3, 0, 0, []),
  (23, .ifCond .eq 7, 30, 0, 0, 0, []),
  (26, .iconst 1, 0, 0, 0, 1, []),
  (27, .goto 4, 31, 0, 0, 0, []),
  (30, .iconst 0, 0, 0, 0, 0, []),
  (31, .ireturn, 0, 0, 1, 0, [])]
theorem zk34 : zchk RX3 cX3_hasPlaces 3 true (some .boolean) zc34 [0, 0, 0, 1172, 3038, 0, 0, 0, 0, 1172, 0, 0, 3038, 0, 0, 0, 0, 0] = true := by decide +kernel
def zc35 : List zE := [(0, .aload_n 0, 0, 0, 0, 0, []),
  (1, .iload_n 1, 1, 0, 0, 0, []),
  (2, .invokevirtual 38, 33, 1, 3, 0, []),
  (5, .ifCond .eq 18, 23, 0, 0, 0, []),
  (8, .aload_n 0, 0, 0, 0, 0, []),
  (9, .getfield 20, 3, 2, 0, 0, []),
  (12, .iload_n 1, 1, 0, 0, 0, []),
  (13, .iaload, 0, 0, 0, 0, []),
  (14, .ldc 42, 0, 0, 0, (-2147483648), []),
  (16, .if_icmp .eq 7, 23, 0, 0, 0, []),
  (19, .iconst 1, 0, 0, 0, 1, []),
  (20, .goto 4, 24, 0, 0, 0, []),
  (23, .iconst 0, 0, 0, 0, 0, []),
  (24, .ireturn, 0, 0, 1, 0, [])]
theorem zk35 : zchk RX3 cX3_isNumber 2 true (some .boolean) zc35 [0, 0, 3034, 0, 0, 1174, 0, 0, 3039, 0, 0, 0, 0, 0] = true := by decide +kernel
def zc36 : List zE := [(0, .aload_n 0, 0, 0, 0, 0, []),
  (1, .aload_n 1, 1, 0, 0, 0, []),
  (2, .getfield 9, 5, 1, 0, 0, []),
  (5, .putfield 9, 5, 1, 0, 0, []),
  (8, .aload_n 1, 1, 0, 0, 0, []),
  (9, .getfield 15, 5, 2, 0, 0, []),
  (12, .iconst 0, 0, 0, 0, 0, []),
  (13, .aload_n 0, 0, 0, 0, 0, []),
  (14, .getfield 15, 5, 2, 0, 0, []),
  (17, .iconst 0, 0, 0, 0, 0, []),
  (18, .bipush 10, 0, 0, 0, 10, []),
  (20, .invokestatic 59, 1003, 5, 0, 0, []),
  (23, .aload_n 1, 1, 0, 0, 0, []),
  (24, .getfield 19, 5, 3, 0, 0, []),
  (27, .iconst 0, 0, 0, 0, 0, []),
  (28, .aload_n 0, 0, 0, 0, 0, []),
  (29, .getfield 19, 5, 3, 0, 0, []),
  (32, .iconst 0, 0, 0, 0, 0, []),
  (33, .bipush 10, 0, 0, 0, 10, []),
  (35, .invokestatic 59, 1003, 5, 0, 0, []),
  (38, .aload_n 1, 1, 0, 0, 0, []),
  (39, .getfield 22, 5, 4, 0, 0, []),
  (42, .iconst 0, 0, 0, 0, 0, []),
  (43, .aload_n 0, 0, 0, 0, 0, []),
  (44, .getfield 22, 5, 4, 0, 0, []),
  (47, .iconst 0, 0, 0, 0, 0, []),
  (48, .bipush 10, 0, 0, 0, 10, []),
  (50, .invokestatic 59, 1003, 5, 0, 0, []),
  (53, .aload_n 1, 1, 0, 0, 0, []),
  (54, .getfield 25, 5, 5, 0, 0, []),
  (57, .iconst 0, 0, 0, 0, 0, []),
  (58, .aload_n 0, 0, 0, 0, 0, []),
  (59, .getfield 25, 5, 5, 0, 0, []),
  (62, .iconst 0, 0, 0, 0, 0, []),
  (63, .bipush 10, 0, 0, 0, 10, []),
  (65, .invokestatic 59, 1003, 5, 0, 0, []),
  (68, .aload_n 1, 1, 0, 0, 0, []),
  (69, .getfield 28, 5, 6, 0, 0, []),
  (72, .iconst 0, 0, 0, 0, 0, []),
  (73, .aload_n 0, 0, 0, 0, 0, []),
  (74, .getfield 28, 5, 6, 0, 0, []),
  (77, .iconst 0, 0, 0, 0, 0, []),
  (78, .bipush 10, 0, 0, 0, 10, []),
  (80, .invokestatic 59, 1003, 5, 0, 0, []),
  (83, .aload_n 1, 1, 0, 0, 0, []),
  (84, .getfield 31, 5, 7, 0, 0, []),
  (87, .iconst 0, 0, 0, 0, 0, []),
  (88, .aload_n 0, 0, 0, 0, 0, []),
  (89, .getfield 31, 5, 7, 0, 0, []),
  (92, .iconst 0, 0, 0, 0, 0, []),
  (93, .bipush 6, 0, 0, 0, 6, []),
  (95, .invokestatic 59, 1003, 5, 0, 0, []),
  (98, .aload_n 1, 1, 0, 0, 0, []),
  (99, .getfield 49, 5, 13, 0, 0, []),
  (102, .iconst 0, 0, 0, 0, 0, []),
  (103, .aload_n 0, 0, 0, 0, 0, []),
  (104, .getfield 49, 5, 13, 0, 0, []),
  (107, .iconst 0, 0, 0, 0, 0, []),
  (108, .iconst 3, 0, 0, 0, 3, []),
  (109, .invokestatic 59, 1003, 5, 0, 0, []),
  (112, .aload_n 0, 0, 0, 0, 0, []),
  (113, .aload_n 1, 1, 0, 0, 0, []),
  (114, .getfield 34, 5, 8, 0, 0, []),
  (117, .putfield 34, 5, 8, 0, 0, []),
  (120, .aload_n 0, 0, 0, 0, 0, []),
  (121, .aload_n 1, 1, 0, 0, 0, []),
  (122, .getfield 37, 5, 9, 0, 0, []),
  (125, .putfield 37, 5, 9, 0, 0, []),
  (128, .aload_n 0, 0, 0, 0, 0, []),
  (129, .aload_n 1, 1, 0, 0, 0, []),
  (130, .getfield 40, 5, 10, 0, 0, []),
  (133, .putfield 40, 5, 10, 0, 0, []),
  (136, .aload_n 0, 0, 0, 0, 0, []),
  (137, .aload_n 1, 1, 0, 0, 0, []),
  (138, .getfield 43, 5, 11, 0, 0, []),
  (141, .putfield 43, 5, 11, 0, 0, []),
  (144, .aload_n 0, 0, 0, 0, 0, []),
  (145, .aload_n 1, 1, 0, 0, 0, []),
  (146, .getfield 46, 5, 12, 0, 0, []),
  (149, .putfield 46, 5, 12, 0, 0, []),
  (152, .aload_n 0, 0, 0, 0, 0, []),
  (153, .aload_n 1, 1, 0, 0, 0, []),
  (154, .getfield 52, 5, 14, 0, 0, []),
  (157, .putfield 52, 5, 14, 0, 0, []),
  (160, .return_, 0, 0, 0, 0, [])]
theorem zk36 : zchk RX5 cX5_become 2 true none zc36 [0, 0, 1106, 1106, 0, 1108, 0, 0, 1108, 0, 0, 2229, 0, 1110, 0, 0, 1110, 0, 0, 2229, 0, 1112, 0, 0, 1112, 0, 0, 2229, 0, 1114, 0, 0, 1114, 0, 0, 2229, 0, 1116, 0, 0, 1116, 0, 0, 2229, 0, 1118, 0, 0, 1118, 0, 0, 2229, 0, 1130, 0, 0, 1130, 0, 0, 2229, 0, 0, 1120, 1120, 0, 0, 1122, 1122, 0, 0, 1124, 1124, 0, 0, 1126, 1126, 0, 0, 1128, 1128, 0, 0, 1132, 1132, 0] = true := by decide +kernel
def zc37 : List zE := [(0, .iload_n 1, 1, 0, 0, 0, []),
  (1, .iconst 0, 0, 0, 0, 0, []),
  (2, .aload_n 0, 0, 0, 0, 0, []),
  (3, .getfield 9, 5, 1, 0, 0, []),
  (6, .iconst 1, 0, 0, 0, 1, []),
  (7, .isub, 0, 0, 0, 0, []),
  (8, .invokestatic 67, 103, 3, 0, 0, []),
  (11, .ireturn, 0, 0, 1, 0, [])]
theorem zk37 : zchk RX5 cX5_has 2 true (some .boolean) zc37 [0, 0, 0, 1106, 0, 0, 2019, 0] = true := by decide +kernel
def zc38 : List zE := [(0, .aload_n 0, 0, 0, 0, 0, []),
  (1, .getfield 9, 5, 1, 0, 0, []),
  (4, .istore 4, 4, 0, 0, 0, []),
  (6, .iload 4, 4, 0, 0, 0, []),
  (8, .iconst 0, 0, 0, 0, 0, []),
  (9, .bipush 9, 0, 0, 0, 9, []),
  (11, .invokestatic 67, 103, 3, 0, 0, []),
  (14, .ifCond .ne 6, 20, 0, 0, 0, []),
  (17, .ldc 71, 0, 0, 0, (-1000000003), []),
  (19, .ireturn, 0, 0, 0, 0, []),
  (20, .aload_n 0, 0, 0, 0, 0, []),
  (21, .getfield 15, 5, 2, 0, 0, []),
  (24, .iload 4, 4, 0, 0, 0, []),
  (26, .iload_n 1, 1, 0, 0, 0, []),
  (27, .iastore, 0, 0, 0, 0, []),
  (28, .aload_n 0, 0, 0, 0, 0, []),
  (29, .getfield 19, 5, 3, 0, 0, []),
  (32, .iload 4, 4, 0, 0, 0, []),
  (34, .iload_n 2, 2, 0, 0, 0, []),
  (35, .iastore, 0, 0, 0, 0, []),
  (36, .aload_n 0, 0, 0, 0, 0, []),
  (37, .getfield 22, 5, 4, 0, 0, []),
  (40, .iload 4, 4, 0, 0, 0, []),
  (42, .iload_n 3, 3, 0, 0, 0, []),
  (43, .iastore, 0, 0, 0, 0, []),
  (44, .aload_n 0, 0, 0, 0, 0, []),
  (45, .getfield 25, 5, 5, 0, 0, []),
  (48, .iload 4, 4, 0, 0, 0, []),
  (50, .iconst 0, 0, 0, 0, 0, []),
  (51, .iastore, 0, 0, 0, 0, []),
  (52, .aload_n 0, 0, 0, 0, 0, []),
  (53, .getfield 28, 5, 6, 0, 0, []),
  (56, .iload 4, 4, 0, 0, 0, []),
  (58, .iconst 0, 0, 0, 0, 0, []),
  (59, .iastore, 0, 0, 0, 0, []),
  (60, .aload_n 0, 0, 0, 0, 0, []),
  (61, .iload 4, 4, 0, 0, 0, []),
  (63, .iconst 1, 0, 0, 0, 1, []),
  (64, .iadd, 0, 0, 0, 0, []),
  (65, .putfield 9, 5, 1, 0, 0, []),
  (68, .iload 4, 4, 0, 0, 0, []),
  (70, .ireturn, 0, 0, 0, 0, [])]
theorem zk38 : zchk RX5 cX5_comes 5 true (some .int) zc38 [0, 1106, 0, 0, 0, 0, 2019, 0, 2020, 0, 0, 1108, 0, 0, 0, 0, 1110, 0, 0, 0, 0, 1112, 0, 0, 0, 0, 1114, 0, 0, 0, 0, 1116, 0, 0, 0, 0, 0, 0, 0, 1106, 0, 0] = true := by decide +kernel
def zc39 : List zE := [(0, .aload_n 0, 0, 0, 0, 0, []),
  (1, .aload_n 0, 0, 0, 0, 0, []),
  (2, .getfield 43, 5, 11, 0, 0, []),
  (5, .ldc 72, 0, 0, 0, 1103515245, []),
  (7, .imul, 0, 0, 0, 0, []),
  (8, .sipush 12345, 0, 0, 0, 12345, []),
  (11, .iadd, 0, 0, 0, 0, []),
  (12, .putfield 43, 5, 11, 0, 0, []),
  (15, .aload_n 0, 0, 0, 0, 0, []),
  (16, .getfield 43, 5, 11, 0, 0, []),
  (19, .bipush 8, 0, 0, 0, 8, []),
  (21, .iushr, 0, 0, 0, 0, []),
  (22, .ireturn, 0, 0, 0, 0, [])]
theorem zk39 : zchk RX5 cX5_draw 1 true (some .int) zc39 [0, 0, 1126, 2143, 0, 0, 0, 1126, 0, 1126, 0, 0, 0] = true := by decide +kernel
def zc40 : List zE := [(0, .iconst 0, 0, 0, 0, 0, []),
  (1, .istore_n 2, 2, 0, 0, 0, []),
  (2, .iconst 0, 0, 0, 0, 0, []),
  (3, .istore_n 3, 3, 0, 0, 0, []),
  (4, .iload_n 3, 3, 0, 0, 0, []),
  (5, .aload_n 0, 0, 0, 0, 0, []),
  (6, .getfield 9, 5, 1, 0, 0, []),
  (9, .if_icmp .ge 22, 31, 0, 0, 0, []),
  (12, .aload_n 0, 0, 0, 0, 0, []),
  (13, .getfield 22, 5, 4, 0, 0, []),
  (16, .iload_n 3, 3, 0, 0, 0, []),
  (17, .iaload, 0, 0, 0, 0, []),
  (18, .iload_n 1, 1, 0, 0, 0, []),
  (19, .if_icmp .ne 6, 25, 0, 0, 0, []),
  (22, .iinc 2 1, 2, 0, 0, 1, []),
  (25, .iinc 3 1, 3, 0, 0, 1, []),
  (28, .goto (-24), 4, 0, 0, 0, []),
  (31, .iload_n 2, 2, 0, 0, 0, []),
  (32, .ireturn, 0, 0, 0, 0, [])]
theorem zk40 : zchk RX5 cX5_howManyOn 4 true (some .int) zc40 [0, 0, 0, 0, 0, 0, 1106, 0, 0, 1112, 0, 0, 0, 0, 0, 0, 0, 0, 0] = true := by decide +kernel
def zc41 : List zE := [(0, .iconst 0, 0, 0, 0, 0, []),
  (1, .istore_n 2, 2, 0, 0, 0, []),
  (2, .iconst 0, 0, 0, 0, 0, []),
  (3, .istore_n 3, 3, 0, 0, 0, []),
  (4, .iload_n 3, 3, 0, 0, 0, []),
  (5, .aload_n 0, 0, 0, 0, 0, []),
  (6, .getfield 9, 5, 1, 0, 0, []),
  (9, .if_icmp .ge 21, 30, 0, 0, 0, []),
  (12, .iload_n 3, 3, 0, 0, 0, []),
  (13, .aload_n 1, 1, 0, 0, 0, []),
  (14, .arraylength, 0, 0, 0, 0, []),
  (15, .if_icmp .ge 15, 30, 0, 0, 0, []),
  (18, .iload_n 2, 2, 0, 0, 0, []),
  (19, .aload_n 1, 1, 0, 0, 0, []),
  (20, .iload_n 3, 3, 0, 0, 0, []),
  (21, .iaload, 0, 0, 0, 0, []),
  (22, .iadd, 0, 0, 0, 0, []),
  (23, .istore_n 2, 2, 0, 0, 0, []),
  (24, .iinc 3 1, 3, 0, 0, 1, []),
  (27, .goto (-23), 4, 0, 0, 0, []),
  (30, .iload_n 2, 2, 0, 0, 0, []),
  (31, .ireturn, 0, 0, 0, 0, [])]
theorem zk41 : zchk RX5 cX5_allOf 4 true (some .int) zc41 [0, 0, 0, 0, 0, 0, 1106, 0, 0, 0, 0, 0, 0, 0, 0, 0, 0, 0, 0, 0, 0, 0] = true := by decide +kernel
def zc42 : List zE := [(0, .iconst 0, 0, 0, 0, 0, []),
  (1, .istore_n 1, 1, 0, 0, 0, []),
  (2, .iload_n 1, 1, 0, 0, 0, []),
  (3, .aload_n 0, 0, 0, 0, 0, []),
  (4, .getfield 9, 5, 1, 0, 0, []),
  (7, .if_icmp .ge 21, 28, 0, 0, 0, []),
  (10, .aload_n 0, 0, 0, 0, 0, []),
  (11, .getfield 28, 5, 6, 0, 0, []),
  (14, .iload_n 1, 1, 0, 0, 0, []),
  (15, .iaload, 0, 0, 0, 0, []),
  (16, .iconst 1, 0, 0, 0, 1, []),
  (17, .if_icmp .ge 5, 22, 0, 0, 0, []),
  (20, .iconst 0, 0, 0, 0, 0, []),
  (21, .ireturn, 0, 0, 1, 0, []),
  (22, .iinc 1 1, 1, 0, 0, 1, []),
  (25, .goto (-23), 2, 0, 0, 0, []),
  (28, .iconst 1, 0, 0, 0, 1, []),
  (29, .ireturn, 0, 0, 1, 0, [])]
theorem zk42 : zchk RX5 cX5_haveAllBeenOver 2 true (some .boolean) zc42 [0, 0, 0, 0, 1106, 0, 0, 1116, 0, 0, 0, 0, 0, 0, 0, 0, 0, 0] = true := by decide +kernel
def zc43 : List zE := [(0, .aload_n 0, 0, 0, 0, 0, []),
  (1, .iload_n 1, 1, 0, 0, 0, []),
  (2, .invokevirtual 73, 37, 1, 5, 0, []),
  (5, .ifCond .ne 5, 10, 0, 0, 0, []),
  (8, .iconst 0, 0, 0, 0, 0, []),
  (9, .ireturn, 0, 0, 0, 0, []),
  (10, .aload_n 0, 0, 0, 0, 0, []),
  (11, .getfield 49, 5, 13, 0, 0, []),
  (14, .iconst 0, 0, 0, 0, 0, []),
  (15, .iaload, 0, 0, 0, 0, []),
  (16, .istore_n 2, 2, 0, 0, 0, []),
  (17, .iload_n 2, 2, 0, 0, 0, []),
  (18, .ifCond .ge 12, 30, 0, 0, 0, []),
  (21, .aload_n 0, 0, 0, 0, 0, []),
  (22, .getfield 19, 5, 3, 0, 0, []),
  (25, .iload_n 1, 1, 0, 0, 0, []),
  (26, .iaload, 0, 0, 0, 0, []),
  (27, .goto 29, 56, 0, 0, 0, []),
  (30, .aload_n 0, 0, 0, 0, 0, []),
  (31, .getfield 55, 5, 0, 0, 0, []),
  (34, .iload_n 2, 2, 0, 0, 0, []),
  (35, .aload_n 0, 0, 0, 0, 0, []),
  (36, .getfield 19, 5, 3, 0, 0, []),
  (39, .iload_n 1, 1, 0, 0, 0, []),
  (40, .iaload, 0, 0, 0, 0, []),
  (41, .aload_n 0, 0, 0, 0, 0, []),
  (42, .getfield 31, 5, 7, 0, 0, []),
  (45, .iconst 3, 0, 0, 0, 3, []),
  (46, .iaload, 0, 0, 0, 0, []),
  (47, .aload_n 0, 0, 0, 0, 0, []),
  (48, .getfield 25, 5, 5, 0, 0, []),
  (51, .iload_n 1, 1, 0, 0, 0, []),
  (52, .iaload, 0, 0, 0, 0, []),
  (53, .invokevirtual 77, 7, 4, 1, 0, []),
  (56, .istore_n 3, 3, 0, 0, 0, []),
  (57, .aload_n 0, 0, 0, 0, 0, []),
  (58, .getfield 15, 5, 2, 0, 0, []),
  (61, .iload_n 1, 1, 0, 0, 0, []),
  (62, .iaload, 0, 0, 0, 0, []),
  (63, .iload_n 3, 3, 0, 0, 0, []),
  (64, .iconst 0, 0, 0, 0, 0, []),
  (65, .sipush 999, 0, 0, 0, 999, []),
  (68, .invokestatic 81, 104, 3, 0, 0, []),
  (71, .invokestatic 85, 2, 2, 0, 0, []),
  (74, .ireturn, 0, 0, 0, 0, [])]
theorem zk43 : zchk RX5 cX5_pays 4 true (some .int) zc43 [0, 0, 2033, 0, 0, 0, 0, 1130, 0, 0, 0, 0, 0, 0, 1110, 0, 0, 0, 0, 1105, 0, 0, 1110, 0, 0, 0, 1118, 0, 0, 0, 1114, 0, 0, 2034, 0, 0, 1108, 0, 0, 0, 0, 0, 2042, 2051, 0] = true := by decide +kernel
def zc44 : List zE := [(0, .iconst 0, 0, 0, 0, 0, []),
  (1, .istore_n 2, 2, 0, 0, 0, []),
  (2, .iconst 0, 0, 0, 0, 0, []),
  (3, .istore_n 3, 3, 0, 0, 0, []),
  (4, .iload_n 3, 3, 0, 0, 0, []),
  (5, .aload_n 0, 0, 0, 0, 0, []),
  (6, .getfield 9, 5, 1, 0, 0, []),
  (9, .if_icmp .ge 26, 35, 0, 0, 0, []),
  (12, .iload_n 1, 1, 0, 0, 0, []),
  (13, .iload_n 3, 3, 0, 0, 0, []),
  (14, .ishr, 0, 0, 0, 0, []),
  (15, .iconst 1, 0, 0, 0, 1, []),
  (16, .iand, 0, 0, 0, 0, []),
  (17, .iconst 1, 0, 0, 0, 1, []),
  (18, .if_icmp .ne 11, 29, 0, 0, 0, []),
  (21, .iload_n 2, 2, 0, 0, 0, []),
  (22, .aload_n 0, 0, 0, 0, 0, []),
  (23, .iload_n 3, 3, 0, 0, 0, []),
  (24, .invokevirtual 91, 43, 1, 5, 0, []),
  (27, .iadd, 0, 0, 0, 0, []),
  (28, .istore_n 2, 2, 0, 0, 0, []),
  (29, .iinc 3 1, 3, 0, 0, 1, []),
  (32, .goto (-28), 4, 0, 0, 0, []),
  (35, .iload_n 2, 2, 0, 0, 0, []),
  (36, .ireturn, 0, 0, 0, 0, [])]
theorem zk44 : zchk RX5 cX5_paidBy 4 true (some .int) zc44 [0, 0, 0, 0, 0, 0, 1106, 0, 0, 0, 0, 0, 0, 0, 0, 0, 0, 0, 2179, 0, 0, 0, 0, 0, 0] = true := by decide +kernel
def zc45 : List zE := [(0, .aload_n 0, 0, 0, 0, 0, []),
  (1, .getfield 49, 5, 13, 0, 0, []),
  (4, .iconst 1, 0, 0, 0, 1, []),
  (5, .iaload, 0, 0, 0, 0, []),
  (6, .istore_n 3, 3, 0, 0, 0, []),
  (7, .iload_n 3, 3, 0, 0, 0, []),
  (8, .ifCond .ge 13, 21, 0, 0, 0, []),
  (11, .iload_n 1, 1, 0, 0, 0, []),
  (12, .iload_n 2, 2, 0, 0, 0, []),
  (13, .bipush 20, 0, 0, 0, 20, []),
  (15, .iadd, 0, 0, 0, 0, []),
  (16, .imul, 0, 0, 0, 0, []),
  (17, .bipush 10, 0, 0, 0, 10, []),
  (19, .idiv, 0, 0, 0, 0, []),
  (20, .ireturn, 0, 0, 0, 0, []),
  (21, .aload_n 0, 0, 0, 0, 0, []),
  (22, .getfield 55, 5, 0, 0, 0, []),
  (25, .iload_n 3, 3, 0, 0, 0, []),
  (26, .iload_n 1, 1, 0, 0, 0, []),
  (27, .iload_n 2, 2, 0, 0, 0, []),
  (28, .aload_n 0, 0, 0, 0, 0, []),
  (29, .getfield 31, 5, 7, 0, 0, []),
  (32, .iconst 1, 0, 0, 0, 1, []),
  (33, .iaload, 0, 0, 0, 0, []),
  (34, .invokevirtual 77, 7, 4, 1, 0, []),
  (37, .iconst 0, 0, 0, 0, 0, []),
  (38, .sipush 9999, 0, 0, 0, 9999, []),
  (41, .invokestatic 81, 104, 3, 0, 0, []),
  (44, .ireturn, 0, 0, 0, 0, [])]
theorem zk45 : zchk RX5 cX5_pullAt 4 true (some .int) zc45 [0, 1130, 0, 0, 0, 0, 0, 0, 0, 0, 0, 0, 0, 0, 0, 0, 1105, 0, 0, 0, 0, 1118, 0, 0, 2034, 0, 0, 2042, 0] = true := by decide +kernel
def zc46 : List zE := [(0, .iconst 0, 0, 0, 0, 0, []),
  (1, .bipush 30, 0, 0, 0, 30, []),
  (3, .aload_n 0, 0, 0, 0, 0, []),
  (4, .getfield 31, 5, 7, 0, 0, []),
  (7, .iconst 1, 0, 0, 0, 1, []),
  (8, .iaload, 0, 0, 0, 0, []),
  (9, .bipush 30, 0, 0, 0, 30, []),
  (11, .isub, 0, 0, 0, 0, []),
  (12, .invokestatic 94, 1002, 1, 0, 0, []),
  (15, .isub, 0, 0, 0, 0, []),
  (16, .invokestatic 99, 1000, 2, 0, 0, []),
  (19, .ireturn, 0, 0, 0, 0, [])]
theorem zk46 : zchk RX5 cX5_effect 1 true (some .int) zc46 [0, 0, 0, 1118, 0, 0, 0, 0, 2094, 0, 2097, 0] = true := by decide +kernel
def zc47 : List zE := [(0, .aload_n 0, 0, 0, 0, 0, []),
  (1, .getfield 31, 5, 7, 0, 0, []),
  (4, .iconst 3, 0, 0, 0, 3, []),
  (5, .iaload, 0, 0, 0, 0, []),
  (6, .aload_n 0, 0, 0, 0, 0, []),
  (7, .invokevirtual 102, 46, 0, 5, 0, []),
  (10, .imul, 0, 0, 0, 0, []),
  (11, .istore_n 1, 1, 0, 0, 0, []),
  (12, .iload_n 1, 1, 0, 0, 0, []),
  (13, .ifCond .gt 6, 19, 0, 0, 0, []),
  (16, .bipush 60, 0, 0, 0, 60, []),
  (18, .ireturn, 0, 0, 0, 0, []),
  (19, .bipush 60, 0, 0, 0, 60, []),
  (21, .iconst 4, 0, 0, 0, 4, []),
  (22, .sipush 300, 0, 0, 0, 300, []),
  (25, .iconst 1, 0, 0, 0, 1, []),
  (26, .iload_n 1, 1, 0, 0, 0, []),
  (27, .bipush 30, 0, 0, 0, 30, []),
  (29, .idiv, 0, 0, 0, 0, []),
  (30, .iadd, 0, 0, 0, 0, []),
  (31, .idiv, 0, 0, 0, 0, []),
  (32, .iadd, 0, 0, 0, 0, []),
  (33, .invokestatic 106, 1001, 2, 0, 0, []),
  (36, .ireturn, 0, 0, 0, 0, [])]
theorem zk47 : zchk RX5 cX5_minutes 2 true (some .int) zc47 [0, 1118, 0, 0, 0, 2102, 0, 0, 0, 0, 0, 0, 0, 0, 0, 0, 0, 0, 0, 0, 0, 0, 2103, 0] = true := by decide +kernel
def zc48 : List zE := [(0, .iconst 0, 0, 0, 0, 0, []),
  (1, .istore_n 1, 1, 0, 0, 0, []),
  (2, .iconst 0, 0, 0, 0, 0, []),
  (3, .istore_n 2, 2, 0, 0, 0, []),
  (4, .aload_n 0, 0, 0, 0, 0, []),
  (5, .getfield 31, 5, 7, 0, 0, []),
  (8, .iconst 2, 0, 0, 0, 2, []),
  (9, .iaload, 0, 0, 0, 0, []),
  (10, .istore_n 3, 3, 0, 0, 0, []),
  (11, .iconst 0, 0, 0, 0, 0, []),
  (12, .istore 4, 4, 0, 0, 0, []),
  (14, .iconst 0, 0, 0, 0, 0, []),
  (15, .istore 5, 5, 0, 0, 0, []),
  (17, .iload 5, 5, 0, 0, 0, []),
  (19, .aload_n 0, 0, 0, 0, 0, []),
  (20, .getfield 9, 5, 1, 0, 0, []),
  (23, .if_icmp .ge 101, 124, 0, 0, 0, []),
  (26, .aload_n 0, 0, 0, 0, 0, []),
  (27, .iload_n 1, 1, 0, 0, 0, []),
  (28, .invokevirtual 109, 49, 1, 5, 0, []),
  (31, .istore 6, 6, 0, 0, 0, []),
  (33, .iload 6, 6, 0, 0, 0, []),
  (35, .ifCond .ge 5, 40, 0, 0, 0, []),
  (38, .iload_n 2, 2, 0, 0, 0, []),
  (39, .ireturn, 0, 0, 0, 0, []),
  (40, .iload_n 1, 1, 0, 0, 0, []),
  (41, .iconst 1, 0, 0, 0, 1, []),
  (42, .iload 6, 6, 0, 0, 0, []),
  (44, .ishl, 0, 0, 0, 0, []),
  (45, .ior, 0, 0, 0, 0, []),
  (46, .istore_n 1, 1, 0, 0, 0, []),
  (47, .aload_n 0, 0, 0, 0, 0, []),
  (48, .getfield 15, 5, 2, 0, 0, []),
  (51, .iload 6, 6, 0, 0, 0, []),
  (53, .iaload, 0, 0, 0, 0, []),
  (54, .invokestatic 112, 3, 1, 0, 0, []),
  (57, .istore 7, 7, 0, 0, 0, []),
  (59, .iload 7, 7, 0, 0, 0, []),
  (61, .iload_n 3, 3, 0, 0, 0, []),
  (62, .if_icmp .gt 56, 118, 0, 0, 0, []),
  (65, .aload_n 0, 0, 0, 0, 0, []),
  (66, .aload_n 0, 0, 0, 0, 0, []),
  (67, .getfield 31, 5, 7, 0, 0, []),
  (70, .iconst 3, 0, 0, 0, 3, []),
  (71, .iaload, 0, 0, 0, 0, []),
  (72, .iload 4, 4, 0, 0, 0, []),
  (74, .aload_n 0, 0, 0, 0, 0, []),
  (75, .getfield 19, 5, 3, 0, 0, []),
  (78, .iload 6, 6, 0, 0, 0, []),
  (80, .iaload, 0, 0, 0, 0, []),
  (81, .iadd, 0, 0, 0, 0, []),
  (82, .invokevirtual 115, 45, 2, 5, 0, []),
  (85, .aload_n 0, 0, 0, 0, 0, []),
  (86, .getfield 31, 5, 7, 0, 0, []),
  (89, .iconst 4, 0, 0, 0, 4, []),
  (90, .iaload, 0, 0, 0, 0, []),
  (91, .if_icmp .gt 27, 118, 0, 0, 0, []),
  (94, .iload_n 2, 2, 0, 0, 0, []),
  (95, .iconst 1, 0, 0, 0, 1, []),
  (96, .iload 6, 6, 0, 0, 0, []),
  (98, .ishl, 0, 0, 0, 0, []),
  (99, .ior, 0, 0, 0, 0, []),
  (100, .istore_n 2, 2, 0, 0, 0, []),
  (101, .iload_n 3, 3, 0, 0, 0, []),
  (102, .iload 7, 7, 0, 0, 0, []),
  (104, .isub, 0, 0, 0, 0, []),
  (105, .istore_n 3, 3, 0, 0, 0, []),
  (106, .iload 4, 4, 0, 0, 0, []),
  (108, .aload_n 0, 0, 0, 0, 0, []),
  (109, .getfield 19, 5, 3, 0, 0, []),
  (112, .iload 6, 6, 0, 0, 0, []),
  (114, .iaload, 0, 0, 0, 0, []),
  (115, .iadd, 0, 0, 0, 0, []),
  (116, .istore 4, 4, 0, 0, 0, []),
  (118, .iinc 5 1, 5, 0, 0, 1, []),
  (121, .goto (-104), 17, 0, 0, 0, []),
  (124, .iload_n 2, 2, 0, 0, 0, []),
  (125, .ireturn, 0, 0, 0, 0, [])]
theorem zk48 : zchk RX5 cX5_whoBoards 8 true (some .int) zc48 [0, 0, 0, 0, 0, 1118, 0, 0, 0, 0, 0, 0, 0, 0, 0, 1106, 0, 0, 0, 2128, 0, 0, 0, 0, 0, 0, 0, 0, 0, 0, 0, 0, 1108, 0, 0, 2133, 0, 0, 0, 0, 0, 0, 1118, 0, 0, 0, 0, 1110, 0, 0, 0, 2134, 0, 1118, 0, 0, 0, 0, 0, 0, 0, 0, 0, 0, 0, 0, 0, 0, 0, 1110, 0, 0, 0, 0, 0, 0, 0, 0] = true := by decide +kernel
def zc49 : List zE := [(0, .iconst (-1), 0, 0, 0, (-1), []),
  (1, .istore_n 2, 2, 0, 0, 0, []),
  (2, .iconst 0, 0, 0, 0, 0, []),
  (3, .istore_n 3, 3, 0, 0, 0, []),
  (4, .iconst 0, 0, 0, 0, 0, []),
  (5, .istore 4, 4, 0, 0, 0, []),
  (7, .iload 4, 4, 0, 0, 0, []),
  (9, .aload_n 0, 0, 0, 0, 0, []),
  (10, .getfield 9, 5, 1, 0, 0, []),
  (13, .if_icmp .ge 78, 91, 0, 0, 0, []),
  (16, .aload_n 0, 0, 0, 0, 0, []),
  (17, .getfield 22, 5, 4, 0, 0, []),
  (20, .iload 4, 4, 0, 0, 0, []),
  (22, .iaload, 0, 0, 0, 0, []),
  (23, .aload_n 0, 0, 0, 0, 0, []),
  (24, .getfield 31, 5, 7, 0, 0, []),
  (27, .iconst 0, 0, 0, 0, 0, []),
  (28, .iaload, 0, 0, 0, 0, []),
  (29, .if_icmp .ne 56, 85, 0, 0, 0, []),
  (32, .iload_n 1, 1, 0, 0, 0, []),
  (33, .iload 4, 4, 0, 0, 0, []),
  (35, .ishr, 0, 0, 0, 0, []),
  (36, .iconst 1, 0, 0, 0, 1, []),
  (37, .iand, 0, 0, 0, 0, []),
  (38, .ifCond .ne 47, 85, 0, 0, 0, []),
  (41, .iload 4, 4, 0, 0, 0, []),
  (43, .aload_n 0, 0, 0, 0, 0, []),
  (44, .getfield 52, 5, 14, 0, 0, []),
  (47, .if_icmp .eq 38, 85, 0, 0, 0, []),
  (50, .aload_n 0, 0, 0, 0, 0, []),
  (51, .getfield 15, 5, 2, 0, 0, []),
  (54, .iload 4, 4, 0, 0, 0, []),
  (56, .iaload, 0, 0, 0, 0, []),
  (57, .aload_n 0, 0, 0, 0, 0, []),
  (58, .getfield 25, 5, 5, 0, 0, []),
  (61, .iload 4, 4, 0, 0, 0, []),
  (63, .iaload, 0, 0, 0, 0, []),
  (64, .invokestatic 118, 4, 2, 0, 0, []),
  (67, .istore 5, 5, 0, 0, 0, []),
  (69, .iload_n 2, 2, 0, 0, 0, []),
  (70, .ifCond .lt 9, 79, 0, 0, 0, []),
  (73, .iload 5, 5, 0, 0, 0, []),
  (75, .iload_n 3, 3, 0, 0, 0, []),
  (76, .if_icmp .le 9, 85, 0, 0, 0, []),
  (79, .iload 4, 4, 0, 0, 0, []),
  (81, .istore_n 2, 2, 0, 0, 0, []),
  (82, .iload 5, 5, 0, 0, 0, []),
  (84, .istore_n 3, 3, 0, 0, 0, []),
  (85, .iinc 4 1, 4, 0, 0, 1, []),
  (88, .goto (-81), 7, 0, 0, 0, []),
  (91, .iload_n 2, 2, 0, 0, 0, []),
  (92, .ireturn, 0, 0, 0, 0, [])]
theorem zk49 : zchk RX5 cX5_mostUrging 6 true (some .int) zc49 [0, 0, 0, 0, 0, 0, 0, 0, 1106, 0, 0, 1112, 0, 0, 0, 1118, 0, 0, 0, 0, 0, 0, 0, 0, 0, 0, 0, 1132, 0, 0, 1108, 0, 0, 0, 1114, 0, 0, 2132, 0, 0, 0, 0, 0, 0, 0, 0, 0, 0, 0, 0, 0, 0] = true := by decide +kernel
def zc50 : List zE := [(0, .aload_n 0, 0, 0, 0, 0, []),
  (1, .aload_n 0, 0, 0, 0, 0, []),
  (2, .getfield 31, 5, 7, 0, 0, []),
  (5, .iconst 0, 0, 0, 0, 0, []),
  (6, .iaload, 0, 0, 0, 0, []),
  (7, .invokevirtual 121, 51, 1, 5, 0, []),
  (10, .istore_n 1, 1, 0, 0, 0, []),
  (11, .iconst (-1), 0, 0, 0, (-1), []),
  (12, .istore_n 2, 2, 0, 0, 0, []),
  (13, .iconst 0, 0, 0, 0, 0, []),
  (14, .istore_n 3, 3, 0, 0, 0, []),
  (15, .iconst 0, 0, 0, 0, 0, []),
  (16, .istore 4, 4, 0, 0, 0, []),
  (18, .iload 4, 4, 0, 0, 0, []),
  (20, .iload_n 1, 1, 0, 0, 0, []),
  (21, .if_icmp .gt 81, 102, 0, 0, 0, []),
  (24, .iload 4, 4, 0, 0, 0, []),
  (26, .iload_n 1, 1, 0, 0, 0, []),
  (27, .iconst (-1), 0, 0, 0, (-1), []),
  (28, .ixor, 0, 0, 0, 0, []),
  (29, .iand, 0, 0, 0, 0, []),
  (30, .ifCond .ne 66, 96, 0, 0, 0, []),
  (33, .aload_n 0, 0, 0, 0, 0, []),
  (34, .iload 4, 4, 0, 0, 0, []),
  (36, .invokevirtual 124, 52, 1, 5, 0, []),
  (39, .ifCond .eq 57, 96, 0, 0, 0, []),
  (42, .aload_n 0, 0, 0, 0, 0, []),
  (43, .iload 4, 4, 0, 0, 0, []),
  (45, .invokevirtual 127, 44, 1, 5, 0, []),
  (48, .istore 5, 5, 0, 0, 0, []),
  (50, .iload 5, 5, 0, 0, 0, []),
  (52, .iload_n 3, 3, 0, 0, 0, []),
  (53, .if_icmp .ne 19, 72, 0, 0, 0, []),
  (56, .iload 4, 4, 0, 0, 0, []),
  (58, .invokestatic 130, 201, 1, 0, 0, []),
  (61, .iload_n 2, 2, 0, 0, 0, []),
  (62, .invokestatic 130, 201, 1, 0, 0, []),
  (65, .if_icmp .ge 7, 72, 0, 0, 0, []),
  (68, .iconst 1, 0, 0, 0, 1, []),
  (69, .goto 4, 73, 0, 0, 0, []),
  (72, .iconst 0, 0, 0, 0, 0, []),
  (73, .istore 6, 6, 0, 0, 0, []),
  (75, .iload_n 2, 2, 0, 0, 0, []),
  (76, .ifCond .lt 14, 90, 0, 0, 0, []),
  (79, .iload 5, 5, 0, 0, 0, []),
  (81, .iload_n 3, 3, 0, 0, 0, []),
  (82, .if_icmp .gt 8, 90, 0, 0, 0, []),
  (85, .iload 6, 6, 0, 0, 0, []),
  (87, .ifCond .eq 9, 96, 0, 0, 0, []),
  (90, .iload 4, 4, 0, 0, 0, []),
  (92, .istore_n 2, 2, 0, 0, 0, []),
  (93, .iload 5, 5, 0, 0, 0, []),
  (95, .istore_n 3, 3, 0, 0, 0, []),
  (96, .iinc 4 1, 4, 0, 0, 1, []),
  (99, .goto (-81), 18, 0, 0, 0, []),
  (102, .iload_n 2, 2, 0, 0, 0, []),
  (103, .ireturn, 0, 0, 0, 0, [])]
theorem zk50 : zchk RX5 cX5_bestSet 7 true (some .int) zc50 [0, 0, 1118, 0, 0, 2206, 0, 0, 0, 0, 0, 0, 0, 0, 0, 0, 0, 0, 0, 0, 0, 0, 0, 0, 2210, 0, 0, 0, 2175, 0, 0, 0, 0, 0, 2214, 0, 2214, 0, 0, 0, 0, 0, 0, 0, 0, 0, 0, 0, 0, 0, 0, 0, 0, 0, 0, 0, 0] = true := by decide +kernel
def zc51 : List zE := [(0, .iconst 0, 0, 0, 0, 0, []),
  (1, .istore_n 2, 2, 0, 0, 0, []),
  (2, .iconst 0, 0, 0, 0, 0, []),
  (3, .istore_n 3, 3, 0, 0, 0, []),
  (4, .iload_n 3, 3, 0, 0, 0, []),
  (5, .aload_n 0, 0, 0, 0, 0, []),
  (6, .getfield 9, 5, 1, 0, 0, []),
  (9, .if_icmp .ge 25, 34, 0, 0, 0, []),
  (12, .aload_n 0, 0, 0, 0, 0, []),
  (13, .getfield 22, 5, 4, 0, 0, []),
  (16, .iload_n 3, 3, 0, 0, 0, []),
  (17, .iaload, 0, 0, 0, 0, []),
  (18, .iload_n 1, 1, 0, 0, 0, []),
  (19, .if_icmp .ne 9, 28, 0, 0, 0, []),
  (22, .iload_n 2, 2, 0, 0, 0, []),
  (23, .iconst 1, 0, 0, 0, 1, []),
  (24, .iload_n 3, 3, 0, 0, 0, []),
  (25, .ishl, 0, 0, 0, 0, []),
  (26, .ior, 0, 0, 0, 0, []),
  (27, .istore_n 2, 2, 0, 0, 0, []),
  (28, .iinc 3 1, 3, 0, 0, 1, []),
  (31, .goto (-27), 4, 0, 0, 0, []),
  (34, .iload_n 2, 2, 0, 0, 0, []),
  (35, .ireturn, 0, 0, 0, 0, [])]
theorem zk51 : zchk RX5 cX5_setOn 4 true (some .int) zc51 [0, 0, 0, 0, 0, 0, 1106, 0, 0, 1112, 0, 0, 0, 0, 0, 0, 0, 0, 0, 0, 0, 0, 0, 0] = true := by decide +kernel
def zc52 : List zE := [(0, .iconst 0, 0, 0, 0, 0, []),
  (1, .istore_n 2, 2, 0, 0, 0, []),
  (2, .iconst 0, 0, 0, 0, 0, []),
  (3, .istore_n 3, 3, 0, 0, 0, []),
  (4, .iconst 0, 0, 0, 0, 0, []),
  (5, .istore 4, 4, 0, 0, 0, []),
  (7, .iload 4, 4, 0, 0, 0, []),
  (9, .aload_n 0, 0, 0, 0, 0, []),
  (10, .getfield 9, 5, 1, 0, 0, []),
  (13, .if_icmp .ge 42, 55, 0, 0, 0, []),
  (16, .iload_n 1, 1, 0, 0, 0, []),
  (17, .iload 4, 4, 0, 0, 0, []),
  (19, .ishr, 0, 0, 0, 0, []),
  (20, .iconst 1, 0, 0, 0, 1, []),
  (21, .iand, 0, 0, 0, 0, []),
  (22, .iconst 1, 0, 0, 0, 1, []),
  (23, .if_icmp .ne 26, 49, 0, 0, 0, []),
  (26, .iload_n 2, 2, 0, 0, 0, []),
  (27, .aload_n 0, 0, 0, 0, 0, []),
  (28, .getfield 15, 5, 2, 0, 0, []),
  (31, .iload 4, 4, 0, 0, 0, []),
  (33, .iaload, 0, 0, 0, 0, []),
  (34, .invokestatic 112, 3, 1, 0, 0, []),
  (37, .iadd, 0, 0, 0, 0, []),
  (38, .istore_n 2, 2, 0, 0, 0, []),
  (39, .iload_n 3, 3, 0, 0, 0, []),
  (40, .aload_n 0, 0, 0, 0, 0, []),
  (41, .getfield 19, 5, 3, 0, 0, []),
  (44, .iload 4, 4, 0, 0, 0, []),
  (46, .iaload, 0, 0, 0, 0, []),
  (47, .iadd, 0, 0, 0, 0, []),
  (48, .istore_n 3, 3, 0, 0, 0, []),
  (49, .iinc 4 1, 4, 0, 0, 1, []),
  (52, .goto (-45), 7, 0, 0, 0, []),
  (55, .iload_n 2, 2, 0, 0, 0, []),
  (56, .aload_n 0, 0, 0, 0, 0, []),
  (57, .getfield 31, 5, 7, 0, 0, []),
  (60, .iconst 2, 0, 0, 0, 2, []),
  (61, .iaload, 0, 0, 0, 0, []),
  (62, .if_icmp .gt 27, 89, 0, 0, 0, []),
  (65, .aload_n 0, 0, 0, 0, 0, []),
  (66, .aload_n 0, 0, 0, 0, 0, []),
  (67, .getfield 31, 5, 7, 0, 0, []),
  (70, .iconst 3, 0, 0, 0, 3, []),
  (71, .iaload, 0, 0, 0, 0, []),
  (72, .iload_n 3, 3, 0, 0, 0, []),
  (73, .invokevirtual 115, 45, 2, 5, 0, []),
  (76, .aload_n 0, 0, 0, 0, 0, []),
  (77, .getfield 31, 5, 7, 0, 0, []),
  (80, .iconst 4, 0, 0, 0, 4, []),
  (81, .iaload, 0, 0, 0, 0, []),
  (82, .if_icmp .gt 7, 89, 0, 0, 0, []),
  (85, .iconst 1, 0, 0, 0, 1, []),
  (86, .goto 4, 90, 0, 0, 0, []),
  (89, .iconst 0, 0, 0, 0, 0, []),
  (90, .ireturn, 0, 0, 1, 0, [])]
theorem zk52 : zchk RX5 cX5_mayCross 5 true (some .boolean) zc52 [0, 0, 0, 0, 0, 0, 0, 0, 1106, 0, 0, 0, 0, 0, 0, 0, 0, 0, 0, 1108, 0, 0, 2133, 0, 0, 0, 0, 1110, 0, 0, 0, 0, 0, 0, 0, 0, 1118, 0, 0, 0, 0, 0, 1118, 0, 0, 0, 2134, 0, 1118, 0, 0, 0, 0, 0, 0, 0] = true := by decide +kernel
def zc53 : List zE := [(0, .iconst 0, 0, 0, 0, 0, []),
  (1, .istore_n 2, 2, 0, 0, 0, []),
  (2, .iload_n 2, 2, 0, 0, 0, []),
  (3, .iload_n 1, 1, 0, 0, 0, []),
  (4, .if_icmp .ge 13, 17, 0, 0, 0, []),
  (7, .aload_n 0, 0, 0, 0, 0, []),
  (8, .invokevirtual 135, 54, 0, 5, 0, []),
  (11, .iinc 2 1, 2, 0, 0, 1, []),
  (14, .goto (-12), 2, 0, 0, 0, []),
  (17, .return_, 0, 0, 0, 0, [])]
theorem zk53 : zchk RX5 cX5_goOn 3 true none zc53 [0, 0, 0, 0, 0, 0, 2156, 0, 0, 0] = true := by decide +kernel
def zc54 : List zE := [(0, .iconst 0, 0, 0, 0, 0, []),
  (1, .istore_n 1, 1, 0, 0, 0, []),
  (2, .aload_n 0, 0, 0, 0, 0, []),
  (3, .aload_n 0, 0, 0, 0, 0, []),
  (4, .getfield 31, 5, 7, 0, 0, []),
  (7, .iconst 3, 0, 0, 0, 3, []),
  (8, .iaload, 0, 0, 0, 0, []),
  (9, .iconst 0, 0, 0, 0, 0, []),
  (10, .invokevirtual 115, 45, 2, 5, 0, []),
  (13, .aload_n 0, 0, 0, 0, 0, []),
  (14, .getfield 31, 5, 7, 0, 0, []),
  (17, .iconst 4, 0, 0, 0, 4, []),
  (18, .iaload, 0, 0, 0, 0, []),
  (19, .if_icmp .le 9, 28, 0, 0, 0, []),
  (22, .bipush 10, 0, 0, 0, 10, []),
  (24, .istore_n 2, 2, 0, 0, 0, []),
  (25, .goto 44, 69, 0, 0, 0, []),
  (28, .aload_n 0, 0, 0, 0, 0, []),
  (29, .invokevirtual 138, 55, 0, 5, 0, []),
  (32, .ifCond .eq 8, 40, 0, 0, 0, []),
  (35, .iconst 5, 0, 0, 0, 5, []),
  (36, .istore_n 2, 2, 0, 0, 0, []),
  (37, .goto 32, 69, 0, 0, 0, []),
  (40, .aload_n 0, 0, 0, 0, 0, []),
  (41, .invokevirtual 142, 48, 0, 5, 0, []),
  (44, .istore_n 1, 1, 0, 0, 0, []),
  (45, .aload_n 0, 0, 0, 0, 0, []),
  (46, .invokevirtual 145, 47, 0, 5, 0, []),
  (49, .istore_n 2, 2, 0, 0, 0, []),
  (50, .aload_n 0, 0, 0, 0, 0, []),
  (51, .dup, 0, 0, 0, 0, []),
  (52, .getfield 37, 5, 9, 0, 0, []),
  (55, .aload_n 0, 0, 0, 0, 0, []),
  (56, .iload_n 1, 1, 0, 0, 0, []),
  (57, .invokevirtual 127, 44, 1, 5, 0, []),
  (60, .iadd, 0, 0, 0, 0, []),
  (61, .putfield 37, 5, 9, 0, 0, []),
  (64, .aload_n 0, 0, 0, 0, 0, []),
  (65, .iload_n 1, 1, 0, 0, 0, []),
  (66, .invokevirtual 148, 57, 1, 5, 0, []),
  (69, .aload_n 0, 0, 0, 0, 0, []),
  (70, .dup, 0, 0, 0, 0, []),
  (71, .getfield 34, 5, 8, 0, 0, []),
  (74, .iload_n 2, 2, 0, 0, 0, []),
  (75, .iadd, 0, 0, 0, 0, []),
  (76, .putfield 34, 5, 8, 0, 0, []),
  (79, .iconst 0, 0, 0, 0, 0, []),
  (80, .istore_n 3, 3, 0, 0, 0, []),
  (81, .iload_n 3, 3, 0, 0, 0, []),
  (82, .aload_n 0, 0, 0, 0, 0, []),
  (83, .getfield 9, 5, 1, 0, 0, []),
  (86, .if_icmp .ge 27, 113, 0, 0, 0, []),
  (89, .iload_n 1, 1, 0, 0, 0, []),
  (90, .iload_n 3, 3, 0, 0, 0, []),
  (91, .ishr, 0, 0, 0, 0, []),
  (92, .iconst 1, 0, 0, 0, 1, []),
  (93, .iand, 0, 0, 0, 0, []),
  (94, .ifCond .ne 13, 107, 0, 0, 0, []),
  (97, .aload_n 0, 0, 0, 0, 0, []),
  (98, .getfield 25, 5, 5, 0, 0, []),
  (101, .iload_n 3, 3, 0, 0, 0, []),
  (102, .dup2, 0, 0, 0, 0, []),
  (103, .iaload, 0, 0, 0, 0, []),
  (104, .iload_n 2, 2, 0, 0, 0, []),
  (105, .iadd, 0, 0, 0, 0, []),
  (106, .iastore, 0, 0, 0, 0, []),
  (107, .iinc 3 1, 3, 0, 0, 1, []),
  (110, .goto (-29), 81, 0, 0, 0, []),
  (113, .aload_n 0, 0, 0, 0, 0, []),
  (114, .getfield 31, 5, 7, 0, 0, []),
  (117, .iconst 3, 0, 0, 0, 3, []),
  (118, .aload_n 0, 0, 0, 0, 0, []),
  (119, .getfield 31, 5, 7, 0, 0, []),
  (122, .iconst 3, 0, 0, 0, 3, []),
  (123, .iaload, 0, 0, 0, 0, []),
  (124, .aload_n 0, 0, 0, 0, 0, []),
  (125, .invokevirtual 152, 39, 0, 5, 0, []),
  (128, .bipush 7, 0, 0, 0, 7, []),
  (130, .irem, 0, 0, 0, 0, []),
  (131, .iadd, 0, 0, 0, 0, []),
  (132, .iconst 3, 0, 0, 0, 3, []),
  (133, .isub, 0, 0, 0, 0, []),
  (134, .iconst 0, 0, 0, 0, 0, []),
  (135, .bipush 99, 0, 0, 0, 99, []),
  (137, .invokestatic 81, 104, 3, 0, 0, []),
  (140, .iastore, 0, 0, 0, 0, []),
  (141, .aload_n 0, 0, 0, 0, 0, []),
  (142, .dup, 0, 0, 0, 0, []),
  (143, .getfield 40, 5, 10, 0, 0, []),
  (146, .iconst 1, 0, 0, 0, 1, []),
  (147, .iadd, 0, 0, 0, 0, []),
  (148, .putfield 40, 5, 10, 0, 0, []),
  (151, .return_, 0, 0, 0, 0, [])]
theorem zk54 : zchk RX5 cX5_takeStep 4 true none zc54 [0, 0, 0, 0, 1118, 0, 0, 0, 2134, 0, 1118, 0, 0, 0, 0, 0, 0, 0, 2160, 0, 0, 0, 0, 0, 2173, 0, 0, 2174, 0, 0, 0, 1122, 0, 0, 2175, 0, 1122, 0, 0, 2180, 0, 0, 1120, 0, 0, 1120, 0, 0, 0, 0, 1106, 0, 0, 0, 0, 0, 0, 0, 0, 1114, 0, 0, 0, 0, 0, 0, 0, 0, 0, 1118, 0, 0, 1118, 0, 0, 0, 2184, 0, 0, 0, 0, 0, 0, 0, 2042, 0, 0, 0, 1124, 0, 0, 1124, 0] = true := by decide +kernel
def zc55 : List zE := [(0, .aload_n 0, 0, 0, 0, 0, []),
  (1, .aload_n 0, 0, 0, 0, 0, []),
  (2, .getfield 31, 5, 7, 0, 0, []),
  (5, .iconst 0, 0, 0, 0, 0, []),
  (6, .iaload, 0, 0, 0, 0, []),
  (7, .invokevirtual 155, 40, 1, 5, 0, []),
  (10, .istore_n 1, 1, 0, 0, 0, []),
  (11, .iload_n 1, 1, 0, 0, 0, []),
  (12, .aload_n 0, 0, 0, 0, 0, []),
  (13, .getfield 31, 5, 7, 0, 0, []),
  (16, .iconst 5, 0, 0, 0, 5, []),
  (17, .iaload, 0, 0, 0, 0, []),
  (18, .if_icmp .ge 10, 28, 0, 0, 0, []),
  (21, .aload_n 0, 0, 0, 0, 0, []),
  (22, .invokevirtual 158, 56, 0, 5, 0, []),
  (25, .ifCond .eq 5, 30, 0, 0, 0, []),
  (28, .iconst 0, 0, 0, 0, 0, []),
  (29, .ireturn, 0, 0, 1, 0, []),
  (30, .iload_n 1, 1, 0, 0, 0, []),
  (31, .ifCond .gt 11, 42, 0, 0, 0, []),
  (34, .aload_n 0, 0, 0, 0, 0, []),
  (35, .getfield 9, 5, 1, 0, 0, []),
  (38, .iload_n 1, 1, 0, 0, 0, []),
  (39, .if_icmp .ne 7, 46, 0, 0, 0, []),
  (42, .iconst 1, 0, 0, 0, 1, []),
  (43, .goto 4, 47, 0, 0, 0, []),
  (46, .iconst 0, 0, 0, 0, 0, []),
  (47, .ireturn, 0, 0, 1, 0, [])]
theorem zk55 : zchk RX5 cX5_waitsForMore 2 true (some .boolean) zc55 [0, 0, 1118, 0, 0, 2164, 0, 0, 0, 1118, 0, 0, 0, 0, 2168, 0, 0, 0, 0, 0, 0, 1106, 0, 0, 0, 0, 0, 0] = true := by decide +kernel
def zc56 : List zE := [(0, .iconst 0, 0, 0, 0, 0, []),
  (1, .istore_n 1, 1, 0, 0, 0, []),
  (2, .iload_n 1, 1, 0, 0, 0, []),
  (3, .aload_n 0, 0, 0, 0, 0, []),
  (4, .getfield 9, 5, 1, 0, 0, []),
  (7, .if_icmp .ge 39, 46, 0, 0, 0, []),
  (10, .aload_n 0, 0, 0, 0, 0, []),
  (11, .getfield 22, 5, 4, 0, 0, []),
  (14, .iload_n 1, 1, 0, 0, 0, []),
  (15, .iaload, 0, 0, 0, 0, []),
  (16, .aload_n 0, 0, 0, 0, 0, []),
  (17, .getfield 31, 5, 7, 0, 0, []),
  (20, .iconst 0, 0, 0, 0, 0, []),
  (21, .iaload, 0, 0, 0, 0, []),
  (22, .if_icmp .ne 18, 40, 0, 0, 0, []),
  (25, .aload_n 0, 0, 0, 0, 0, []),
  (26, .getfield 15, 5, 2, 0, 0, []),
  (29, .iload_n 1, 1, 0, 0, 0, []),
  (30, .iaload, 0, 0, 0, 0, []),
  (31, .iconst 5, 0, 0, 0, 5, []),
  (32, .invokestatic 161, 1, 2, 0, 0, []),
  (35, .ifCond .eq 5, 40, 0, 0, 0, []),
  (38, .iconst 1, 0, 0, 0, 1, []),
  (39, .ireturn, 0, 0, 1, 0, []),
  (40, .iinc 1 1, 1, 0, 0, 1, []),
  (43, .goto (-41), 2, 0, 0, 0, []),
  (46, .iconst 0, 0, 0, 0, 0, []),
  (47, .ireturn, 0, 0, 1, 0, [])]
theorem zk56 : zchk RX5 cX5_isDoctorHere 2 true (some .boolean) zc56 [0, 0, 0, 0, 1106, 0, 0, 1112, 0, 0, 0, 1118, 0, 0, 0, 0, 1108, 0, 0, 0, 2172, 0, 0, 0, 0, 0, 0, 0] = true := by decide +kernel
end
section
/-! code tables: printed by gen06.py from the bytecode -/
def zc57 : List zE := [(0, .iconst 1, 0, 0, 0, 1, []),
  (1, .aload_n 0, 0, 0, 0, 0, []),
  (2, .getfield 31, 5, 7, 0, 0, []),
  (5, .iconst 0, 0, 0, 0, 0, []),
  (6, .iaload, 0, 0, 0, 0, []),
  (7, .isub, 0, 0, 0, 0, []),
  (8, .istore_n 2, 2, 0, 0, 0, []),
  (9, .iconst 0, 0, 0, 0, 0, []),
  (10, .istore_n 3, 3, 0, 0, 0, []),
  (11, .iload_n 3, 3, 0, 0, 0, []),
  (12, .aload_n 0, 0, 0, 0, 0, []),
  (13, .getfield 9, 5, 1, 0, 0, []),
  (16, .if_icmp .ge 42, 58, 0, 0, 0, []),
  (19, .iload_n 1, 1, 0, 0, 0, []),
  (20, .iload_n 3, 3, 0, 0, 0, []),
  (21, .ishr, 0, 0, 0, 0, []),
  (22, .iconst 1, 0, 0, 0, 1, []),
  (23, .iand, 0, 0, 0, 0, []),
  (24, .iconst 1, 0, 0, 0, 1, []),
  (25, .if_icmp .ne 27, 52, 0, 0, 0, []),
  (28, .aload_n 0, 0, 0, 0, 0, []),
  (29, .getfield 22, 5, 4, 0, 0, []),
  (32, .iload_n 3, 3, 0, 0, 0, []),
  (33, .iload_n 2, 2, 0, 0, 0, []),
  (34, .iastore, 0, 0, 0, 0, []),
  (35, .aload_n 0, 0, 0, 0, 0, []),
  (36, .getfield 25, 5, 5, 0, 0, []),
  (39, .iload_n 3, 3, 0, 0, 0, []),
  (40, .iconst 0, 0, 0, 0, 0, []),
  (41, .iastore, 0, 0, 0, 0, []),
  (42, .aload_n 0, 0, 0, 0, 0, []),
  (43, .getfield 28, 5, 6, 0, 0, []),
  (46, .iload_n 3, 3, 0, 0, 0, []),
  (47, .dup2, 0, 0, 0, 0, []),
  (48, .iaload, 0, 0, 0, 0, []),
  (49, .iconst 1, 0, 0, 0, 1, []),
  (50, .iadd, 0, 0, 0, 0, []),
  (51, .iastore, 0, 0, 0, 0, []),
  (52, .iinc 3 1, 3, 0, 0, 1, []),
  (55, .goto (-44), 11, 0, 0, 0, []),
  (58, .aload_n 0, 0, 0, 0, 0, []),
  (59, .getfield 31, 5, 7, 0, 0, []),
  (62, .iconst 0, 0, 0, 0, 0, []),
  (63, .iload_n 2, 2, 0, 0, 0, []),
  (64, .iastore, 0, 0, 0, 0, []),
  (65, .return_, 0, 0, 0, 0, [])]
theorem zk57 : zchk RX5 cX5_crosses 4 true none zc57 [0, 0, 1118, 0, 0, 0, 0, 0, 0, 0, 0, 1106, 0, 0, 0, 0, 0, 0, 0, 0, 0, 1112, 0, 0, 0, 0, 1114, 0, 0, 0, 0, 1116, 0, 0, 0, 0, 0, 0, 0, 0, 0, 1118, 0, 0, 0, 0] = true := by decide +kernel
def zc58 : List zE := [(0, .iload_n 1, 1, 0, 0, 0, []),
  (1, .invokestatic 64, 0, 1, 0, 0, []),
  (4, .ifCond .eq 22, 26, 0, 0, 0, []),
  (7, .iload_n 2, 2, 0, 0, 0, []),
  (8, .iconst 1, 0, 0, 0, 1, []),
  (9, .bipush 99, 0, 0, 0, 99, []),
  (11, .invokestatic 70, 103, 3, 0, 0, []),
  (14, .ifCond .eq 12, 26, 0, 0, 0, []),
  (17, .iload_n 3, 3, 0, 0, 0, []),
  (18, .iconst 0, 0, 0, 0, 0, []),
  (19, .iconst 1, 0, 0, 0, 1, []),
  (20, .invokestatic 70, 103, 3, 0, 0, []),
  (23, .ifCond .ne 6, 29, 0, 0, 0, []),
  (26, .ldc 74, 0, 0, 0, (-1000000001), []),
  (28, .ireturn, 0, 0, 0, 0, []),
  (29, .aload_n 0, 0, 0, 0, 0, []),
  (30, .getfield 52, 6, 2, 0, 0, []),
  (33, .getfield 75, 5, 1, 0, 0, []),
  (36, .bipush 10, 0, 0, 0, 10, []),
  (38, .if_icmp .lt 6, 44, 0, 0, 0, []),
  (41, .ldc 78, 0, 0, 0, (-1000000003), []),
  (43, .ireturn, 0, 0, 0, 0, []),
  (44, .aload_n 0, 0, 0, 0, 0, []),
  (45, .getfield 52, 6, 2, 0, 0, []),
  (48, .iload_n 1, 1, 0, 0, 0, []),
  (49, .iload_n 2, 2, 0, 0, 0, []),
  (50, .iload_n 3, 3, 0, 0, 0, []),
  (51, .invokevirtual 79, 38, 3, 5, 0, []),
  (54, .ireturn, 0, 0, 0, 0, [])]
theorem zk58 : zchk RX6 cX6_load 4 true (some .int) zc58 [0, 2006, 0, 0, 0, 0, 2012, 0, 0, 0, 0, 2012, 0, 2013, 0, 0, 1213, 1107, 0, 0, 2014, 0, 0, 1213, 0, 0, 0, 2015, 0] = true := by decide +kernel
def zc59 : List zE := [(0, .aload_n 0, 0, 0, 0, 0, []),
  (1, .getfield 52, 6, 2, 0, 0, []),
  (4, .iload_n 1, 1, 0, 0, 0, []),
  (5, .invokevirtual 83, 37, 1, 5, 0, []),
  (8, .ifCond .ne 6, 14, 0, 0, 0, []),
  (11, .ldc 74, 0, 0, 0, (-1000000001), []),
  (13, .ireturn, 0, 0, 0, 0, []),
  (14, .iload_n 2, 2, 0, 0, 0, []),
  (15, .tableswitch 165 0 8 #[49, 59, 69, 79, 89, 99, 108, 121, 143], 180, 49, 0, 0, [(0, 64), (1, 74), (2, 84), (3, 94), (4, 104), (5, 114), (6, 123), (7, 136), (8, 158)]),
  (64, .aload_n 0, 0, 0, 0, 0, []),
  (65, .getfield 52, 6, 2, 0, 0, []),
  (68, .getfield 86, 5, 2, 0, 0, []),
  (71, .iload_n 1, 1, 0, 0, 0, []),
  (72, .iaload, 0, 0, 0, 0, []),
  (73, .ireturn, 0, 0, 0, 0, []),
  (74, .aload_n 0, 0, 0, 0, 0, []),
  (75, .getfield 52, 6, 2, 0, 0, []),
  (78, .getfield 89, 5, 3, 0, 0, []),
  (81, .iload_n 1, 1, 0, 0, 0, []),
  (82, .iaload, 0, 0, 0, 0, []),
  (83, .ireturn, 0, 0, 0, 0, []),
  (84, .aload_n 0, 0, 0, 0, 0, []),
  (85, .getfield 52, 6, 2, 0, 0, []),
  (88, .getfield 92, 5, 4, 0, 0, []),
  (91, .iload_n 1, 1, 0, 0, 0, []),
  (92, .iaload, 0, 0, 0, 0, []),
  (93, .ireturn, 0, 0, 0, 0, []),
  (94, .aload_n 0, 0, 0, 0, 0, []),
  (95, .getfield 52, 6, 2, 0, 0, []),
  (98, .getfield 95, 5, 5, 0, 0, []),
  (101, .iload_n 1, 1, 0, 0, 0, []),
  (102, .iaload, 0, 0, 0, 0, []),
  (103, .ireturn, 0, 0, 0, 0, []),
  (104, .aload_n 0, 0, 0, 0, 0, []),
  (105, .getfield 52, 6, 2, 0, 0, []),
  (108, .getfield 98, 5, 6, 0, 0, []),
  (111, .iload_n 1, 1, 0, 0, 0, []),
  (112, .iaload, 0, 0, 0, 0, []),
  (113, .ireturn, 0, 0, 0, 0, []),
  (114, .aload_n 0, 0, 0, 0, 0, []),
  (115, .getfield 52, 6, 2, 0, 0, []),
  (118, .iload_n 1, 1, 0, 0, 0, []),
  (119, .invokevirtual 101, 43, 1, 5, 0, []),
  (122, .ireturn, 0, 0, 0, 0, []),
  (123, .aload_n 0, 0, 0, 0, 0, []),
  (124, .getfield 52, 6, 2, 0, 0, []),
  (127, .getfield 86, 5, 2, 0, 0, []),
  (130, .iload_n 1, 1, 0, 0, 0, []),
  (131, .iaload, 0, 0, 0, 0, []),
  (132, .invokestatic 105, 3, 1, 0, 0, []),
  (135, .ireturn, 0, 0, 0, 0, []),
  (136, .aload_n 0, 0, 0, 0, 0, []),
  (137, .getfield 52, 6, 2, 0, 0, []),
  (140, .getfield 86, 5, 2, 0, 0, []),
  (143, .iload_n 1, 1, 0, 0, 0, []),
  (144, .iaload, 0, 0, 0, 0, []),
  (145, .aload_n 0, 0, 0, 0, 0, []),
  (146, .getfield 52, 6, 2, 0, 0, []),
  (149, .getfield 95, 5, 5, 0, 0, []),
  (152, .iload_n 1, 1, 0, 0, 0, []),
  (153, .iaload, 0, 0, 0, 0, []),
  (154, .invokestatic 108, 4, 2, 0, 0, []),
  (157, .ireturn, 0, 0, 0, 0, []),
  (158, .aload_n 0, 0, 0, 0, 0, []),
  (159, .getfield 52, 6, 2, 0, 0, []),
  (162, .getfield 86, 5, 2, 0, 0, []),
  (165, .iload_n 1, 1, 0, 0, 0, []),
  (166, .iaload, 0, 0, 0, 0, []),
  (167, .aload_n 0, 0, 0, 0, 0, []),
  (168, .getfield 52, 6, 2, 0, 0, []),
  (171, .getfield 89, 5, 3, 0, 0, []),
  (174, .iload_n 1, 1, 0, 0, 0, []),
  (175, .iaload, 0, 0, 0, 0, []),
  (176, .invokestatic 112, 5, 2, 0, 0, []),
  (179, .ireturn, 0, 0, 0, 0, []),
  (180, .ldc 74, 0, 0, 0, (-1000000001), []),
  (182, .ireturn, 0, 0, 0, 0, [])]
theorem zk59 : zchk RX6 cX6_told 3 true (some .int) zc59 [0, 1213, 0, 2025, 0, 2013, 0, 0, 0, 0, 1213, 1109, 0, 0, 0, 0, 1213, 1111, 0, 0, 0, 0, 1213, 1113, 0, 0, 0, 0, 1213, 1115, 0, 0, 0, 0, 1213, 1117, 0, 0, 0, 0, 1213, 0, 2029, 0, 0, 1213, 1109, 0, 0, 2055, 0, 0, 1213, 1109, 0, 0, 0, 1213, 1115, 0, 0, 2058, 0, 0, 1213, 1109, 0, 0, 0, 1213, 1111, 0, 0, 2061, 0, 2013, 0] = true := by decide +kernel
def zc60 : List zE := [(0, .aload_n 0, 0, 0, 0, 0, []),
  (1, .getfield 52, 6, 2, 0, 0, []),
  (4, .iload_n 1, 1, 0, 0, 0, []),
  (5, .invokevirtual 83, 37, 1, 5, 0, []),
  (8, .ifCond .eq 10, 18, 0, 0, 0, []),
  (11, .iload_n 2, 2, 0, 0, 0, []),
  (12, .invokestatic 64, 0, 1, 0, 0, []),
  (15, .ifCond .ne 6, 21, 0, 0, 0, []),
  (18, .ldc 74, 0, 0, 0, (-1000000001), []),
  (20, .ireturn, 0, 0, 0, 0, []),
  (21, .aload_n 0, 0, 0, 0, 0, []),
  (22, .getfield 52, 6, 2, 0, 0, []),
  (25, .getfield 86, 5, 2, 0, 0, []),
  (28, .iload_n 1, 1, 0, 0, 0, []),
  (29, .iaload, 0, 0, 0, 0, []),
  (30, .iload_n 2, 2, 0, 0, 0, []),
  (31, .invokestatic 115, 1, 2, 0, 0, []),
  (34, .ifCond .eq 15, 49, 0, 0, 0, []),
  (37, .aload_n 0, 0, 0, 0, 0, []),
  (38, .getfield 52, 6, 2, 0, 0, []),
  (41, .getfield 89, 5, 3, 0, 0, []),
  (44, .iload_n 1, 1, 0, 0, 0, []),
  (45, .iaload, 0, 0, 0, 0, []),
  (46, .goto 5, 51, 0, 0, 0, []),
  (49, .ldc 119, 0, 0, 0, (-1000000012), []),
  (51, .ireturn, 0, 0, 0, 0, [])]
theorem zk60 : zchk RX6 cX6_as 3 true (some .int) zc60 [0, 1213, 0, 2025, 0, 0, 2006, 0, 2013, 0, 0, 1213, 1109, 0, 0, 0, 2068, 0, 0, 1213, 1111, 0, 0, 0, 2074, 0] = true := by decide +kernel
def zc61 : List zE := [(0, .aload_n 0, 0, 0, 0, 0, []),
  (1, .getfield 52, 6, 2, 0, 0, []),
  (4, .iload_n 1, 1, 0, 0, 0, []),
  (5, .invokevirtual 83, 37, 1, 5, 0, []),
  (8, .ifCond .ne 6, 14, 0, 0, 0, []),
  (11, .ldc 74, 0, 0, 0, (-1000000001), []),
  (13, .ireturn, 0, 0, 0, 0, []),
  (14, .aload_n 0, 0, 0, 0, 0, []),
  (15, .getfield 52, 6, 2, 0, 0, []),
  (18, .getfield 86, 5, 2, 0, 0, []),
  (21, .iload_n 1, 1, 0, 0, 0, []),
  (22, .iload_n 2, 2, 0, 0, 0, []),
  (23, .iconst 0, 0, 0, 0, 0, []),
  (24, .iconst 5, 0, 0, 0, 5, []),
  (25, .invokestatic 120, 105, 5, 0, 0, []),
  (28, .ireturn, 0, 0, 0, 0, [])]
theorem zk61 : zchk RX6 cX6_turns 3 true (some .int) zc61 [0, 1213, 0, 2025, 0, 2013, 0, 0, 1213, 1109, 0, 0, 0, 0, 2079, 0] = true := by decide +kernel
def zc62 : List zE := [(0, .aload_n 0, 0, 0, 0, 0, []),
  (1, .getfield 52, 6, 2, 0, 0, []),
  (4, .iload_n 1, 1, 0, 0, 0, []),
  (5, .invokevirtual 83, 37, 1, 5, 0, []),
  (8, .ifCond .ne 6, 14, 0, 0, 0, []),
  (11, .ldc 74, 0, 0, 0, (-1000000001), []),
  (13, .ireturn, 0, 0, 0, 0, []),
  (14, .iload_n 2, 2, 0, 0, 0, []),
  (15, .tableswitch 73 1 3 #[25, 41, 56], 88, 25, 0, 0, [(1, 40), (2, 56), (3, 71)]),
  (40, .aload_n 0, 0, 0, 0, 0, []),
  (41, .getfield 52, 6, 2, 0, 0, []),
  (44, .getfield 89, 5, 3, 0, 0, []),
  (47, .iload_n 1, 1, 0, 0, 0, []),
  (48, .iload_n 3, 3, 0, 0, 0, []),
  (49, .iconst 1, 0, 0, 0, 1, []),
  (50, .bipush 99, 0, 0, 0, 99, []),
  (52, .invokestatic 120, 105, 5, 0, 0, []),
  (55, .ireturn, 0, 0, 0, 0, []),
  (56, .aload_n 0, 0, 0, 0, 0, []),
  (57, .getfield 52, 6, 2, 0, 0, []),
  (60, .getfield 92, 5, 4, 0, 0, []),
  (63, .iload_n 1, 1, 0, 0, 0, []),
  (64, .iload_n 3, 3, 0, 0, 0, []),
  (65, .iconst 0, 0, 0, 0, 0, []),
  (66, .iconst 1, 0, 0, 0, 1, []),
  (67, .invokestatic 120, 105, 5, 0, 0, []),
  (70, .ireturn, 0, 0, 0, 0, []),
  (71, .aload_n 0, 0, 0, 0, 0, []),
  (72, .getfield 52, 6, 2, 0, 0, []),
  (75, .getfield 95, 5, 5, 0, 0, []),
  (78, .iload_n 1, 1, 0, 0, 0, []),
  (79, .iload_n 3, 3, 0, 0, 0, []),
  (80, .iconst 0, 0, 0, 0, 0, []),
  (81, .sipush 9999, 0, 0, 0, 9999, []),
  (84, .invokestatic 120, 105, 5, 0, 0, []),
  (87, .ireturn, 0, 0, 0, 0, []),
  (88, .ldc 74, 0, 0, 0, (-1000000001), []),
  (90, .ireturn, 0, 0, 0, 0, [])]
theorem zk62 : zchk RX6 cX6_set 4 true (some .int) zc62 [0, 1213, 0, 2025, 0, 2013, 0, 0, 0, 0, 1213, 1111, 0, 0, 0, 0, 2079, 0, 0, 1213, 1113, 0, 0, 0, 0, 2079, 0, 0, 1213, 1115, 0, 0, 0, 0, 2079, 0, 2013, 0] = true := by decide +kernel
def zc63 : List zE := [(0, .iload_n 1, 1, 0, 0, 0, []),
  (1, .lookupswitch 43 #[(6, 27), (7, 35)], 44, 27, 0, 0, [(6, 28), (7, 36)]),
  (28, .aload_n 0, 0, 0, 0, 0, []),
  (29, .getfield 52, 6, 2, 0, 0, []),
  (32, .invokevirtual 124, 46, 0, 5, 0, []),
  (35, .ireturn, 0, 0, 0, 0, []),
  (36, .aload_n 0, 0, 0, 0, 0, []),
  (37, .getfield 52, 6, 2, 0, 0, []),
  (40, .invokevirtual 128, 47, 0, 5, 0, []),
  (43, .ireturn, 0, 0, 0, 0, []),
  (44, .iload_n 1, 1, 0, 0, 0, []),
  (45, .iconst 0, 0, 0, 0, 0, []),
  (46, .iconst 5, 0, 0, 0, 5, []),
  (47, .invokestatic 70, 103, 3, 0, 0, []),
  (50, .ifCond .eq 15, 65, 0, 0, 0, []),
  (53, .aload_n 0, 0, 0, 0, 0, []),
  (54, .getfield 52, 6, 2, 0, 0, []),
  (57, .getfield 131, 5, 7, 0, 0, []),
  (60, .iload_n 1, 1, 0, 0, 0, []),
  (61, .iaload, 0, 0, 0, 0, []),
  (62, .goto 5, 67, 0, 0, 0, []),
  (65, .ldc 74, 0, 0, 0, (-1000000001), []),
  (67, .ireturn, 0, 0, 0, 0, [])]
theorem zk63 : zchk RX6 cX6_boat 2 true (some .int) zc63 [0, 0, 0, 1213, 2090, 0, 0, 1213, 2098, 0, 0, 0, 0, 2012, 0, 0, 1213, 1119, 0, 0, 0, 2013, 0] = true := by decide +kernel
def zc64 : List zE := [(0, .iload_n 1, 1, 0, 0, 0, []),
  (1, .iconst 0, 0, 0, 0, 0, []),
  (2, .iconst 5, 0, 0, 0, 5, []),
  (3, .invokestatic 70, 103, 3, 0, 0, []),
  (6, .ifCond .ne 6, 12, 0, 0, 0, []),
  (9, .ldc 74, 0, 0, 0, (-1000000001), []),
  (11, .ireturn, 0, 0, 0, 0, []),
  (12, .aload_n 0, 0, 0, 0, 0, []),
  (13, .getfield 52, 6, 2, 0, 0, []),
  (16, .getfield 131, 5, 7, 0, 0, []),
  (19, .iload_n 1, 1, 0, 0, 0, []),
  (20, .iload_n 2, 2, 0, 0, 0, []),
  (21, .getstatic 134, 1, 81, 0, 0, []),
  (24, .iload_n 1, 1, 0, 0, 0, []),
  (25, .iaload, 0, 0, 0, 0, []),
  (26, .getstatic 137, 2, 82, 0, 0, []),
  (29, .iload_n 1, 1, 0, 0, 0, []),
  (30, .iaload, 0, 0, 0, 0, []),
  (31, .invokestatic 120, 105, 5, 0, 0, []),
  (34, .ireturn, 0, 0, 0, 0, [])]
theorem zk64 : zchk RX6 cX6_rule 3 true (some .int) zc64 [0, 0, 0, 2012, 0, 2013, 0, 0, 1213, 1119, 0, 0, 2108, 0, 0, 2110, 0, 0, 2079, 0] = true := by decide +kernel
def zc65 : List zE := [(0, .iload_n 1, 1, 0, 0, 0, []),
  (1, .iconst 0, 0, 0, 0, 0, []),
  (2, .sipush 999, 0, 0, 0, 999, []),
  (5, .invokestatic 70, 103, 3, 0, 0, []),
  (8, .ifCond .eq 23, 31, 0, 0, 0, []),
  (11, .aload_n 0, 0, 0, 0, 0, []),
  (12, .getfield 52, 6, 2, 0, 0, []),
  (15, .aload_n 0, 0, 0, 0, 0, []),
  (16, .getfield 52, 6, 2, 0, 0, []),
  (19, .getfield 131, 5, 7, 0, 0, []),
  (22, .iconst 3, 0, 0, 0, 3, []),
  (23, .iaload, 0, 0, 0, 0, []),
  (24, .iload_n 1, 1, 0, 0, 0, []),
  (25, .invokevirtual 140, 45, 2, 5, 0, []),
  (28, .goto 5, 33, 0, 0, 0, []),
  (31, .ldc 74, 0, 0, 0, (-1000000001), []),
  (33, .ireturn, 0, 0, 0, 0, [])]
theorem zk65 : zchk RX6 cX6_pull 2 true (some .int) zc65 [0, 0, 0, 2012, 0, 0, 1213, 0, 1213, 1119, 0, 0, 0, 2116, 0, 2013, 0] = true := by decide +kernel
def zc66 : List zE := [(0, .aload_n 0, 0, 0, 0, 0, []),
  (1, .getfield 52, 6, 2, 0, 0, []),
  (4, .invokevirtual 143, 48, 0, 5, 0, []),
  (7, .ireturn, 0, 0, 0, 0, [])]
theorem zk66 : zchk RX6 cX6_loading 1 true (some .int) zc66 [0, 1213, 2124, 0] = true := by decide +kernel
def zc67 : List zE := [(0, .iload_n 1, 1, 0, 0, 0, []),
  (1, .iconst 1, 0, 0, 0, 1, []),
  (2, .bipush 10, 0, 0, 0, 10, []),
  (4, .invokestatic 70, 103, 3, 0, 0, []),
  (7, .ifCond .ne 6, 13, 0, 0, 0, []),
  (10, .ldc 74, 0, 0, 0, (-1000000001), []),
  (12, .ireturn, 0, 0, 0, 0, []),
  (13, .iload_n 1, 1, 0, 0, 0, []),
  (14, .bipush 10, 0, 0, 0, 10, []),
  (16, .aload_n 0, 0, 0, 0, 0, []),
  (17, .getfield 52, 6, 2, 0, 0, []),
  (20, .getfield 75, 5, 1, 0, 0, []),
  (23, .isub, 0, 0, 0, 0, []),
  (24, .invokestatic 146, 1001, 2, 0, 0, []),
  (27, .istore_n 2, 2, 0, 0, 0, []),
  (28, .iconst 0, 0, 0, 0, 0, []),
  (29, .istore_n 3, 3, 0, 0, 0, []),
  (30, .iload_n 3, 3, 0, 0, 0, []),
  (31, .iload_n 2, 2, 0, 0, 0, []),
  (32, .if_icmp .ge 60, 92, 0, 0, 0, []),
  (35, .aload_n 0, 0, 0, 0, 0, []),
  (36, .getfield 52, 6, 2, 0, 0, []),
  (39, .invokevirtual 151, 39, 0, 5, 0, []),
  (42, .bipush 6, 0, 0, 0, 6, []),
  (44, .irem, 0, 0, 0, 0, []),
  (45, .istore 4, 4, 0, 0, 0, []),
  (47, .iconst 1, 0, 0, 0, 1, []),
  (48, .aload_n 0, 0, 0, 0, 0, []),
  (49, .getfield 52, 6, 2, 0, 0, []),
  (52, .invokevirtual 151, 39, 0, 5, 0, []),
  (55, .bipush 60, 0, 0, 0, 60, []),
  (57, .irem, 0, 0, 0, 0, []),
  (58, .iadd, 0, 0, 0, 0, []),
  (59, .istore 5, 5, 0, 0, 0, []),
  (61, .aload_n 0, 0, 0, 0, 0, []),
  (62, .getfield 52, 6, 2, 0, 0, []),
  (65, .invokevirtual 151, 39, 0, 5, 0, []),
  (68, .iconst 2, 0, 0, 0, 2, []),
  (69, .irem, 0, 0, 0, 0, []),
  (70, .istore 6, 6, 0, 0, 0, []),
  (72, .aload_n 0, 0, 0, 0, 0, []),
  (73, .getfield 52, 6, 2, 0, 0, []),
  (76, .iload 4, 4, 0, 0, 0, []),
  (78, .iload 5, 5, 0, 0, 0, []),
  (80, .iload 6, 6, 0, 0, 0, []),
  (82, .invokevirtual 79, 38, 3, 5, 0, []),
  (85, .pop, 0, 0, 0, 0, []),
  (86, .iinc 3 1, 3, 0, 0, 1, []),
  (89, .goto (-59), 30, 0, 0, 0, []),
  (92, .iload_n 2, 2, 0, 0, 0, []),
  (93, .ireturn, 0, 0, 0, 0, [])]
theorem zk67 : zchk RX6 cX6_deal 7 true (some .int) zc67 [0, 0, 0, 2012, 0, 2013, 0, 0, 0, 0, 1213, 1107, 0, 2045, 0, 0, 0, 0, 0, 0, 0, 1213, 2139, 0, 0, 0, 0, 0, 1213, 2139, 0, 0, 0, 0, 0, 1213, 2139, 0, 0, 0, 0, 1213, 0, 0, 0, 2015, 0, 0, 0, 0, 0] = true := by decide +kernel
def zc68 : List zE := [(0, .aload_n 0, 0, 0, 0, 0, []),
  (1, .getfield 52, 6, 2, 0, 0, []),
  (4, .getfield 154, 5, 11, 0, 0, []),
  (7, .istore_n 2, 2, 0, 0, 0, []),
  (8, .aload_n 0, 0, 0, 0, 0, []),
  (9, .getfield 52, 6, 2, 0, 0, []),
  (12, .iload_n 1, 1, 0, 0, 0, []),
  (13, .putfield 154, 5, 11, 0, 0, []),
  (16, .iload_n 2, 2, 0, 0, 0, []),
  (17, .ireturn, 0, 0, 0, 0, [])]
theorem zk68 : zchk RX6 cX6_seed 3 true (some .int) zc68 [0, 1213, 1127, 0, 0, 1213, 0, 1127, 0, 0] = true := by decide +kernel
def zc69 : List zE := [(0, .iload_n 1, 1, 0, 0, 0, []),
  (1, .iconst 1, 0, 0, 0, 1, []),
  (2, .bipush 100, 0, 0, 0, 100, []),
  (4, .invokestatic 70, 103, 3, 0, 0, []),
  (7, .ifCond .ne 6, 13, 0, 0, 0, []),
  (10, .ldc 74, 0, 0, 0, (-1000000001), []),
  (12, .ireturn, 0, 0, 0, 0, []),
  (13, .aload_n 0, 0, 0, 0, 0, []),
  (14, .getfield 52, 6, 2, 0, 0, []),
  (17, .getfield 157, 5, 9, 0, 0, []),
  (20, .istore_n 2, 2, 0, 0, 0, []),
  (21, .aload_n 0, 0, 0, 0, 0, []),
  (22, .getfield 52, 6, 2, 0, 0, []),
  (25, .iload_n 1, 1, 0, 0, 0, []),
  (26, .sipush 9999, 0, 0, 0, 9999, []),
  (29, .aload_n 0, 0, 0, 0, 0, []),
  (30, .getfield 52, 6, 2, 0, 0, []),
  (33, .getfield 160, 5, 10, 0, 0, []),
  (36, .isub, 0, 0, 0, 0, []),
  (37, .invokestatic 146, 1001, 2, 0, 0, []),
  (40, .invokevirtual 163, 53, 1, 5, 0, []),
  (43, .aload_n 0, 0, 0, 0, 0, []),
  (44, .getfield 52, 6, 2, 0, 0, []),
  (47, .getfield 157, 5, 9, 0, 0, []),
  (50, .iload_n 2, 2, 0, 0, 0, []),
  (51, .isub, 0, 0, 0, 0, []),
  (52, .ireturn, 0, 0, 0, 0, [])]
theorem zk69 : zchk RX6 cX6_steps 3 true (some .int) zc69 [0, 0, 0, 2012, 0, 2013, 0, 0, 1213, 1123, 0, 0, 1213, 0, 0, 0, 1213, 1125, 0, 2045, 2152, 0, 1213, 1123, 0, 0, 0] = true := by decide +kernel
def zc70 : List zE := [(0, .iload_n 1, 1, 0, 0, 0, []),
  (1, .tableswitch 77 0 3 #[31, 39, 47, 62], 78, 31, 0, 0, [(0, 32), (1, 40), (2, 48), (3, 63)]),
  (32, .aload_n 0, 0, 0, 0, 0, []),
  (33, .getfield 52, 6, 2, 0, 0, []),
  (36, .getfield 167, 5, 8, 0, 0, []),
  (39, .ireturn, 0, 0, 0, 0, []),
  (40, .aload_n 0, 0, 0, 0, 0, []),
  (41, .getfield 52, 6, 2, 0, 0, []),
  (44, .getfield 157, 5, 9, 0, 0, []),
  (47, .ireturn, 0, 0, 0, 0, []),
  (48, .aload_n 0, 0, 0, 0, 0, []),
  (49, .getfield 52, 6, 2, 0, 0, []),
  (52, .aload_n 0, 0, 0, 0, 0, []),
  (53, .getfield 52, 6, 2, 0, 0, []),
  (56, .getfield 95, 5, 5, 0, 0, []),
  (59, .invokevirtual 170, 41, 1, 5, 0, []),
  (62, .ireturn, 0, 0, 0, 0, []),
  (63, .aload_n 0, 0, 0, 0, 0, []),
  (64, .getfield 52, 6, 2, 0, 0, []),
  (67, .aload_n 0, 0, 0, 0, 0, []),
  (68, .getfield 52, 6, 2, 0, 0, []),
  (71, .getfield 98, 5, 6, 0, 0, []),
  (74, .invokevirtual 170, 41, 1, 5, 0, []),
  (77, .ireturn, 0, 0, 0, 0, []),
  (78, .ldc 74, 0, 0, 0, (-1000000001), []),
  (80, .ireturn, 0, 0, 0, 0, [])]
theorem zk70 : zchk RX6 cX6_book 2 true (some .int) zc70 [0, 0, 0, 1213, 1121, 0, 0, 1213, 1123, 0, 0, 1213, 0, 1213, 1115, 2189, 0, 0, 1213, 0, 1213, 1117, 2189, 0, 2013, 0] = true := by decide +kernel
def zc71 : List zE := [(0, .iconst 0, 0, 0, 0, 0, []),
  (1, .istore_n 1, 1, 0, 0, 0, []),
  (2, .iload_n 1, 1, 0, 0, 0, []),
  (3, .bipush 99, 0, 0, 0, 99, []),
  (5, .if_icmp .gt 32, 37, 0, 0, 0, []),
  (8, .aload_n 0, 0, 0, 0, 0, []),
  (9, .getfield 52, 6, 2, 0, 0, []),
  (12, .iload_n 1, 1, 0, 0, 0, []),
  (13, .iconst 0, 0, 0, 0, 0, []),
  (14, .invokevirtual 140, 45, 2, 5, 0, []),
  (17, .aload_n 0, 0, 0, 0, 0, []),
  (18, .getfield 52, 6, 2, 0, 0, []),
  (21, .getfield 131, 5, 7, 0, 0, []),
  (24, .iconst 4, 0, 0, 0, 4, []),
  (25, .iaload, 0, 0, 0, 0, []),
  (26, .if_icmp .le 5, 31, 0, 0, 0, []),
  (29, .iload_n 1, 1, 0, 0, 0, []),
  (30, .ireturn, 0, 0, 0, 0, []),
  (31, .iinc 1 1, 1, 0, 0, 1, []),
  (34, .goto (-32), 2, 0, 0, 0, []),
  (37, .ldc 174, 0, 0, 0, (-1000000005), []),
  (39, .ireturn, 0, 0, 0, 0, [])]
theorem zk71 : zchk RX6 cX6_high 2 true (some .int) zc71 [0, 0, 0, 0, 0, 0, 1213, 0, 0, 2116, 0, 1213, 1119, 0, 0, 0, 0, 0, 0, 0, 2197, 0] = true := by decide +kernel
def zc72 : List zE := [(0, .iload_n 1, 1, 0, 0, 0, []),
  (1, .iconst 0, 0, 0, 0, 0, []),
  (2, .iconst 1, 0, 0, 0, 1, []),
  (3, .invokestatic 70, 103, 3, 0, 0, []),
  (6, .ifCond .ne 6, 12, 0, 0, 0, []),
  (9, .ldc 74, 0, 0, 0, (-1000000001), []),
  (11, .ireturn, 0, 0, 0, 0, []),
  (12, .aload_n 0, 0, 0, 0, 0, []),
  (13, .getfield 52, 6, 2, 0, 0, []),
  (16, .invokevirtual 175, 50, 0, 5, 0, []),
  (19, .istore_n 2, 2, 0, 0, 0, []),
  (20, .iload_n 2, 2, 0, 0, 0, []),
  (21, .ifCond .ge 6, 27, 0, 0, 0, []),
  (24, .ldc 174, 0, 0, 0, (-1000000005), []),
  (26, .ireturn, 0, 0, 0, 0, []),
  (27, .iload_n 1, 1, 0, 0, 0, []),
  (28, .ifCond .ne 7, 35, 0, 0, 0, []),
  (31, .iload_n 2, 2, 0, 0, 0, []),
  (32, .goto 11, 43, 0, 0, 0, []),
  (35, .aload_n 0, 0, 0, 0, 0, []),
  (36, .getfield 52, 6, 2, 0, 0, []),
  (39, .iload_n 2, 2, 0, 0, 0, []),
  (40, .invokevirtual 178, 44, 1, 5, 0, []),
  (43, .ireturn, 0, 0, 0, 0, [])]
theorem zk72 : zchk RX6 cX6_best 3 true (some .int) zc72 [0, 0, 0, 2012, 0, 2013, 0, 0, 1213, 2202, 0, 0, 0, 2197, 0, 0, 0, 0, 0, 0, 1213, 0, 2220, 0] = true := by decide +kernel
def zc73 : List zE := [(0, .iload_n 1, 1, 0, 0, 0, []),
  (1, .iconst 0, 0, 0, 0, 0, []),
  (2, .bipush 100, 0, 0, 0, 100, []),
  (4, .invokestatic 70, 103, 3, 0, 0, []),
  (7, .ifCond .eq 12, 19, 0, 0, 0, []),
  (10, .iload_n 2, 2, 0, 0, 0, []),
  (11, .iconst 0, 0, 0, 0, 0, []),
  (12, .iconst 4, 0, 0, 0, 4, []),
  (13, .invokestatic 70, 103, 3, 0, 0, []),
  (16, .ifCond .ne 6, 22, 0, 0, 0, []),
  (19, .ldc 74, 0, 0, 0, (-1000000001), []),
  (21, .ireturn, 0, 0, 0, 0, []),
  (22, .aload_n 0, 0, 0, 0, 0, []),
  (23, .getfield 59, 6, 4, 0, 0, []),
  (26, .aload_n 0, 0, 0, 0, 0, []),
  (27, .getfield 52, 6, 2, 0, 0, []),
  (30, .invokevirtual 181, 36, 1, 5, 0, []),
  (33, .aload_n 0, 0, 0, 0, 0, []),
  (34, .getfield 59, 6, 4, 0, 0, []),
  (37, .iload_n 1, 1, 0, 0, 0, []),
  (38, .invokevirtual 163, 53, 1, 5, 0, []),
  (41, .iload_n 2, 2, 0, 0, 0, []),
  (42, .tableswitch 71 0 3 #[30, 38, 46, 61], 113, 30, 0, 0, [(0, 72), (1, 80), (2, 88), (3, 103)]),
  (72, .aload_n 0, 0, 0, 0, 0, []),
  (73, .getfield 59, 6, 4, 0, 0, []),
  (76, .getfield 157, 5, 9, 0, 0, []),
  (79, .ireturn, 0, 0, 0, 0, []),
  (80, .aload_n 0, 0, 0, 0, 0, []),
  (81, .getfield 59, 6, 4, 0, 0, []),
  (84, .getfield 167, 5, 8, 0, 0, []),
  (87, .ireturn, 0, 0, 0, 0, []),
  (88, .aload_n 0, 0, 0, 0, 0, []),
  (89, .getfield 59, 6, 4, 0, 0, []),
  (92, .aload_n 0, 0, 0, 0, 0, []),
  (93, .getfield 59, 6, 4, 0, 0, []),
  (96, .getfield 95, 5, 5, 0, 0, []),
  (99, .invokevirtual 170, 41, 1, 5, 0, []),
  (102, .ireturn, 0, 0, 0, 0, []),
  (103, .aload_n 0, 0, 0, 0, 0, []),
  (104, .getfield 59, 6, 4, 0, 0, []),
  (107, .getfield 131, 5, 7, 0, 0, []),
  (110, .iconst 0, 0, 0, 0, 0, []),
  (111, .iaload, 0, 0, 0, 0, []),
  (112, .ireturn, 0, 0, 0, 0, []),
  (113, .aload_n 0, 0, 0, 0, 0, []),
  (114, .getfield 59, 6, 4, 0, 0, []),
  (117, .getfield 131, 5, 7, 0, 0, []),
  (120, .iconst 3, 0, 0, 0, 3, []),
  (121, .iaload, 0, 0, 0, 0, []),
  (122, .ireturn, 0, 0, 0, 0, [])]
theorem zk73 : zchk RX6 cX6_behind 3 true (some .int) zc73 [0, 0, 0, 2012, 0, 0, 0, 0, 2012, 0, 2013, 0, 0, 1215, 0, 1213, 2225, 0, 1215, 0, 2152, 0, 0, 0, 1215, 1123, 0, 0, 1215, 1121, 0, 0, 1215, 0, 1215, 1115, 2189, 0, 0, 1215, 1119, 0, 0, 0, 0, 1215, 1119, 0, 0, 0] = true := by decide +kernel
def zc74 : List zE := [(0, .iload_n 1, 1, 0, 0, 0, []),
  (1, .iconst 1, 0, 0, 0, 1, []),
  (2, .bipush 60, 0, 0, 0, 60, []),
  (4, .invokestatic 70, 103, 3, 0, 0, []),
  (7, .ifCond .eq 12, 19, 0, 0, 0, []),
  (10, .iload_n 2, 2, 0, 0, 0, []),
  (11, .iconst 0, 0, 0, 0, 0, []),
  (12, .iconst 1, 0, 0, 0, 1, []),
  (13, .invokestatic 70, 103, 3, 0, 0, []),
  (16, .ifCond .ne 6, 22, 0, 0, 0, []),
  (19, .ldc 74, 0, 0, 0, (-1000000001), []),
  (21, .ireturn, 0, 0, 0, 0, []),
  (22, .iconst 0, 0, 0, 0, 0, []),
  (23, .istore_n 3, 3, 0, 0, 0, []),
  (24, .iconst 0, 0, 0, 0, 0, []),
  (25, .istore 4, 4, 0, 0, 0, []),
  (27, .iconst 0, 0, 0, 0, 0, []),
  (28, .istore 5, 5, 0, 0, 0, []),
  (30, .iload 5, 5, 0, 0, 0, []),
  (32, .bipush 60, 0, 0, 0, 60, []),
  (34, .if_icmp .gt 74, 108, 0, 0, 0, []),
  (37, .aload_n 0, 0, 0, 0, 0, []),
  (38, .getfield 59, 6, 4, 0, 0, []),
  (41, .aload_n 0, 0, 0, 0, 0, []),
  (42, .getfield 52, 6, 2, 0, 0, []),
  (45, .invokevirtual 181, 36, 1, 5, 0, []),
  (48, .aload_n 0, 0, 0, 0, 0, []),
  (49, .getfield 59, 6, 4, 0, 0, []),
  (52, .getfield 131, 5, 7, 0, 0, []),
  (55, .iconst 1, 0, 0, 0, 1, []),
  (56, .iload 5, 5, 0, 0, 0, []),
  (58, .iastore, 0, 0, 0, 0, []),
  (59, .aload_n 0, 0, 0, 0, 0, []),
  (60, .getfield 59, 6, 4, 0, 0, []),
  (63, .iload_n 1, 1, 0, 0, 0, []),
  (64, .invokevirtual 163, 53, 1, 5, 0, []),
  (67, .aload_n 0, 0, 0, 0, 0, []),
  (68, .getfield 59, 6, 4, 0, 0, []),
  (71, .aload_n 0, 0, 0, 0, 0, []),
  (72, .getfield 59, 6, 4, 0, 0, []),
  (75, .getfield 95, 5, 5, 0, 0, []),
  (78, .invokevirtual 170, 41, 1, 5, 0, []),
  (81, .istore 6, 6, 0, 0, 0, []),
  (83, .iload 5, 5, 0, 0, 0, []),
  (85, .ifCond .eq 10, 95, 0, 0, 0, []),
  (88, .iload 6, 6, 0, 0, 0, []),
  (90, .iload 4, 4, 0, 0, 0, []),
  (92, .if_icmp .ge 10, 102, 0, 0, 0, []),
  (95, .iload 5, 5, 0, 0, 0, []),
  (97, .istore_n 3, 3, 0, 0, 0, []),
  (98, .iload 6, 6, 0, 0, 0, []),
  (100, .istore 4, 4, 0, 0, 0, []),
  (102, .iinc 5 1, 5, 0, 0, 1, []),
  (105, .goto (-75), 30, 0, 0, 0, []),
  (108, .iload_n 2, 2, 0, 0, 0, []),
  (109, .ifCond .ne 7, 116, 0, 0, 0, []),
  (112, .iload_n 3, 3, 0, 0, 0, []),
  (113, .goto 5, 118, 0, 0, 0, []),
  (116, .iload 4, 4, 0, 0, 0, []),
  (118, .ireturn, 0, 0, 0, 0, [])]
theorem zk74 : zchk RX6 cX6_slant 7 true (some .int) zc74 [0, 0, 0, 2012, 0, 0, 0, 0, 2012, 0, 2013, 0, 0, 0, 0, 0, 0, 0, 0, 0, 0, 0, 1215, 0, 1213, 2225, 0, 1215, 1119, 0, 0, 0, 0, 1215, 0, 2152, 0, 1215, 0, 1215, 1115, 2189, 0, 0, 0, 0, 0, 0, 0, 0, 0, 0, 0, 0, 0, 0, 0, 0, 0, 0] = true := by decide +kernel
def zc75 : List zE := [(0, .iload_n 1, 1, 0, 0, 0, []),
  (1, .iconst 1, 0, 0, 0, 1, []),
  (2, .bipush 60, 0, 0, 0, 60, []),
  (4, .invokestatic 70, 103, 3, 0, 0, []),
  (7, .ifCond .eq 12, 19, 0, 0, 0, []),
  (10, .iload_n 2, 2, 0, 0, 0, []),
  (11, .iconst 0, 0, 0, 0, 0, []),
  (12, .iconst 1, 0, 0, 0, 1, []),
  (13, .invokestatic 70, 103, 3, 0, 0, []),
  (16, .ifCond .ne 6, 22, 0, 0, 0, []),
  (19, .ldc 74, 0, 0, 0, (-1000000001), []),
  (21, .ireturn, 0, 0, 0, 0, []),
  (22, .iconst 0, 0, 0, 0, 0, []),
  (23, .istore_n 3, 3, 0, 0, 0, []),
  (24, .iconst 0, 0, 0, 0, 0, []),
  (25, .istore 4, 4, 0, 0, 0, []),
  (27, .iconst 0, 0, 0, 0, 0, []),
  (28, .istore 5, 5, 0, 0, 0, []),
  (30, .iload 5, 5, 0, 0, 0, []),
  (32, .bipush 10, 0, 0, 0, 10, []),
  (34, .if_icmp .gt 68, 102, 0, 0, 0, []),
  (37, .aload_n 0, 0, 0, 0, 0, []),
  (38, .getfield 59, 6, 4, 0, 0, []),
  (41, .aload_n 0, 0, 0, 0, 0, []),
  (42, .getfield 52, 6, 2, 0, 0, []),
  (45, .invokevirtual 181, 36, 1, 5, 0, []),
  (48, .aload_n 0, 0, 0, 0, 0, []),
  (49, .getfield 59, 6, 4, 0, 0, []),
  (52, .getfield 131, 5, 7, 0, 0, []),
  (55, .iconst 5, 0, 0, 0, 5, []),
  (56, .iload 5, 5, 0, 0, 0, []),
  (58, .iastore, 0, 0, 0, 0, []),
  (59, .aload_n 0, 0, 0, 0, 0, []),
  (60, .getfield 59, 6, 4, 0, 0, []),
  (63, .iload_n 1, 1, 0, 0, 0, []),
  (64, .invokevirtual 163, 53, 1, 5, 0, []),
  (67, .iload 5, 5, 0, 0, 0, []),
  (69, .ifCond .eq 15, 84, 0, 0, 0, []),
  (72, .aload_n 0, 0, 0, 0, 0, []),
  (73, .getfield 59, 6, 4, 0, 0, []),
  (76, .getfield 157, 5, 9, 0, 0, []),
  (79, .iload 4, 4, 0, 0, 0, []),
  (81, .if_icmp .le 15, 96, 0, 0, 0, []),
  (84, .iload 5, 5, 0, 0, 0, []),
  (86, .istore_n 3, 3, 0, 0, 0, []),
  (87, .aload_n 0, 0, 0, 0, 0, []),
  (88, .getfield 59, 6, 4, 0, 0, []),
  (91, .getfield 157, 5, 9, 0, 0, []),
  (94, .istore 4, 4, 0, 0, 0, []),
  (96, .iinc 5 1, 5, 0, 0, 1, []),
  (99, .goto (-69), 30, 0, 0, 0, []),
  (102, .iload_n 2, 2, 0, 0, 0, []),
  (103, .ifCond .ne 7, 110, 0, 0, 0, []),
  (106, .iload_n 3, 3, 0, 0, 0, []),
  (107, .goto 5, 112, 0, 0, 0, []),
  (110, .iload 4, 4, 0, 0, 0, []),
  (112, .ireturn, 0, 0, 0, 0, [])]
theorem zk75 : zchk RX6 cX6_patience 6 true (some .int) zc75 [0, 0, 0, 2012, 0, 0, 0, 0, 2012, 0, 2013, 0, 0, 0, 0, 0, 0, 0, 0, 0, 0, 0, 1215, 0, 1213, 2225, 0, 1215, 1119, 0, 0, 0, 0, 1215, 0, 2152, 0, 0, 0, 1215, 1123, 0, 0, 0, 0, 0, 1215, 1123, 0, 0, 0, 0, 0, 0, 0, 0, 0] = true := by decide +kernel
def zc76 : List zE := [(0, .iload_n 1, 1, 0, 0, 0, []),
  (1, .iconst 1, 0, 0, 0, 1, []),
  (2, .bipush 60, 0, 0, 0, 60, []),
  (4, .invokestatic 70, 103, 3, 0, 0, []),
  (7, .ifCond .eq 12, 19, 0, 0, 0, []),
  (10, .iload_n 2, 2, 0, 0, 0, []),
  (11, .iconst 0, 0, 0, 0, 0, []),
  (12, .iconst 1, 0, 0, 0, 1, []),
  (13, .invokestatic 70, 103, 3, 0, 0, []),
  (16, .ifCond .ne 6, 22, 0, 0, 0, []),
  (19, .ldc 74, 0, 0, 0, (-1000000001), []),
  (21, .ireturn, 0, 0, 0, 0, []),
  (22, .ldc 174, 0, 0, 0, (-1000000005), []),
  (24, .istore_n 3, 3, 0, 0, 0, []),
  (25, .ldc 174, 0, 0, 0, (-1000000005), []),
  (27, .istore 4, 4, 0, 0, 0, []),
  (29, .iconst 0, 0, 0, 0, 0, []),
  (30, .istore 5, 5, 0, 0, 0, []),
  (32, .iload 5, 5, 0, 0, 0, []),
  (34, .aload_n 0, 0, 0, 0, 0, []),
  (35, .getfield 52, 6, 2, 0, 0, []),
  (38, .getfield 75, 5, 1, 0, 0, []),
  (41, .if_icmp .ge 66, 107, 0, 0, 0, []),
  (44, .aload_n 0, 0, 0, 0, 0, []),
  (45, .getfield 59, 6, 4, 0, 0, []),
  (48, .aload_n 0, 0, 0, 0, 0, []),
  (49, .getfield 52, 6, 2, 0, 0, []),
  (52, .invokevirtual 181, 36, 1, 5, 0, []),
  (55, .aload_n 0, 0, 0, 0, 0, []),
  (56, .getfield 59, 6, 4, 0, 0, []),
  (59, .iload 5, 5, 0, 0, 0, []),
  (61, .putfield 185, 5, 14, 0, 0, []),
  (64, .aload_n 0, 0, 0, 0, 0, []),
  (65, .getfield 59, 6, 4, 0, 0, []),
  (68, .iload_n 1, 1, 0, 0, 0, []),
  (69, .invokevirtual 163, 53, 1, 5, 0, []),
  (72, .iload 5, 5, 0, 0, 0, []),
  (74, .ifCond .eq 15, 89, 0, 0, 0, []),
  (77, .aload_n 0, 0, 0, 0, 0, []),
  (78, .getfield 59, 6, 4, 0, 0, []),
  (81, .getfield 157, 5, 9, 0, 0, []),
  (84, .iload 4, 4, 0, 0, 0, []),
  (86, .if_icmp .le 15, 101, 0, 0, 0, []),
  (89, .iload 5, 5, 0, 0, 0, []),
  (91, .istore_n 3, 3, 0, 0, 0, []),
  (92, .aload_n 0, 0, 0, 0, 0, []),
  (93, .getfield 59, 6, 4, 0, 0, []),
  (96, .getfield 157, 5, 9, 0, 0, []),
  (99, .istore 4, 4, 0, 0, 0, []),
  (101, .iinc 5 1, 5, 0, 0, 1, []),
  (104, .goto (-72), 32, 0, 0, 0, []),
  (107, .iload_n 2, 2, 0, 0, 0, []),
  (108, .ifCond .ne 7, 115, 0, 0, 0, []),
  (111, .iload_n 3, 3, 0, 0, 0, []),
  (112, .goto 5, 117, 0, 0, 0, []),
  (115, .iload 4, 4, 0, 0, 0, []),
  (117, .ireturn, 0, 0, 0, 0, [])]
theorem zk76 : zchk RX6 cX6_left 6 true (some .int) zc76 [0, 0, 0, 2012, 0, 0, 0, 0, 2012, 0, 2013, 0, 2197, 0, 2197, 0, 0, 0, 0, 0, 1213, 1107, 0, 0, 1215, 0, 1213, 2225, 0, 1215, 0, 1133, 0, 1215, 0, 2152, 0, 0, 0, 1215, 1123, 0, 0, 0, 0, 0, 1215, 1123, 0, 0, 0, 0, 0, 0, 0, 0, 0] = true := by decide +kernel
def zc77 : List zE := [(0, .aload_n 0, 0, 0, 0, 0, []),
  (1, .getfield 59, 6, 4, 0, 0, []),
  (4, .aload_n 0, 0, 0, 0, 0, []),
  (5, .getfield 52, 6, 2, 0, 0, []),
  (8, .invokevirtual 181, 36, 1, 5, 0, []),
  (11, .iconst 0, 0, 0, 0, 0, []),
  (12, .istore_n 1, 1, 0, 0, 0, []),
  (13, .iload_n 1, 1, 0, 0, 0, []),
  (14, .bipush 100, 0, 0, 0, 100, []),
  (16, .if_icmp .gt 28, 44, 0, 0, 0, []),
  (19, .aload_n 0, 0, 0, 0, 0, []),
  (20, .getfield 59, 6, 4, 0, 0, []),
  (23, .invokevirtual 188, 42, 0, 5, 0, []),
  (26, .ifCond .eq 5, 31, 0, 0, 0, []),
  (29, .iload_n 1, 1, 0, 0, 0, []),
  (30, .ireturn, 0, 0, 0, 0, []),
  (31, .aload_n 0, 0, 0, 0, 0, []),
  (32, .getfield 59, 6, 4, 0, 0, []),
  (35, .invokevirtual 192, 54, 0, 5, 0, []),
  (38, .iinc 1 1, 1, 0, 0, 1, []),
  (41, .goto (-28), 13, 0, 0, 0, []),
  (44, .ldc 174, 0, 0, 0, (-1000000005), []),
  (46, .ireturn, 0, 0, 0, 0, [])]
theorem zk77 : zchk RX6 cX6_allOver 2 true (some .int) zc77 [0, 1215, 0, 1213, 2225, 0, 0, 0, 0, 0, 0, 1215, 3008, 0, 0, 0, 0, 1215, 3012, 0, 0, 2197, 0] = true := by decide +kernel
def zc78 : List zE := [(0, .aload_n 0, 0, 0, 0, 0, []),
  (1, .iload_n 1, 1, 0, 0, 0, []),
  (2, .invokevirtual 195, 95, 1, 6, 0, []),
  (5, .astore_n 3, 3, 0, 0, 0, []),
  (6, .aload_n 3, 3, 0, 0, 0, []),
  (7, .ifnull 12, 19, 0, 0, 0, []),
  (10, .iload_n 2, 2, 0, 0, 0, []),
  (11, .iconst 0, 0, 0, 0, 0, []),
  (12, .iconst 1, 0, 0, 0, 1, []),
  (13, .invokestatic 70, 103, 3, 0, 0, []),
  (16, .ifCond .ne 6, 22, 0, 0, 0, []),
  (19, .ldc 74, 0, 0, 0, (-1000000001), []),
  (21, .ireturn, 0, 0, 0, 0, []),
  (22, .aload_n 3, 3, 0, 0, 0, []),
  (23, .invokevirtual 199, 32, 0, 3, 0, []),
  (26, .ifCond .eq 6, 32, 0, 0, 0, []),
  (29, .ldc 202, 0, 0, 0, (-1000000011), []),
  (31, .ireturn, 0, 0, 0, 0, []),
  (32, .iconst 0, 0, 0, 0, 0, []),
  (33, .istore 4, 4, 0, 0, 0, []),
  (35, .iconst 0, 0, 0, 0, 0, []),
  (36, .istore 5, 5, 0, 0, 0, []),
  (38, .iconst 0, 0, 0, 0, 0, []),
  (39, .istore 6, 6, 0, 0, 0, []),
  (41, .iload 6, 6, 0, 0, 0, []),
  (43, .bipush 60, 0, 0, 0, 60, []),
  (45, .if_icmp .gt 38, 83, 0, 0, 0, []),
  (48, .aload_n 0, 0, 0, 0, 0, []),
  (49, .aload_n 3, 3, 0, 0, 0, []),
  (50, .iload 6, 6, 0, 0, 0, []),
  (52, .invokevirtual 203, 79, 2, 6, 0, []),
  (55, .istore 7, 7, 0, 0, 0, []),
  (57, .iload 6, 6, 0, 0, 0, []),
  (59, .ifCond .eq 10, 69, 0, 0, 0, []),
  (62, .iload 7, 7, 0, 0, 0, []),
  (64, .iload 5, 5, 0, 0, 0, []),
  (66, .if_icmp .ge 11, 77, 0, 0, 0, []),
  (69, .iload 6, 6, 0, 0, 0, []),
  (71, .istore 4, 4, 0, 0, 0, []),
  (73, .iload 7, 7, 0, 0, 0, []),
  (75, .istore 5, 5, 0, 0, 0, []),
  (77, .iinc 6 1, 6, 0, 0, 1, []),
  (80, .goto (-39), 41, 0, 0, 0, []),
  (83, .iload_n 2, 2, 0, 0, 0, []),
  (84, .ifCond .ne 8, 92, 0, 0, 0, []),
  (87, .iload 4, 4, 0, 0, 0, []),
  (89, .goto 5, 94, 0, 0, 0, []),
  (92, .iload 5, 5, 0, 0, 0, []),
  (94, .ireturn, 0, 0, 0, 0, [])]
theorem zk78 : zchk RX6 cX6_slanted 8 true (some .int) zc78 [0, 0, 3017, 0, 0, 0, 0, 0, 0, 2012, 0, 2013, 0, 0, 3021, 0, 3025, 0, 0, 0, 0, 0, 0, 0, 0, 0, 0, 0, 0, 0, 3026, 0, 0, 0, 0, 0, 0, 0, 0, 0, 0, 0, 0, 0, 0, 0, 0, 0, 0] = true := by decide +kernel
def zc79 : List zE := [(0, .iconst 0, 0, 0, 0, 0, []),
  (1, .istore_n 3, 3, 0, 0, 0, []),
  (2, .aload_n 0, 0, 0, 0, 0, []),
  (3, .getfield 59, 6, 4, 0, 0, []),
  (6, .aload_n 0, 0, 0, 0, 0, []),
  (7, .getfield 52, 6, 2, 0, 0, []),
  (10, .invokevirtual 181, 36, 1, 5, 0, []),
  (13, .aload_n 0, 0, 0, 0, 0, []),
  (14, .getfield 59, 6, 4, 0, 0, []),
  (17, .getfield 131, 5, 7, 0, 0, []),
  (20, .iconst 1, 0, 0, 0, 1, []),
  (21, .iload_n 2, 2, 0, 0, 0, []),
  (22, .iastore, 0, 0, 0, 0, []),
  (23, .iconst 0, 0, 0, 0, 0, []),
  (24, .istore 4, 4, 0, 0, 0, []),
  (26, .iload 4, 4, 0, 0, 0, []),
  (28, .aload_n 1, 1, 0, 0, 0, []),
  (29, .getfield 207, 3, 1, 0, 0, []),
  (32, .if_icmp .ge 46, 78, 0, 0, 0, []),
  (35, .aload_n 1, 1, 0, 0, 0, []),
  (36, .iload 4, 4, 0, 0, 0, []),
  (38, .invokevirtual 210, 35, 1, 3, 0, []),
  (41, .ifCond .eq 24, 65, 0, 0, 0, []),
  (44, .iload_n 3, 3, 0, 0, 0, []),
  (45, .aload_n 0, 0, 0, 0, 0, []),
  (46, .getfield 59, 6, 4, 0, 0, []),
  (49, .getfield 167, 5, 8, 0, 0, []),
  (52, .aload_n 1, 1, 0, 0, 0, []),
  (53, .getfield 213, 3, 2, 0, 0, []),
  (56, .iload 4, 4, 0, 0, 0, []),
  (58, .iaload, 0, 0, 0, 0, []),
  (59, .isub, 0, 0, 0, 0, []),
  (60, .invokestatic 216, 1002, 1, 0, 0, []),
  (63, .iadd, 0, 0, 0, 0, []),
  (64, .istore_n 3, 3, 0, 0, 0, []),
  (65, .aload_n 0, 0, 0, 0, 0, []),
  (66, .getfield 59, 6, 4, 0, 0, []),
  (69, .invokevirtual 192, 54, 0, 5, 0, []),
  (72, .iinc 4 1, 4, 0, 0, 1, []),
  (75, .goto (-49), 26, 0, 0, 0, []),
  (78, .iload_n 3, 3, 0, 0, 0, []),
  (79, .ireturn, 0, 0, 0, 0, [])]
theorem zk79 : zchk RX6 cX6_differences 5 true (some .int) zc79 [0, 0, 0, 1215, 0, 1213, 2225, 0, 1215, 1119, 0, 0, 0, 0, 0, 0, 0, 1173, 0, 0, 0, 3030, 0, 0, 0, 1215, 1121, 0, 1175, 0, 0, 0, 3040, 0, 0, 0, 1215, 3012, 0, 0, 0, 0] = true := by decide +kernel
def zc80 : List zE := [(0, .aload_n 0, 0, 0, 0, 0, []),
  (1, .getfield 52, 6, 2, 0, 0, []),
  (4, .getfield 219, 5, 13, 0, 0, []),
  (7, .iconst 2, 0, 0, 0, 2, []),
  (8, .iaload, 0, 0, 0, 0, []),
  (9, .istore_n 1, 1, 0, 0, 0, []),
  (10, .iload_n 1, 1, 0, 0, 0, []),
  (11, .ifCond .ge 13, 24, 0, 0, 0, []),
  (14, .aload_n 0, 0, 0, 0, 0, []),
  (15, .getfield 52, 6, 2, 0, 0, []),
  (18, .getfield 157, 5, 9, 0, 0, []),
  (21, .goto 26, 47, 0, 0, 0, []),
  (24, .aload_n 0, 0, 0, 0, 0, []),
  (25, .getfield 43, 6, 0, 0, 0, []),
  (28, .iload_n 1, 1, 0, 0, 0, []),
  (29, .aload_n 0, 0, 0, 0, 0, []),
  (30, .getfield 52, 6, 2, 0, 0, []),
  (33, .getfield 167, 5, 8, 0, 0, []),
  (36, .aload_n 0, 0, 0, 0, 0, []),
  (37, .getfield 52, 6, 2, 0, 0, []),
  (40, .getfield 157, 5, 9, 0, 0, []),
  (43, .iconst 0, 0, 0, 0, 0, []),
  (44, .invokevirtual 222, 7, 4, 1, 0, []),
  (47, .ireturn, 0, 0, 0, 0, [])]
theorem zk80 : zchk RX6 cX6_fine 2 true (some .int) zc80 [0, 1213, 1131, 0, 0, 0, 0, 0, 0, 1213, 1123, 0, 0, 1211, 0, 0, 1213, 1121, 0, 1213, 1123, 0, 3045, 0] = true := by decide +kernel
def zc81 : List zE := [(0, .aload_n 0, 0, 0, 0, 0, []),
  (1, .getfield 10, 6, 1, 0, 0, []),
  (4, .getfield 226, 2, 1, 0, 0, []),
  (7, .bipush 84, 0, 0, 0, 84, []),
  (9, .if_icmp .le 6, 15, 0, 0, 0, []),
  (12, .ldc 78, 0, 0, 0, (-1000000003), []),
  (14, .ireturn, 0, 0, 0, 0, []),
  (15, .aload_n 0, 0, 0, 0, 0, []),
  (16, .getfield 10, 6, 1, 0, 0, []),
  (19, .iload_n 1, 1, 0, 0, 0, []),
  (20, .invokevirtual 229, 9, 1, 2, 0, []),
  (23, .aload_n 0, 0, 0, 0, 0, []),
  (24, .getfield 10, 6, 1, 0, 0, []),
  (27, .iload_n 2, 2, 0, 0, 0, []),
  (28, .invokevirtual 229, 9, 1, 2, 0, []),
  (31, .aload_n 0, 0, 0, 0, 0, []),
  (32, .getfield 10, 6, 1, 0, 0, []),
  (35, .iload_n 3, 3, 0, 0, 0, []),
  (36, .invokevirtual 229, 9, 1, 2, 0, []),
  (39, .aload_n 0, 0, 0, 0, 0, []),
  (40, .getfield 10, 6, 1, 0, 0, []),
  (43, .getfield 226, 2, 1, 0, 0, []),
  (46, .ireturn, 0, 0, 0, 0, [])]
theorem zk81 : zchk RX6 cX6_feed 4 true (some .int) zc81 [0, 1212, 1032, 0, 0, 2014, 0, 0, 1212, 0, 3050, 0, 1212, 0, 3050, 0, 1212, 0, 3050, 0, 1212, 1032, 0] = true := by decide +kernel
def zc82 : List zE := [(0, .iload_n 1, 1, 0, 0, 0, []),
  (1, .iconst 0, 0, 0, 0, 0, []),
  (2, .aload_n 0, 0, 0, 0, 0, []),
  (3, .getfield 10, 6, 1, 0, 0, []),
  (6, .getfield 226, 2, 1, 0, 0, []),
  (9, .invokestatic 70, 103, 3, 0, 0, []),
  (12, .ifCond .ne 6, 18, 0, 0, 0, []),
  (15, .ldc 74, 0, 0, 0, (-1000000001), []),
  (17, .ireturn, 0, 0, 0, 0, []),
  (18, .aload_n 0, 0, 0, 0, 0, []),
  (19, .getfield 10, 6, 1, 0, 0, []),
  (22, .iload_n 1, 1, 0, 0, 0, []),
  (23, .putfield 226, 2, 1, 0, 0, []),
  (26, .iload_n 1, 1, 0, 0, 0, []),
  (27, .ireturn, 0, 0, 0, 0, [])]
theorem zk82 : zchk RX6 cX6_trim 2 true (some .int) zc82 [0, 0, 0, 1212, 1032, 2012, 0, 2013, 0, 0, 1212, 0, 1032, 0, 0] = true := by decide +kernel
end
section
/-! code tables: printed by gen06.py from the bytecode -/
def zc83 : List zE := [(0, .aload_n 0, 0, 0, 0, 0, []),
  (1, .getfield 10, 6, 1, 0, 0, []),
  (4, .invokevirtual 232, 10, 0, 2, 0, []),
  (7, .istore_n 1, 1, 0, 0, 0, []),
  (8, .aload_n 0, 0, 0, 0, 0, []),
  (9, .getfield 10, 6, 1, 0, 0, []),
  (12, .iconst 0, 0, 0, 0, 0, []),
  (13, .putfield 226, 2, 1, 0, 0, []),
  (16, .iload_n 1, 1, 0, 0, 0, []),
  (17, .ifCond .lt 8, 25, 0, 0, 0, []),
  (20, .bipush (-100), 0, 0, 0, (-100), []),
  (22, .iload_n 1, 1, 0, 0, 0, []),
  (23, .isub, 0, 0, 0, 0, []),
  (24, .ireturn, 0, 0, 0, 0, []),
  (25, .aload_n 0, 0, 0, 0, 0, []),
  (26, .getfield 52, 6, 2, 0, 0, []),
  (29, .getfield 235, 5, 12, 0, 0, []),
  (32, .bipush 14, 0, 0, 0, 14, []),
  (34, .if_icmp .lt 6, 40, 0, 0, 0, []),
  (37, .ldc 78, 0, 0, 0, (-1000000003), []),
  (39, .ireturn, 0, 0, 0, 0, []),
  (40, .aload_n 0, 0, 0, 0, 0, []),
  (41, .getfield 52, 6, 2, 0, 0, []),
  (44, .getfield 235, 5, 12, 0, 0, []),
  (47, .istore_n 2, 2, 0, 0, 0, []),
  (48, .aload_n 0, 0, 0, 0, 0, []),
  (49, .getfield 43, 6, 0, 0, 0, []),
  (52, .iload_n 2, 2, 0, 0, 0, []),
  (53, .aload_n 0, 0, 0, 0, 0, []),
  (54, .getfield 10, 6, 1, 0, 0, []),
  (57, .invokevirtual 238, 6, 2, 1, 0, []),
  (60, .aload_n 0, 0, 0, 0, 0, []),
  (61, .getfield 52, 6, 2, 0, 0, []),
  (64, .getfield 219, 5, 13, 0, 0, []),
  (67, .aload_n 0, 0, 0, 0, 0, []),
  (68, .getfield 10, 6, 1, 0, 0, []),
  (71, .getfield 242, 2, 7, 0, 0, []),
  (74, .iload_n 2, 2, 0, 0, 0, []),
  (75, .iastore, 0, 0, 0, 0, []),
  (76, .aload_n 0, 0, 0, 0, 0, []),
  (77, .getfield 52, 6, 2, 0, 0, []),
  (80, .iload_n 2, 2, 0, 0, 0, []),
  (81, .iconst 1, 0, 0, 0, 1, []),
  (82, .iadd, 0, 0, 0, 0, []),
  (83, .putfield 235, 5, 12, 0, 0, []),
  (86, .iload_n 2, 2, 0, 0, 0, []),
  (87, .ireturn, 0, 0, 0, 0, [])]
theorem zk83 : zchk RX6 cX6_text 3 true (some .int) zc83 [0, 1212, 3062, 0, 0, 1212, 0, 1032, 0, 0, 0, 0, 0, 0, 0, 1213, 1129, 0, 0, 2014, 0, 0, 1213, 1129, 0, 0, 1211, 0, 0, 1212, 3197, 0, 1213, 1131, 0, 1212, 1040, 0, 0, 0, 1213, 0, 0, 0, 1129, 0, 0] = true := by decide +kernel
def zc84 : List zE := [(0, .iload_n 1, 1, 0, 0, 0, []),
  (1, .iconst 0, 0, 0, 0, 0, []),
  (2, .aload_n 0, 0, 0, 0, 0, []),
  (3, .getfield 52, 6, 2, 0, 0, []),
  (6, .getfield 235, 5, 12, 0, 0, []),
  (9, .iconst 1, 0, 0, 0, 1, []),
  (10, .isub, 0, 0, 0, 0, []),
  (11, .invokestatic 70, 103, 3, 0, 0, []),
  (14, .ifCond .ne 6, 20, 0, 0, 0, []),
  (17, .ldc 74, 0, 0, 0, (-1000000001), []),
  (19, .ireturn, 0, 0, 0, 0, []),
  (20, .iload_n 2, 2, 0, 0, 0, []),
  (21, .lookupswitch 47 #[(0, 27), (1, 37)], 68, 27, 0, 0, [(0, 48), (1, 58)]),
  (48, .aload_n 0, 0, 0, 0, 0, []),
  (49, .getfield 43, 6, 0, 0, 0, []),
  (52, .getfield 245, 1, 0, 0, 0, []),
  (55, .iload_n 1, 1, 0, 0, 0, []),
  (56, .iaload, 0, 0, 0, 0, []),
  (57, .ireturn, 0, 0, 0, 0, []),
  (58, .aload_n 0, 0, 0, 0, 0, []),
  (59, .getfield 43, 6, 0, 0, 0, []),
  (62, .getfield 247, 1, 1, 0, 0, []),
  (65, .iload_n 1, 1, 0, 0, 0, []),
  (66, .iaload, 0, 0, 0, 0, []),
  (67, .ireturn, 0, 0, 0, 0, []),
  (68, .ldc 74, 0, 0, 0, (-1000000001), []),
  (70, .ireturn, 0, 0, 0, 0, [])]
theorem zk84 : zchk RX6 cX6_textTold 3 true (some .int) zc84 [0, 0, 0, 1213, 1129, 0, 0, 2012, 0, 2013, 0, 0, 0, 0, 1211, 1082, 0, 0, 0, 0, 1211, 1084, 0, 0, 0, 2013, 0] = true := by decide +kernel
def zc85 : List zE := [(0, .iload_n 1, 1, 0, 0, 0, []),
  (1, .iconst 0, 0, 0, 0, 0, []),
  (2, .iconst 2, 0, 0, 0, 2, []),
  (3, .invokestatic 70, 103, 3, 0, 0, []),
  (6, .ifCond .ne 6, 12, 0, 0, 0, []),
  (9, .ldc 74, 0, 0, 0, (-1000000001), []),
  (11, .ireturn, 0, 0, 0, 0, []),
  (12, .aload_n 0, 0, 0, 0, 0, []),
  (13, .getfield 52, 6, 2, 0, 0, []),
  (16, .getfield 219, 5, 13, 0, 0, []),
  (19, .iload_n 1, 1, 0, 0, 0, []),
  (20, .iaload, 0, 0, 0, 0, []),
  (21, .ifCond .ge 8, 29, 0, 0, 0, []),
  (24, .ldc 174, 0, 0, 0, (-1000000005), []),
  (26, .goto 12, 38, 0, 0, 0, []),
  (29, .aload_n 0, 0, 0, 0, 0, []),
  (30, .getfield 52, 6, 2, 0, 0, []),
  (33, .getfield 219, 5, 13, 0, 0, []),
  (36, .iload_n 1, 1, 0, 0, 0, []),
  (37, .iaload, 0, 0, 0, 0, []),
  (38, .ireturn, 0, 0, 0, 0, [])]
theorem zk85 : zchk RX6 cX6_why 2 true (some .int) zc85 [0, 0, 0, 2012, 0, 2013, 0, 0, 1213, 1131, 0, 0, 0, 2197, 0, 0, 1213, 1131, 0, 0, 0] = true := by decide +kernel
def zc86 : List zE := [(0, .aload_n 0, 0, 0, 0, 0, []),
  (1, .iload_n 1, 1, 0, 0, 0, []),
  (2, .invokevirtual 195, 95, 1, 6, 0, []),
  (5, .astore 4, 4, 0, 0, 0, []),
  (7, .aload 4, 4, 0, 0, 0, []),
  (9, .ifnull 12, 21, 0, 0, 0, []),
  (12, .iload_n 2, 2, 0, 0, 0, []),
  (13, .iconst (-1), 0, 0, 0, (-1), []),
  (14, .iconst 1, 0, 0, 0, 1, []),
  (15, .invokestatic 70, 103, 3, 0, 0, []),
  (18, .ifCond .ne 6, 24, 0, 0, 0, []),
  (21, .ldc 74, 0, 0, 0, (-1000000001), []),
  (23, .ireturn, 0, 0, 0, 0, []),
  (24, .iload_n 2, 2, 0, 0, 0, []),
  (25, .iconst (-1), 0, 0, 0, (-1), []),
  (26, .if_icmp .ne 12, 38, 0, 0, 0, []),
  (29, .aload 4, 4, 0, 0, 0, []),
  (31, .iload_n 2, 2, 0, 0, 0, []),
  (32, .iconst 0, 0, 0, 0, 0, []),
  (33, .invokevirtual 250, 30, 2, 3, 0, []),
  (36, .iconst 0, 0, 0, 0, 0, []),
  (37, .ireturn, 0, 0, 0, 0, []),
  (38, .iload_n 3, 3, 0, 0, 0, []),
  (39, .bipush 24, 0, 0, 0, 24, []),
  (41, .if_icmp .le 6, 47, 0, 0, 0, []),
  (44, .ldc 74, 0, 0, 0, (-1000000001), []),
  (46, .ireturn, 0, 0, 0, 0, []),
  (47, .iload_n 3, 3, 0, 0, 0, []),
  (48, .ifCond .ge 6, 54, 0, 0, 0, []),
  (51, .ldc 254, 0, 0, 0, (-1000000014), []),
  (53, .ireturn, 0, 0, 0, 0, []),
  (54, .aload 4, 4, 0, 0, 0, []),
  (56, .iload_n 2, 2, 0, 0, 0, []),
  (57, .iload_n 3, 3, 0, 0, 0, []),
  (58, .invokevirtual 250, 30, 2, 3, 0, []),
  (61, .iload_n 3, 3, 0, 0, 0, []),
  (62, .ireturn, 0, 0, 0, 0, [])]
theorem zk86 : zchk RX6 cX6_sheet 5 true (some .int) zc86 [0, 0, 3017, 0, 0, 0, 0, 0, 0, 2012, 0, 2013, 0, 0, 0, 0, 0, 0, 0, 3215, 0, 0, 0, 0, 0, 2013, 0, 0, 0, 3220, 0, 0, 0, 0, 3215, 0, 0] = true := by decide +kernel
def zc87 : List zE := [(0, .aload_n 0, 0, 0, 0, 0, []),
  (1, .iload_n 1, 1, 0, 0, 0, []),
  (2, .invokevirtual 195, 95, 1, 6, 0, []),
  (5, .astore 4, 4, 0, 0, 0, []),
  (7, .aload 4, 4, 0, 0, 0, []),
  (9, .ifnonnull 6, 15, 0, 0, 0, []),
  (12, .ldc 74, 0, 0, 0, (-1000000001), []),
  (14, .ireturn, 0, 0, 0, 0, []),
  (15, .aload 4, 4, 0, 0, 0, []),
  (17, .invokevirtual 199, 32, 0, 3, 0, []),
  (20, .ifCond .eq 6, 26, 0, 0, 0, []),
  (23, .ldc 202, 0, 0, 0, (-1000000011), []),
  (25, .ireturn, 0, 0, 0, 0, []),
  (26, .aload 4, 4, 0, 0, 0, []),
  (28, .iload_n 2, 2, 0, 0, 0, []),
  (29, .invokevirtual 255, 33, 1, 3, 0, []),
  (32, .ifCond .ne 7, 39, 0, 0, 0, []),
  (35, .ldc_w 258, 0, 0, 0, (-1000000013), []),
  (38, .ireturn, 0, 0, 0, 0, []),
  (39, .aload 4, 4, 0, 0, 0, []),
  (41, .getfield 259, 3, 0, 0, 0, []),
  (44, .ifCond .ne 23, 67, 0, 0, 0, []),
  (47, .iload_n 3, 3, 0, 0, 0, []),
  (48, .ldc 174, 0, 0, 0, (-1000000005), []),
  (50, .if_icmp .ne 6, 56, 0, 0, 0, []),
  (53, .ldc 119, 0, 0, 0, (-1000000012), []),
  (55, .ireturn, 0, 0, 0, 0, []),
  (56, .aload 4, 4, 0, 0, 0, []),
  (58, .getfield 213, 3, 2, 0, 0, []),
  (61, .iload_n 2, 2, 0, 0, 0, []),
  (62, .iload_n 3, 3, 0, 0, 0, []),
  (63, .i2s, 0, 0, 0, 0, []),
  (64, .iastore, 0, 0, 0, 0, []),
  (65, .iconst 1, 0, 0, 0, 1, []),
  (66, .ireturn, 0, 0, 0, 0, []),
  (67, .iload_n 3, 3, 0, 0, 0, []),
  (68, .ldc 174, 0, 0, 0, (-1000000005), []),
  (70, .if_icmp .ne 15, 85, 0, 0, 0, []),
  (73, .aload 4, 4, 0, 0, 0, []),
  (75, .getfield 213, 3, 2, 0, 0, []),
  (78, .iload_n 2, 2, 0, 0, 0, []),
  (79, .ldc_w 262, 0, 0, 0, (-2147483648), []),
  (82, .iastore, 0, 0, 0, 0, []),
  (83, .iconst 1, 0, 0, 0, 1, []),
  (84, .ireturn, 0, 0, 0, 0, []),
  (85, .iload_n 3, 3, 0, 0, 0, []),
  (86, .ldc_w 263, 0, 0, 0, (-99999), []),
  (89, .ldc_w 264, 0, 0, 0, 99999, []),
  (92, .invokestatic 70, 103, 3, 0, 0, []),
  (95, .ifCond .ne 6, 101, 0, 0, 0, []),
  (98, .ldc 74, 0, 0, 0, (-1000000001), []),
  (100, .ireturn, 0, 0, 0, 0, []),
  (101, .aload 4, 4, 0, 0, 0, []),
  (103, .getfield 213, 3, 2, 0, 0, []),
  (106, .iload_n 2, 2, 0, 0, 0, []),
  (107, .iload_n 3, 3, 0, 0, 0, []),
  (108, .iastore, 0, 0, 0, 0, []),
  (109, .iconst 1, 0, 0, 0, 1, []),
  (110, .ireturn, 0, 0, 0, 0, [])]
theorem zk87 : zchk RX6 cX6_mark 5 true (some .int) zc87 [0, 0, 3017, 0, 0, 0, 2013, 0, 0, 3021, 0, 3025, 0, 0, 0, 3225, 0, 3226, 0, 0, 1171, 0, 0, 2197, 0, 2074, 0, 0, 1175, 0, 0, 0, 0, 0, 0, 0, 2197, 0, 0, 1175, 0, 3227, 0, 0, 0, 0, 3228, 3229, 2012, 0, 2013, 0, 0, 1175, 0, 0, 0, 0, 0] = true := by decide +kernel
def zc88 : List zE := [(0, .aload_n 0, 0, 0, 0, 0, []),
  (1, .iload_n 1, 1, 0, 0, 0, []),
  (2, .invokevirtual 195, 95, 1, 6, 0, []),
  (5, .astore_n 2, 2, 0, 0, 0, []),
  (6, .aload_n 2, 2, 0, 0, 0, []),
  (7, .ifnonnull 6, 13, 0, 0, 0, []),
  (10, .ldc 74, 0, 0, 0, (-1000000001), []),
  (12, .ireturn, 0, 0, 0, 0, []),
  (13, .aload_n 2, 2, 0, 0, 0, []),
  (14, .invokevirtual 199, 32, 0, 3, 0, []),
  (17, .ifCond .eq 6, 23, 0, 0, 0, []),
  (20, .ldc 202, 0, 0, 0, (-1000000011), []),
  (22, .ireturn, 0, 0, 0, 0, []),
  (23, .iconst 0, 0, 0, 0, 0, []),
  (24, .istore_n 3, 3, 0, 0, 0, []),
  (25, .iconst 0, 0, 0, 0, 0, []),
  (26, .istore 4, 4, 0, 0, 0, []),
  (28, .iload 4, 4, 0, 0, 0, []),
  (30, .aload_n 0, 0, 0, 0, 0, []),
  (31, .getfield 52, 6, 2, 0, 0, []),
  (34, .getfield 75, 5, 1, 0, 0, []),
  (37, .if_icmp .ge 72, 109, 0, 0, 0, []),
  (40, .iload 4, 4, 0, 0, 0, []),
  (42, .aload_n 2, 2, 0, 0, 0, []),
  (43, .getfield 207, 3, 1, 0, 0, []),
  (46, .if_icmp .ge 63, 109, 0, 0, 0, []),
  (49, .aload_n 2, 2, 0, 0, 0, []),
  (50, .iload 4, 4, 0, 0, 0, []),
  (52, .invokevirtual 210, 35, 1, 3, 0, []),
  (55, .ifCond .eq 48, 103, 0, 0, 0, []),
  (58, .aload_n 2, 2, 0, 0, 0, []),
  (59, .getfield 213, 3, 2, 0, 0, []),
  (62, .iload 4, 4, 0, 0, 0, []),
  (64, .iaload, 0, 0, 0, 0, []),
  (65, .iconst 1, 0, 0, 0, 1, []),
  (66, .bipush 99, 0, 0, 0, 99, []),
  (68, .invokestatic 265, 104, 3, 0, 0, []),
  (71, .istore 5, 5, 0, 0, 0, []),
  (73, .iload 5, 5, 0, 0, 0, []),
  (75, .aload_n 0, 0, 0, 0, 0, []),
  (76, .getfield 52, 6, 2, 0, 0, []),
  (79, .getfield 89, 5, 3, 0, 0, []),
  (82, .iload 4, 4, 0, 0, 0, []),
  (84, .iaload, 0, 0, 0, 0, []),
  (85, .if_icmp .eq 6, 91, 0, 0, 0, []),
  (88, .iinc 3 1, 3, 0, 0, 1, []),
  (91, .aload_n 0, 0, 0, 0, 0, []),
  (92, .getfield 52, 6, 2, 0, 0, []),
  (95, .getfield 89, 5, 3, 0, 0, []),
  (98, .iload 4, 4, 0, 0, 0, []),
  (100, .iload 5, 5, 0, 0, 0, []),
  (102, .iastore, 0, 0, 0, 0, []),
  (103, .iinc 4 1, 4, 0, 0, 1, []),
  (106, .goto (-78), 28, 0, 0, 0, []),
  (109, .iload_n 3, 3, 0, 0, 0, []),
  (110, .ireturn, 0, 0, 0, 0, [])]
theorem zk88 : zchk RX6 cX6_pour 6 true (some .int) zc88 [0, 0, 3017, 0, 0, 0, 2013, 0, 0, 3021, 0, 3025, 0, 0, 0, 0, 0, 0, 0, 1213, 1107, 0, 0, 0, 1173, 0, 0, 0, 3030, 0, 0, 1175, 0, 0, 0, 0, 3234, 0, 0, 0, 1213, 1111, 0, 0, 0, 0, 0, 1213, 1111, 0, 0, 0, 0, 0, 0, 0] = true := by decide +kernel
def zc89 : List zE := [(0, .aload_n 0, 0, 0, 0, 0, []),
  (1, .iload_n 1, 1, 0, 0, 0, []),
  (2, .invokevirtual 195, 95, 1, 6, 0, []),
  (5, .astore_n 2, 2, 0, 0, 0, []),
  (6, .aload_n 2, 2, 0, 0, 0, []),
  (7, .ifnonnull 6, 13, 0, 0, 0, []),
  (10, .ldc 74, 0, 0, 0, (-1000000001), []),
  (12, .ireturn, 0, 0, 0, 0, []),
  (13, .aload_n 2, 2, 0, 0, 0, []),
  (14, .invokevirtual 199, 32, 0, 3, 0, []),
  (17, .ifCond .eq 6, 23, 0, 0, 0, []),
  (20, .ldc 202, 0, 0, 0, (-1000000011), []),
  (22, .ireturn, 0, 0, 0, 0, []),
  (23, .iconst 0, 0, 0, 0, 0, []),
  (24, .istore_n 3, 3, 0, 0, 0, []),
  (25, .iload_n 3, 3, 0, 0, 0, []),
  (26, .aload_n 2, 2, 0, 0, 0, []),
  (27, .getfield 207, 3, 1, 0, 0, []),
  (30, .if_icmp .ge 48, 78, 0, 0, 0, []),
  (33, .aload_n 2, 2, 0, 0, 0, []),
  (34, .iload_n 3, 3, 0, 0, 0, []),
  (35, .invokevirtual 210, 35, 1, 3, 0, []),
  (38, .ifCond .eq 34, 72, 0, 0, 0, []),
  (41, .aload_n 0, 0, 0, 0, 0, []),
  (42, .getfield 52, 6, 2, 0, 0, []),
  (45, .iload_n 3, 3, 0, 0, 0, []),
  (46, .invokevirtual 83, 37, 1, 5, 0, []),
  (49, .ifCond .eq 21, 70, 0, 0, 0, []),
  (52, .aload_n 0, 0, 0, 0, 0, []),
  (53, .getfield 52, 6, 2, 0, 0, []),
  (56, .getfield 95, 5, 5, 0, 0, []),
  (59, .iload_n 3, 3, 0, 0, 0, []),
  (60, .iaload, 0, 0, 0, 0, []),
  (61, .aload_n 2, 2, 0, 0, 0, []),
  (62, .getfield 213, 3, 2, 0, 0, []),
  (65, .iload_n 3, 3, 0, 0, 0, []),
  (66, .iaload, 0, 0, 0, 0, []),
  (67, .if_icmp .eq 5, 72, 0, 0, 0, []),
  (70, .iload_n 3, 3, 0, 0, 0, []),
  (71, .ireturn, 0, 0, 0, 0, []),
  (72, .iinc 3 1, 3, 0, 0, 1, []),
  (75, .goto (-50), 25, 0, 0, 0, []),
  (78, .ldc 174, 0, 0, 0, (-1000000005), []),
  (80, .ireturn, 0, 0, 0, 0, [])]
theorem zk89 : zchk RX6 cX6_reads 4 true (some .int) zc89 [0, 0, 3017, 0, 0, 0, 2013, 0, 0, 3021, 0, 3025, 0, 0, 0, 0, 0, 1173, 0, 0, 0, 3030, 0, 0, 1213, 0, 2025, 0, 0, 1213, 1115, 0, 0, 0, 1175, 0, 0, 0, 0, 0, 0, 0, 2197, 0] = true := by decide +kernel
def zc90 : List zE := [(0, .aload_n 0, 0, 0, 0, 0, []),
  (1, .iload_n 1, 1, 0, 0, 0, []),
  (2, .invokevirtual 195, 95, 1, 6, 0, []),
  (5, .astore 6, 6, 0, 0, 0, []),
  (7, .aload_n 0, 0, 0, 0, 0, []),
  (8, .iload_n 3, 3, 0, 0, 0, []),
  (9, .invokevirtual 195, 95, 1, 6, 0, []),
  (12, .astore 7, 7, 0, 0, 0, []),
  (14, .aload 6, 6, 0, 0, 0, []),
  (16, .ifnull 8, 24, 0, 0, 0, []),
  (19, .aload 7, 7, 0, 0, 0, []),
  (21, .ifnonnull 6, 27, 0, 0, 0, []),
  (24, .ldc 74, 0, 0, 0, (-1000000001), []),
  (26, .ireturn, 0, 0, 0, 0, []),
  (27, .aload 6, 6, 0, 0, 0, []),
  (29, .invokevirtual 199, 32, 0, 3, 0, []),
  (32, .ifCond .ne 11, 43, 0, 0, 0, []),
  (35, .aload 7, 7, 0, 0, 0, []),
  (37, .invokevirtual 199, 32, 0, 3, 0, []),
  (40, .ifCond .eq 6, 46, 0, 0, 0, []),
  (43, .ldc 202, 0, 0, 0, (-1000000011), []),
  (45, .ireturn, 0, 0, 0, 0, []),
  (46, .aload 6, 6, 0, 0, 0, []),
  (48, .getfield 259, 3, 0, 0, 0, []),
  (51, .aload 7, 7, 0, 0, 0, []),
  (53, .getfield 259, 3, 0, 0, 0, []),
  (56, .if_icmp .eq 6, 62, 0, 0, 0, []),
  (59, .ldc 119, 0, 0, 0, (-1000000012), []),
  (61, .ireturn, 0, 0, 0, 0, []),
  (62, .aload 6, 6, 0, 0, 0, []),
  (64, .iload_n 2, 2, 0, 0, 0, []),
  (65, .iload 5, 5, 0, 0, 0, []),
  (67, .invokevirtual 268, 34, 2, 3, 0, []),
  (70, .ifCond .eq 15, 85, 0, 0, 0, []),
  (73, .aload 7, 7, 0, 0, 0, []),
  (75, .iload 4, 4, 0, 0, 0, []),
  (77, .iload 5, 5, 0, 0, 0, []),
  (79, .invokevirtual 268, 34, 2, 3, 0, []),
  (82, .ifCond .ne 7, 89, 0, 0, 0, []),
  (85, .ldc_w 258, 0, 0, 0, (-1000000013), []),
  (88, .ireturn, 0, 0, 0, 0, []),
  (89, .aload 6, 6, 0, 0, 0, []),
  (91, .getfield 213, 3, 2, 0, 0, []),
  (94, .iload_n 2, 2, 0, 0, 0, []),
  (95, .aload 7, 7, 0, 0, 0, []),
  (97, .getfield 213, 3, 2, 0, 0, []),
  (100, .iload 4, 4, 0, 0, 0, []),
  (102, .iload 5, 5, 0, 0, 0, []),
  (104, .invokestatic 271, 1003, 5, 0, 0, []),
  (107, .iload 5, 5, 0, 0, 0, []),
  (109, .ireturn, 0, 0, 0, 0, [])]
theorem zk90 : zchk RX6 cX6_copy 8 true (some .int) zc90 [0, 0, 3017, 0, 0, 0, 3017, 0, 0, 0, 0, 0, 2013, 0, 0, 3021, 0, 0, 3021, 0, 3025, 0, 0, 1171, 0, 1171, 0, 2074, 0, 0, 0, 0, 4003, 0, 0, 0, 0, 4003, 0, 3226, 0, 0, 1175, 0, 0, 1175, 0, 0, 4007, 0, 0] = true := by decide +kernel
def zc91 : List zE := [(0, .aload_n 0, 0, 0, 0, 0, []),
  (1, .iload_n 1, 1, 0, 0, 0, []),
  (2, .invokevirtual 277, 96, 1, 6, 0, []),
  (5, .astore 4, 4, 0, 0, 0, []),
  (7, .aload 4, 4, 0, 0, 0, []),
  (9, .ifnull 12, 21, 0, 0, 0, []),
  (12, .iload_n 2, 2, 0, 0, 0, []),
  (13, .iconst 0, 0, 0, 0, 0, []),
  (14, .iconst 3, 0, 0, 0, 3, []),
  (15, .invokestatic 70, 103, 3, 0, 0, []),
  (18, .ifCond .ne 6, 24, 0, 0, 0, []),
  (21, .ldc 74, 0, 0, 0, (-1000000001), []),
  (23, .ireturn, 0, 0, 0, 0, []),
  (24, .iload_n 2, 2, 0, 0, 0, []),
  (25, .iconst 1, 0, 0, 0, 1, []),
  (26, .if_icmp .ne 45, 71, 0, 0, 0, []),
  (29, .aload_n 0, 0, 0, 0, 0, []),
  (30, .getfield 52, 6, 2, 0, 0, []),
  (33, .iload_n 3, 3, 0, 0, 0, []),
  (34, .invokevirtual 83, 37, 1, 5, 0, []),
  (37, .ifCond .ne 6, 43, 0, 0, 0, []),
  (40, .ldc 74, 0, 0, 0, (-1000000001), []),
  (42, .ireturn, 0, 0, 0, 0, []),
  (43, .aload 4, 4, 0, 0, 0, []),
  (45, .aload_n 0, 0, 0, 0, 0, []),
  (46, .getfield 52, 6, 2, 0, 0, []),
  (49, .getfield 86, 5, 2, 0, 0, []),
  (52, .iload_n 3, 3, 0, 0, 0, []),
  (53, .iaload, 0, 0, 0, 0, []),
  (54, .putfield 281, 4, 1, 0, 0, []),
  (57, .aload 4, 4, 0, 0, 0, []),
  (59, .aload_n 0, 0, 0, 0, 0, []),
  (60, .getfield 52, 6, 2, 0, 0, []),
  (63, .getfield 89, 5, 3, 0, 0, []),
  (66, .iload_n 3, 3, 0, 0, 0, []),
  (67, .iaload, 0, 0, 0, 0, []),
  (68, .putfield 283, 4, 2, 0, 0, []),
  (71, .iload_n 2, 2, 0, 0, 0, []),
  (72, .iconst 2, 0, 0, 0, 2, []),
  (73, .if_icmp .ne 39, 112, 0, 0, 0, []),
  (76, .aload_n 0, 0, 0, 0, 0, []),
  (77, .iload_n 3, 3, 0, 0, 0, []),
  (78, .invokevirtual 195, 95, 1, 6, 0, []),
  (81, .astore 5, 5, 0, 0, 0, []),
  (83, .aload 5, 5, 0, 0, 0, []),
  (85, .ifnonnull 6, 91, 0, 0, 0, []),
  (88, .ldc 74, 0, 0, 0, (-1000000001), []),
  (90, .ireturn, 0, 0, 0, 0, []),
  (91, .aload 5, 5, 0, 0, 0, []),
  (93, .invokevirtual 199, 32, 0, 3, 0, []),
  (96, .ifCond .eq 6, 102, 0, 0, 0, []),
  (99, .ldc 202, 0, 0, 0, (-1000000011), []),
  (101, .ireturn, 0, 0, 0, 0, []),
  (102, .aload 4, 4, 0, 0, 0, []),
  (104, .getfield 285, 4, 4, 0, 0, []),
  (107, .aload 5, 5, 0, 0, 0, []),
  (109, .invokevirtual 289, 31, 1, 3, 0, []),
  (112, .iload_n 2, 2, 0, 0, 0, []),
  (113, .iconst 3, 0, 0, 0, 3, []),
  (114, .if_icmp .ne 9, 123, 0, 0, 0, []),
  (117, .aload 4, 4, 0, 0, 0, []),
  (119, .iload_n 3, 3, 0, 0, 0, []),
  (120, .putfield 292, 4, 3, 0, 0, []),
  (123, .aload 4, 4, 0, 0, 0, []),
  (125, .getfield 295, 4, 0, 0, 0, []),
  (128, .istore 5, 5, 0, 0, 0, []),
  (130, .aload 4, 4, 0, 0, 0, []),
  (132, .iload_n 2, 2, 0, 0, 0, []),
  (133, .putfield 295, 4, 0, 0, 0, []),
  (136, .iload 5, 5, 0, 0, 0, []),
  (138, .ireturn, 0, 0, 0, 0, [])]
theorem zk91 : zchk RX6 cX6_lay 6 true (some .int) zc91 [0, 0, 4012, 0, 0, 0, 0, 0, 0, 2012, 0, 2013, 0, 0, 0, 0, 0, 1213, 0, 2025, 0, 2013, 0, 0, 0, 1213, 1109, 0, 0, 1193, 0, 0, 1213, 1111, 0, 0, 1195, 0, 0, 0, 0, 0, 3017, 0, 0, 0, 2013, 0, 0, 3021, 0, 3025, 0, 0, 1199, 0, 4016, 0, 0, 0, 0, 0, 1197, 0, 1191, 0, 0, 0, 1191, 0, 0] = true := by decide +kernel
def zc92 : List zE := [(0, .aload_n 0, 0, 0, 0, 0, []),
  (1, .iload_n 1, 1, 0, 0, 0, []),
  (2, .invokevirtual 277, 96, 1, 6, 0, []),
  (5, .astore_n 3, 3, 0, 0, 0, []),
  (6, .aload_n 3, 3, 0, 0, 0, []),
  (7, .ifnull 10, 17, 0, 0, 0, []),
  (10, .iload_n 2, 2, 0, 0, 0, []),
  (11, .invokestatic 64, 0, 1, 0, 0, []),
  (14, .ifCond .ne 6, 20, 0, 0, 0, []),
  (17, .ldc 74, 0, 0, 0, (-1000000001), []),
  (19, .ireturn, 0, 0, 0, 0, []),
  (20, .aload_n 3, 3, 0, 0, 0, []),
  (21, .getfield 295, 4, 0, 0, 0, []),
  (24, .ifCond .ne 6, 30, 0, 0, 0, []),
  (27, .ldc 202, 0, 0, 0, (-1000000011), []),
  (29, .ireturn, 0, 0, 0, 0, []),
  (30, .aload_n 3, 3, 0, 0, 0, []),
  (31, .getfield 295, 4, 0, 0, 0, []),
  (34, .iconst 1, 0, 0, 0, 1, []),
  (35, .if_icmp .ne 14, 49, 0, 0, 0, []),
  (38, .aload_n 3, 3, 0, 0, 0, []),
  (39, .getfield 281, 4, 1, 0, 0, []),
  (42, .iload_n 2, 2, 0, 0, 0, []),
  (43, .invokestatic 115, 1, 2, 0, 0, []),
  (46, .ifCond .ne 6, 52, 0, 0, 0, []),
  (49, .ldc 119, 0, 0, 0, (-1000000012), []),
  (51, .ireturn, 0, 0, 0, 0, []),
  (52, .aload_n 3, 3, 0, 0, 0, []),
  (53, .getfield 281, 4, 1, 0, 0, []),
  (56, .aload_n 3, 3, 0, 0, 0, []),
  (57, .getfield 283, 4, 2, 0, 0, []),
  (60, .invokestatic 112, 5, 2, 0, 0, []),
  (63, .ireturn, 0, 0, 0, 0, [])]
theorem zk92 : zchk RX6 cX6_ask 4 true (some .int) zc92 [0, 0, 4012, 0, 0, 0, 0, 2006, 0, 2013, 0, 0, 1191, 0, 3025, 0, 0, 1191, 0, 0, 0, 1193, 0, 2068, 0, 2074, 0, 0, 1193, 0, 1195, 2061, 0] = true := by decide +kernel
def zc93 : List zE := [(0, .aload_n 0, 0, 0, 0, 0, []),
  (1, .iload_n 1, 1, 0, 0, 0, []),
  (2, .invokevirtual 277, 96, 1, 6, 0, []),
  (5, .astore_n 3, 3, 0, 0, 0, []),
  (6, .aload_n 3, 3, 0, 0, 0, []),
  (7, .ifnonnull 6, 13, 0, 0, 0, []),
  (10, .ldc 74, 0, 0, 0, (-1000000001), []),
  (12, .ireturn, 0, 0, 0, 0, []),
  (13, .aload_n 3, 3, 0, 0, 0, []),
  (14, .getfield 295, 4, 0, 0, 0, []),
  (17, .ifCond .ne 6, 23, 0, 0, 0, []),
  (20, .ldc 202, 0, 0, 0, (-1000000011), []),
  (22, .ireturn, 0, 0, 0, 0, []),
  (23, .aload_n 3, 3, 0, 0, 0, []),
  (24, .getfield 295, 4, 0, 0, 0, []),
  (27, .iconst 2, 0, 0, 0, 2, []),
  (28, .if_icmp .eq 6, 34, 0, 0, 0, []),
  (31, .ldc 119, 0, 0, 0, (-1000000012), []),
  (33, .ireturn, 0, 0, 0, 0, []),
  (34, .aload_n 3, 3, 0, 0, 0, []),
  (35, .getfield 285, 4, 4, 0, 0, []),
  (38, .iload_n 2, 2, 0, 0, 0, []),
  (39, .invokevirtual 255, 33, 1, 3, 0, []),
  (42, .ifCond .ne 7, 49, 0, 0, 0, []),
  (45, .ldc_w 258, 0, 0, 0, (-1000000013), []),
  (48, .ireturn, 0, 0, 0, 0, []),
  (49, .aload_n 3, 3, 0, 0, 0, []),
  (50, .getfield 285, 4, 4, 0, 0, []),
  (53, .iload_n 2, 2, 0, 0, 0, []),
  (54, .invokevirtual 210, 35, 1, 3, 0, []),
  (57, .ifCond .eq 15, 72, 0, 0, 0, []),
  (60, .aload_n 3, 3, 0, 0, 0, []),
  (61, .getfield 285, 4, 4, 0, 0, []),
  (64, .getfield 213, 3, 2, 0, 0, []),
  (67, .iload_n 2, 2, 0, 0, 0, []),
  (68, .iaload, 0, 0, 0, 0, []),
  (69, .goto 5, 74, 0, 0, 0, []),
  (72, .ldc 119, 0, 0, 0, (-1000000012), []),
  (74, .ireturn, 0, 0, 0, 0, [])]
theorem zk93 : zchk RX6 cX6_item 4 true (some .int) zc93 [0, 0, 4012, 0, 0, 0, 2013, 0, 0, 1191, 0, 3025, 0, 0, 1191, 0, 0, 2074, 0, 0, 1199, 0, 3225, 0, 3226, 0, 0, 1199, 0, 3030, 0, 0, 1199, 1175, 0, 0, 0, 2074, 0] = true := by decide +kernel
def zc94 : List zE := [(0, .aload_n 0, 0, 0, 0, 0, []),
  (1, .iload_n 1, 1, 0, 0, 0, []),
  (2, .invokevirtual 277, 96, 1, 6, 0, []),
  (5, .astore_n 3, 3, 0, 0, 0, []),
  (6, .aload_n 3, 3, 0, 0, 0, []),
  (7, .ifnonnull 6, 13, 0, 0, 0, []),
  (10, .ldc 74, 0, 0, 0, (-1000000001), []),
  (12, .ireturn, 0, 0, 0, 0, []),
  (13, .aload_n 3, 3, 0, 0, 0, []),
  (14, .getfield 295, 4, 0, 0, 0, []),
  (17, .ifCond .ne 6, 23, 0, 0, 0, []),
  (20, .ldc 202, 0, 0, 0, (-1000000011), []),
  (22, .ireturn, 0, 0, 0, 0, []),
  (23, .aload_n 3, 3, 0, 0, 0, []),
  (24, .getfield 295, 4, 0, 0, 0, []),
  (27, .iconst 3, 0, 0, 0, 3, []),
  (28, .if_icmp .eq 6, 34, 0, 0, 0, []),
  (31, .ldc 119, 0, 0, 0, (-1000000012), []),
  (33, .ireturn, 0, 0, 0, 0, []),
  (34, .iload_n 2, 2, 0, 0, 0, []),
  (35, .ifCond .ne 9, 44, 0, 0, 0, []),
  (38, .ldc_w 298, 0, 0, 0, (-1000000002), []),
  (41, .goto 9, 50, 0, 0, 0, []),
  (44, .aload_n 3, 3, 0, 0, 0, []),
  (45, .getfield 292, 4, 3, 0, 0, []),
  (48, .iload_n 2, 2, 0, 0, 0, []),
  (49, .irem, 0, 0, 0, 0, []),
  (50, .ireturn, 0, 0, 0, 0, [])]
theorem zk94 : zchk RX6 cX6_rest 4 true (some .int) zc94 [0, 0, 4012, 0, 0, 0, 2013, 0, 0, 1191, 0, 3025, 0, 0, 1191, 0, 0, 2074, 0, 0, 0, 4033, 0, 0, 1197, 0, 0, 0] = true := by decide +kernel
def zc95 : List zE := [(0, .iload_n 1, 1, 0, 0, 0, []),
  (1, .iconst 0, 0, 0, 0, 0, []),
  (2, .iconst 3, 0, 0, 0, 3, []),
  (3, .invokestatic 70, 103, 3, 0, 0, []),
  (6, .ifCond .eq 12, 18, 0, 0, 0, []),
  (9, .aload_n 0, 0, 0, 0, 0, []),
  (10, .getfield 22, 6, 6, 0, 0, []),
  (13, .iload_n 1, 1, 0, 0, 0, []),
  (14, .aaload, 0, 0, 0, 0, []),
  (15, .goto 4, 19, 0, 0, 0, []),
  (18, .aconst_null, 0, 0, 0, 0, []),
  (19, .areturn, 0, 0, 0, 0, [])]
theorem zk95 : zchk RX6 cX6_sheetAt 2 true (some (.object "RopeFerry$Sheet")) zc95 [0, 0, 0, 2012, 0, 0, 1217, 0, 0, 0, 0, 0] = true := by decide +kernel
def zc96 : List zE := [(0, .iload_n 1, 1, 0, 0, 0, []),
  (1, .iconst 0, 0, 0, 0, 0, []),
  (2, .iconst 4, 0, 0, 0, 4, []),
  (3, .invokestatic 70, 103, 3, 0, 0, []),
  (6, .ifCond .eq 12, 18, 0, 0, 0, []),
  (9, .aload_n 0, 0, 0, 0, 0, []),
  (10, .getfield 28, 6, 7, 0, 0, []),
  (13, .iload_n 1, 1, 0, 0, 0, []),
  (14, .aaload, 0, 0, 0, 0, []),
  (15, .goto 4, 19, 0, 0, 0, []),
  (18, .aconst_null, 0, 0, 0, 0, []),
  (19, .areturn, 0, 0, 0, 0, [])]
theorem zk96 : zchk RX6 cX6_slotAt 2 true (some (.object "RopeFerry$Slot")) zc96 [0, 0, 0, 2012, 0, 0, 1218, 0, 0, 0, 0, 0] = true := by decide +kernel
def zc97 : List zE := [(0, .aload_n 0, 0, 0, 0, 0, []),
  (1, .getfield 36, 6, 9, 0, 0, []),
  (4, .bipush 60, 0, 0, 0, 60, []),
  (6, .if_icmp .lt 6, 12, 0, 0, 0, []),
  (9, .ldc 78, 0, 0, 0, (-1000000003), []),
  (11, .ireturn, 0, 0, 0, 0, []),
  (12, .aload_n 0, 0, 0, 0, 0, []),
  (13, .getfield 32, 6, 8, 0, 0, []),
  (16, .aload_n 0, 0, 0, 0, 0, []),
  (17, .getfield 36, 6, 9, 0, 0, []),
  (20, .iload_n 1, 1, 0, 0, 0, []),
  (21, .iastore, 0, 0, 0, 0, []),
  (22, .aload_n 0, 0, 0, 0, 0, []),
  (23, .dup, 0, 0, 0, 0, []),
  (24, .getfield 36, 6, 9, 0, 0, []),
  (27, .iconst 1, 0, 0, 0, 1, []),
  (28, .iadd, 0, 0, 0, 0, []),
  (29, .putfield 36, 6, 9, 0, 0, []),
  (32, .aload_n 0, 0, 0, 0, 0, []),
  (33, .getfield 36, 6, 9, 0, 0, []),
  (36, .ireturn, 0, 0, 0, 0, [])]
theorem zk97 : zchk RX6 cX6_tell 2 true (some .int) zc97 [0, 1220, 0, 0, 2014, 0, 0, 1219, 0, 1220, 0, 0, 0, 0, 1220, 0, 0, 1220, 0, 1220, 0] = true := by decide +kernel
def zc98 : List zE := [(0, .aload_n 0, 0, 0, 0, 0, []),
  (1, .getfield 36, 6, 9, 0, 0, []),
  (4, .istore_n 2, 2, 0, 0, 0, []),
  (5, .aload_n 0, 0, 0, 0, 0, []),
  (6, .iconst 0, 0, 0, 0, 0, []),
  (7, .putfield 36, 6, 9, 0, 0, []),
  (10, .iload_n 1, 1, 0, 0, 0, []),
  (11, .iconst 1, 0, 0, 0, 1, []),
  (12, .bipush 30, 0, 0, 0, 30, []),
  (14, .invokestatic 70, 103, 3, 0, 0, []),
  (17, .ifCond .ne 6, 23, 0, 0, 0, []),
  (20, .ldc 74, 0, 0, 0, (-1000000001), []),
  (22, .ireturn, 0, 0, 0, 0, []),
  (23, .aload_n 0, 0, 0, 0, 0, []),
  (24, .getfield 16, 6, 5, 0, 0, []),
  (27, .ifCond .ne 7, 34, 0, 0, 0, []),
  (30, .ldc_w 298, 0, 0, 0, (-1000000002), []),
  (33, .ireturn, 0, 0, 0, 0, []),
  (34, .aload_n 0, 0, 0, 0, 0, []),
  (35, .getfield 59, 6, 4, 0, 0, []),
  (38, .aload_n 0, 0, 0, 0, 0, []),
  (39, .getfield 56, 6, 3, 0, 0, []),
  (42, .invokevirtual 181, 36, 1, 5, 0, []),
  (45, .iload_n 1, 1, 0, 0, 0, []),
  (46, .sipush 9999, 0, 0, 0, 9999, []),
  (49, .aload_n 0, 0, 0, 0, 0, []),
  (50, .getfield 59, 6, 4, 0, 0, []),
  (53, .getfield 160, 5, 10, 0, 0, []),
  (56, .isub, 0, 0, 0, 0, []),
  (57, .invokestatic 146, 1001, 2, 0, 0, []),
  (60, .istore_n 3, 3, 0, 0, 0, []),
  (61, .iconst 0, 0, 0, 0, 0, []),
  (62, .istore 4, 4, 0, 0, 0, []),
  (64, .iload 4, 4, 0, 0, 0, []),
  (66, .iload_n 3, 3, 0, 0, 0, []),
  (67, .if_icmp .ge 70, 137, 0, 0, 0, []),
  (70, .aload_n 0, 0, 0, 0, 0, []),
  (71, .getfield 59, 6, 4, 0, 0, []),
  (74, .invokevirtual 192, 54, 0, 5, 0, []),
  (77, .aload_n 0, 0, 0, 0, 0, []),
  (78, .iconst 2, 0, 0, 0, 2, []),
  (79, .iload 4, 4, 0, 0, 0, []),
  (81, .imul, 0, 0, 0, 0, []),
  (82, .iload_n 2, 2, 0, 0, 0, []),
  (83, .aload_n 0, 0, 0, 0, 0, []),
  (84, .getfield 59, 6, 4, 0, 0, []),
  (87, .getfield 167, 5, 8, 0, 0, []),
  (90, .invokevirtual 299, 99, 3, 6, 0, []),
  (93, .ifCond .ne 10, 103, 0, 0, 0, []),
  (96, .iconst 1, 0, 0, 0, 1, []),
  (97, .iconst 2, 0, 0, 0, 2, []),
  (98, .iload 4, 4, 0, 0, 0, []),
  (100, .imul, 0, 0, 0, 0, []),
  (101, .iadd, 0, 0, 0, 0, []),
  (102, .ireturn, 0, 0, 0, 0, []),
  (103, .aload_n 0, 0, 0, 0, 0, []),
  (104, .iconst 2, 0, 0, 0, 2, []),
  (105, .iload 4, 4, 0, 0, 0, []),
  (107, .imul, 0, 0, 0, 0, []),
  (108, .iconst 1, 0, 0, 0, 1, []),
  (109, .iadd, 0, 0, 0, 0, []),
  (110, .iload_n 2, 2, 0, 0, 0, []),
  (111, .aload_n 0, 0, 0, 0, 0, []),
  (112, .getfield 59, 6, 4, 0, 0, []),
  (115, .getfield 157, 5, 9, 0, 0, []),
  (118, .invokevirtual 299, 99, 3, 6, 0, []),
  (121, .ifCond .ne 10, 131, 0, 0, 0, []),
  (124, .iconst 2, 0, 0, 0, 2, []),
  (125, .iconst 2, 0, 0, 0, 2, []),
  (126, .iload 4, 4, 0, 0, 0, []),
  (128, .imul, 0, 0, 0, 0, []),
  (129, .iadd, 0, 0, 0, 0, []),
  (130, .ireturn, 0, 0, 0, 0, []),
  (131, .iinc 4 1, 4, 0, 0, 1, []),
  (134, .goto (-70), 64, 0, 0, 0, []),
  (137, .iload_n 2, 2, 0, 0, 0, []),
  (138, .iconst 2, 0, 0, 0, 2, []),
  (139, .iload_n 3, 3, 0, 0, 0, []),
  (140, .imul, 0, 0, 0, 0, []),
  (141, .if_icmp .le 11, 152, 0, 0, 0, []),
  (144, .iconst 1, 0, 0, 0, 1, []),
  (145, .iconst 2, 0, 0, 0, 2, []),
  (146, .iload_n 3, 3, 0, 0, 0, []),
  (147, .imul, 0, 0, 0, 0, []),
  (148, .iadd, 0, 0, 0, 0, []),
  (149, .goto 4, 153, 0, 0, 0, []),
  (152, .iconst 0, 0, 0, 0, 0, []),
  (153, .ireturn, 0, 0, 0, 0, [])]
theorem zk98 : zchk RX6 cX6_check 5 true (some .int) zc98 [0, 1220, 0, 0, 0, 1220, 0, 0, 0, 2012, 0, 2013, 0, 0, 1216, 0, 4033, 0, 0, 1215, 0, 1214, 2225, 0, 0, 0, 1215, 1125, 0, 2045, 0, 0, 0, 0, 0, 0, 0, 1215, 3012, 0, 0, 0, 0, 0, 0, 1215, 1121, 4042, 0, 0, 0, 0, 0, 0, 0, 0, 0, 0, 0, 0, 0, 0, 0, 1215, 1123, 4042, 0, 0, 0, 0, 0, 0, 0, 0, 0, 0, 0, 0, 0, 0, 0, 0, 0, 0, 0, 0, 0, 0] = true := by decide +kernel
def zc99 : List zE := [(0, .iload_n 1, 1, 0, 0, 0, []),
  (1, .iload_n 2, 2, 0, 0, 0, []),
  (2, .if_icmp .ge 27, 29, 0, 0, 0, []),
  (5, .iload_n 1, 1, 0, 0, 0, []),
  (6, .iconst 0, 0, 0, 0, 0, []),
  (7, .bipush 59, 0, 0, 0, 59, []),
  (9, .invokestatic 70, 103, 3, 0, 0, []),
  (12, .ifCond .eq 17, 29, 0, 0, 0, []),
  (15, .aload_n 0, 0, 0, 0, 0, []),
  (16, .getfield 32, 6, 8, 0, 0, []),
  (19, .iload_n 1, 1, 0, 0, 0, []),
  (20, .iaload, 0, 0, 0, 0, []),
  (21, .iload_n 3, 3, 0, 0, 0, []),
  (22, .if_icmp .ne 7, 29, 0, 0, 0, []),
  (25, .iconst 1, 0, 0, 0, 1, []),
  (26, .goto 4, 30, 0, 0, 0, []),
  (29, .iconst 0, 0, 0, 0, 0, []),
  (30, .ireturn, 0, 0, 1, 0, [])]
theorem zk99 : zchk RX6 cX6_isNumberAt 4 true (some .boolean) zc99 [0, 0, 0, 0, 0, 0, 2012, 0, 0, 1219, 0, 0, 0, 0, 0, 0, 0, 0] = true := by decide +kernel
def zc100 : List zE := [(0, .aload_n 0, 0, 0, 0, 0, []),
  (1, .getfield 56, 6, 3, 0, 0, []),
  (4, .aload_n 0, 0, 0, 0, 0, []),
  (5, .getfield 52, 6, 2, 0, 0, []),
  (8, .invokevirtual 181, 36, 1, 5, 0, []),
  (11, .aload_n 0, 0, 0, 0, 0, []),
  (12, .iconst 1, 0, 0, 0, 1, []),
  (13, .putfield 16, 6, 5, 1, 0, []),
  (16, .aload_n 0, 0, 0, 0, 0, []),
  (17, .getfield 52, 6, 2, 0, 0, []),
  (20, .getfield 75, 5, 1, 0, 0, []),
  (23, .ireturn, 0, 0, 0, 0, [])]
theorem zk100 : zchk RX6 cX6_keep 1 true (some .int) zc100 [0, 1214, 0, 1213, 2225, 0, 0, 1216, 0, 1213, 1107, 0] = true := by decide +kernel
def zc101 : List zE := [(0, .aload_n 0, 0, 0, 0, 0, []),
  (1, .getfield 16, 6, 5, 0, 0, []),
  (4, .ifCond .ne 7, 11, 0, 0, 0, []),
  (7, .ldc_w 298, 0, 0, 0, (-1000000002), []),
  (10, .ireturn, 0, 0, 0, 0, []),
  (11, .aload_n 0, 0, 0, 0, 0, []),
  (12, .getfield 52, 6, 2, 0, 0, []),
  (15, .aload_n 0, 0, 0, 0, 0, []),
  (16, .getfield 56, 6, 3, 0, 0, []),
  (19, .invokevirtual 181, 36, 1, 5, 0, []),
  (22, .aload_n 0, 0, 0, 0, 0, []),
  (23, .getfield 52, 6, 2, 0, 0, []),
  (26, .getfield 75, 5, 1, 0, 0, []),
  (29, .ireturn, 0, 0, 0, 0, [])]
theorem zk101 : zchk RX6 cX6_back 1 true (some .int) zc101 [0, 1216, 0, 4033, 0, 0, 1213, 0, 1214, 2225, 0, 1213, 1107, 0] = true := by decide +kernel
def zc102 : List zE := [(0, .iload_n 1, 1, 0, 0, 0, []),
  (1, .tableswitch 118 0 7 #[47, 55, 63, 72, 89, 97, 102, 110], 119, 47, 0, 0, [(0, 48), (1, 56), (2, 64), (3, 73), (4, 90), (5, 98), (6, 103), (7, 111)]),
  (48, .aload_n 0, 0, 0, 0, 0, []),
  (49, .getfield 52, 6, 2, 0, 0, []),
  (52, .getfield 75, 5, 1, 0, 0, []),
  (55, .ireturn, 0, 0, 0, 0, []),
  (56, .aload_n 0, 0, 0, 0, 0, []),
  (57, .getfield 52, 6, 2, 0, 0, []),
  (60, .getfield 160, 5, 10, 0, 0, []),
  (63, .ireturn, 0, 0, 0, 0, []),
  (64, .aload_n 0, 0, 0, 0, 0, []),
  (65, .getfield 52, 6, 2, 0, 0, []),
  (68, .iconst 0, 0, 0, 0, 0, []),
  (69, .invokevirtual 302, 40, 1, 5, 0, []),
  (72, .ireturn, 0, 0, 0, 0, []),
  (73, .aload_n 0, 0, 0, 0, 0, []),
  (74, .getfield 52, 6, 2, 0, 0, []),
  (77, .aload_n 0, 0, 0, 0, 0, []),
  (78, .getfield 52, 6, 2, 0, 0, []),
  (81, .getfield 131, 5, 7, 0, 0, []),
  (84, .iconst 0, 0, 0, 0, 0, []),
  (85, .iaload, 0, 0, 0, 0, []),
  (86, .invokevirtual 302, 40, 1, 5, 0, []),
  (89, .ireturn, 0, 0, 0, 0, []),
  (90, .aload_n 0, 0, 0, 0, 0, []),
  (91, .getfield 52, 6, 2, 0, 0, []),
  (94, .getfield 235, 5, 12, 0, 0, []),
  (97, .ireturn, 0, 0, 0, 0, []),
  (98, .aload_n 0, 0, 0, 0, 0, []),
  (99, .getfield 36, 6, 9, 0, 0, []),
  (102, .ireturn, 0, 0, 0, 0, []),
  (103, .aload_n 0, 0, 0, 0, 0, []),
  (104, .getfield 10, 6, 1, 0, 0, []),
  (107, .getfield 226, 2, 1, 0, 0, []),
  (110, .ireturn, 0, 0, 0, 0, []),
  (111, .aload_n 0, 0, 0, 0, 0, []),
  (112, .getfield 52, 6, 2, 0, 0, []),
  (115, .getfield 154, 5, 11, 0, 0, []),
  (118, .ireturn, 0, 0, 0, 0, []),
  (119, .ldc 74, 0, 0, 0, (-1000000001), []),
  (121, .ireturn, 0, 0, 0, 0, [])]
theorem zk102 : zchk RX6 cX6_count 2 true (some .int) zc102 [0, 0, 0, 1213, 1107, 0, 0, 1213, 1125, 0, 0, 1213, 0, 4058, 0, 0, 1213, 0, 1213, 1119, 0, 0, 4058, 0, 0, 1213, 1129, 0, 0, 1220, 0, 0, 1212, 1032, 0, 0, 1213, 1127, 0, 2013, 0] = true := by decide +kernel
def zc103 : List zE := [(0, .iload_n 0, 0, 0, 0, 0, []),
  (1, .iload_n 1, 1, 0, 0, 0, []),
  (2, .if_icmp .lt 12, 14, 0, 0, 0, []),
  (5, .iload_n 0, 0, 0, 0, 0, []),
  (6, .iload_n 2, 2, 0, 0, 0, []),
  (7, .if_icmp .gt 7, 14, 0, 0, 0, []),
  (10, .iconst 1, 0, 0, 0, 1, []),
  (11, .goto 4, 15, 0, 0, 0, []),
  (14, .iconst 0, 0, 0, 0, 0, []),
  (15, .ireturn, 0, 0, 1, 0, [])]
theorem zk103 : zchk RX6 cX6_within 3 true (some .boolean) zc103 [0, 0, 0, 0, 0, 0, 0, 0, 0, 0] = true := by decide +kernel
def zc104 : List zE := [(0, .iload_n 1, 1, 0, 0, 0, []),
  (1, .iload_n 2, 2, 0, 0, 0, []),
  (2, .iload_n 0, 0, 0, 0, 0, []),
  (3, .invokestatic 146, 1001, 2, 0, 0, []),
  (6, .invokestatic 305, 1000, 2, 0, 0, []),
  (9, .ireturn, 0, 0, 0, 0, [])]
theorem zk104 : zchk RX6 cX6_held 3 true (some .int) zc104 [0, 0, 0, 2045, 2048, 0] = true := by decide +kernel
def zc105 : List zE := [(0, .iload_n 2, 2, 0, 0, 0, []),
  (1, .iload_n 3, 3, 0, 0, 0, []),
  (2, .iload 4, 4, 0, 0, 0, []),
  (4, .invokestatic 70, 103, 3, 0, 0, []),
  (7, .ifCond .eq 15, 22, 0, 0, 0, []),
  (10, .iload_n 1, 1, 0, 0, 0, []),
  (11, .iconst 0, 0, 0, 0, 0, []),
  (12, .aload_n 0, 0, 0, 0, 0, []),
  (13, .arraylength, 0, 0, 0, 0, []),
  (14, .iconst 1, 0, 0, 0, 1, []),
  (15, .isub, 0, 0, 0, 0, []),
  (16, .invokestatic 70, 103, 3, 0, 0, []),
  (19, .ifCond .ne 6, 25, 0, 0, 0, []),
  (22, .ldc 74, 0, 0, 0, (-1000000001), []),
  (24, .ireturn, 0, 0, 0, 0, []),
  (25, .aload_n 0, 0, 0, 0, 0, []),
  (26, .iload_n 1, 1, 0, 0, 0, []),
  (27, .iaload, 0, 0, 0, 0, []),
  (28, .istore 5, 5, 0, 0, 0, []),
  (30, .aload_n 0, 0, 0, 0, 0, []),
  (31, .iload_n 1, 1, 0, 0, 0, []),
  (32, .iload_n 2, 2, 0, 0, 0, []),
  (33, .iastore, 0, 0, 0, 0, []),
  (34, .iload 5, 5, 0, 0, 0, []),
  (36, .ireturn, 0, 0, 0, 0, [])]
theorem zk105 : zchk RX6 cX6_swapped 6 true (some .int) zc105 [0, 0, 0, 2012, 0, 0, 0, 0, 0, 0, 0, 2012, 0, 2013, 0, 0, 0, 0, 0, 0, 0, 0, 0, 0, 0] = true := by decide +kernel
def zc106 : List zE := [(0, .lload_n 0, 0, 0, 0, 0, []),
  (1, .lload_n 2, 2, 0, 0, 0, []),
  (2, .lcmp, 0, 0, 0, 0, []),
  (3, .ifCond .lt 14, 17, 0, 0, 0, []),
  (6, .lload_n 0, 0, 0, 0, 0, []),
  (7, .lload 4, 4, 0, 0, 0, []),
  (9, .lcmp, 0, 0, 0, 0, []),
  (10, .ifCond .gt 7, 17, 0, 0, 0, []),
  (13, .iconst 1, 0, 0, 0, 1, []),
  (14, .goto 4, 18, 0, 0, 0, []),
  (17, .iconst 0, 0, 0, 0, 0, []),
  (18, .ireturn, 0, 0, 1, 0, [])]
theorem zk106 : zchk RX7 cX7_isIn 6 false (some .boolean) zc106 [0, 0, 0, 0, 0, 0, 0, 0, 0, 0, 0, 0] = true := by decide +kernel
def zc107 : List zE := [(0, .iload_n 0, 0, 0, 0, 0, []),
  (1, .ifCond .ge 8, 9, 0, 0, 0, []),
  (4, .ldc 71, 0, 0, 0, (-1000000005), []),
  (6, .goto 4, 10, 0, 0, 0, []),
  (9, .iload_n 0, 0, 0, 0, 0, []),
  (10, .ireturn, 0, 0, 0, 0, [])]
theorem zk107 : zchk RX7 cX7_orNone 1 true (some .int) zc107 [0, 0, 5106, 0, 0, 0] = true := by decide +kernel
def zc108 : List zE := [(0, .iload_n 0, 0, 0, 0, 0, []),
  (1, .iload_n 1, 1, 0, 0, 0, []),
  (2, .if_icmp .ge 7, 9, 0, 0, 0, []),
  (5, .iload_n 1, 1, 0, 0, 0, []),
  (6, .goto 13, 19, 0, 0, 0, []),
  (9, .iload_n 0, 0, 0, 0, 0, []),
  (10, .iload_n 2, 2, 0, 0, 0, []),
  (11, .if_icmp .le 7, 18, 0, 0, 0, []),
  (14, .iload_n 2, 2, 0, 0, 0, []),
  (15, .goto 4, 19, 0, 0, 0, []),
  (18, .iload_n 0, 0, 0, 0, 0, []),
  (19, .ireturn, 0, 0, 0, 0, [])]
theorem zk108 : zchk RX7 cX7_held 3 true (some .int) zc108 [0, 0, 0, 0, 0, 0, 0, 0, 0, 0, 0, 0] = true := by decide +kernel
def zc109 : List zE := [(0, .iload_n 0, 0, 0, 0, 0, []),
  (1, .iload_n 1, 1, 0, 0, 0, []),
  (2, .if_icmp .ge 9, 11, 0, 0, 0, []),
  (5, .iload_n 1, 1, 0, 0, 0, []),
  (6, .iload_n 0, 0, 0, 0, 0, []),
  (7, .isub, 0, 0, 0, 0, []),
  (8, .goto 6, 14, 0, 0, 0, []),
  (11, .iload_n 0, 0, 0, 0, 0, []),
  (12, .iload_n 1, 1, 0, 0, 0, []),
  (13, .isub, 0, 0, 0, 0, []),
  (14, .ireturn, 0, 0, 0, 0, [])]
theorem zk109 : zchk RX7 cX7_off 2 true (some .int) zc109 [0, 0, 0, 0, 0, 0, 0, 0, 0, 0, 0] = true := by decide +kernel
def zc110 : List zE := [(0, .iconst 0, 0, 0, 0, 0, []),
  (1, .istore_n 1, 1, 0, 0, 0, []),
  (2, .iload_n 0, 0, 0, 0, 0, []),
  (3, .istore_n 2, 2, 0, 0, 0, []),
  (4, .iload_n 2, 2, 0, 0, 0, []),
  (5, .ifCond .eq 15, 20, 0, 0, 0, []),
  (8, .iinc 1 1, 1, 0, 0, 1, []),
  (11, .iload_n 2, 2, 0, 0, 0, []),
  (12, .iload_n 2, 2, 0, 0, 0, []),
  (13, .iconst 1, 0, 0, 0, 1, []),
  (14, .isub, 0, 0, 0, 0, []),
  (15, .iand, 0, 0, 0, 0, []),
  (16, .istore_n 2, 2, 0, 0, 0, []),
  (17, .goto (-13), 4, 0, 0, 0, []),
  (20, .iload_n 1, 1, 0, 0, 0, []),
  (21, .ireturn, 0, 0, 0, 0, [])]
theorem zk110 : zchk RX7 cX7_manyIn 3 true (some .int) zc110 [0, 0, 0, 0, 0, 0, 0, 0, 0, 0, 0, 0, 0, 0, 0, 0] = true := by decide +kernel
def zc111 : List zE := [(0, .aload_n 0, 0, 0, 0, 0, []),
  (1, .getfield 7, 7, 0, 0, 0, []),
  (4, .iload_n 1, 1, 0, 0, 0, []),
  (5, .iaload, 0, 0, 0, 0, []),
  (6, .istore_n 3, 3, 0, 0, 0, []),
  (7, .aload_n 0, 0, 0, 0, 0, []),
  (8, .getfield 7, 7, 0, 0, 0, []),
  (11, .iload_n 1, 1, 0, 0, 0, []),
  (12, .iload_n 2, 2, 0, 0, 0, []),
  (13, .iastore, 0, 0, 0, 0, []),
  (14, .iload_n 3, 3, 0, 0, 0, []),
  (15, .ireturn, 0, 0, 0, 0, [])]
theorem zk111 : zchk RX7 cX7_becomes 4 true (some .int) zc111 [0, 4065, 0, 0, 0, 0, 4065, 0, 0, 0, 0, 0] = true := by decide +kernel
def zc112 : List zE := [(0, .bipush 62, 0, 0, 0, 62, []),
  (2, .sipush 200, 0, 0, 0, 200, []),
  (5, .iload_n 1, 1, 0, 0, 0, []),
  (6, .imul, 0, 0, 0, 0, []),
  (7, .iadd, 0, 0, 0, 0, []),
  (8, .ireturn, 0, 0, 0, 0, [])]
theorem zk112 : zchk RX7 cX7_textAt 2 true (some .int) zc112 [0, 0, 0, 0, 0, 0] = true := by decide +kernel
def zc113 : List zE := [(0, .aload_n 0, 0, 0, 0, 0, []),
  (1, .getfield 7, 7, 0, 0, 0, []),
  (4, .bipush 12, 0, 0, 0, 12, []),
  (6, .iconst 5, 0, 0, 0, 5, []),
  (7, .iload_n 1, 1, 0, 0, 0, []),
  (8, .imul, 0, 0, 0, 0, []),
  (9, .iadd, 0, 0, 0, 0, []),
  (10, .iload_n 2, 2, 0, 0, 0, []),
  (11, .iadd, 0, 0, 0, 0, []),
  (12, .iaload, 0, 0, 0, 0, []),
  (13, .ireturn, 0, 0, 0, 0, [])]
theorem zk113 : zchk RX7 cX7_of 3 true (some .int) zc113 [0, 4065, 0, 0, 0, 0, 0, 0, 0, 0, 0] = true := by decide +kernel
def zc114 : List zE := [(0, .aload_n 0, 0, 0, 0, 0, []),
  (1, .getfield 7, 7, 0, 0, 0, []),
  (4, .bipush 12, 0, 0, 0, 12, []),
  (6, .iconst 5, 0, 0, 0, 5, []),
  (7, .iload_n 1, 1, 0, 0, 0, []),
  (8, .imul, 0, 0, 0, 0, []),
  (9, .iadd, 0, 0, 0, 0, []),
  (10, .iload_n 2, 2, 0, 0, 0, []),
  (11, .iadd, 0, 0, 0, 0, []),
  (12, .iload_n 3, 3, 0, 0, 0, []),
  (13, .iastore, 0, 0, 0, 0, []),
  (14, .return_, 0, 0, 0, 0, [])]
theorem zk114 : zchk RX7 cX7_sets 4 true none zc114 [0, 4065, 0, 0, 0, 0, 0, 0, 0, 0, 0, 0] = true := by decide +kernel
def zc115 : List zE := [(0, .iload_n 1, 1, 0, 0, 0, []),
  (1, .i2l, 0, 0, 0, 0, []),
  (2, .lconst 0, 0, 0, 0, 0, []),
  (3, .aload_n 0, 0, 0, 0, 0, []),
  (4, .getfield 7, 7, 0, 0, 0, []),
  (7, .iconst 0, 0, 0, 0, 0, []),
  (8, .iaload, 0, 0, 0, 0, []),
  (9, .iconst 1, 0, 0, 0, 1, []),
  (10, .isub, 0, 0, 0, 0, []),
  (11, .i2l, 0, 0, 0, 0, []),
  (12, .invokestatic 72, 106, 3, 0, 0, []),
  (15, .ireturn, 0, 0, 1, 0, [])]
theorem zk115 : zchk RX7 cX7_isLoad 2 true (some .boolean) zc115 [0, 0, 0, 0, 4065, 0, 0, 0, 0, 0, 4170, 0] = true := by decide +kernel
def zc116 : List zE := [(0, .iload_n 1, 1, 0, 0, 0, []),
  (1, .i2l, 0, 0, 0, 0, []),
  (2, .lconst 0, 0, 0, 0, 0, []),
  (3, .aload_n 0, 0, 0, 0, 0, []),
  (4, .getfield 7, 7, 0, 0, 0, []),
  (7, .iconst 1, 0, 0, 0, 1, []),
  (8, .iaload, 0, 0, 0, 0, []),
  (9, .iconst 1, 0, 0, 0, 1, []),
  (10, .isub, 0, 0, 0, 0, []),
  (11, .i2l, 0, 0, 0, 0, []),
  (12, .invokestatic 72, 106, 3, 0, 0, []),
  (15, .ireturn, 0, 0, 1, 0, [])]
theorem zk116 : zchk RX7 cX7_isText 2 true (some .boolean) zc116 [0, 0, 0, 0, 4065, 0, 0, 0, 0, 0, 4170, 0] = true := by decide +kernel
end
section
/-! code tables: printed by gen06.py from the bytecode -/
def zc117 : List zE := [(0, .aload_n 0, 0, 0, 0, 0, []),
  (1, .getfield 7, 7, 0, 0, 0, []),
  (4, .iconst 5, 0, 0, 0, 5, []),
  (5, .aload_n 0, 0, 0, 0, 0, []),
  (6, .getfield 7, 7, 0, 0, 0, []),
  (9, .iconst 5, 0, 0, 0, 5, []),
  (10, .iaload, 0, 0, 0, 0, []),
  (11, .ldc 76, 0, 0, 0, 1103515245, []),
  (13, .imul, 0, 0, 0, 0, []),
  (14, .sipush 12345, 0, 0, 0, 12345, []),
  (17, .iadd, 0, 0, 0, 0, []),
  (18, .iastore, 0, 0, 0, 0, []),
  (19, .aload_n 0, 0, 0, 0, 0, []),
  (20, .getfield 7, 7, 0, 0, 0, []),
  (23, .iconst 5, 0, 0, 0, 5, []),
  (24, .iaload, 0, 0, 0, 0, []),
  (25, .bipush 8, 0, 0, 0, 8, []),
  (27, .iushr, 0, 0, 0, 0, []),
  (28, .ireturn, 0, 0, 0, 0, [])]
theorem zk117 : zchk RX7 cX7_drawn 1 true (some .int) zc117 [0, 4065, 0, 0, 4065, 0, 0, 5065, 0, 0, 0, 0, 0, 4065, 0, 0, 0, 0, 0] = true := by decide +kernel
def zc118 : List zE := [(0, .aload_n 0, 0, 0, 0, 0, []),
  (1, .getfield 7, 7, 0, 0, 0, []),
  (4, .iconst 0, 0, 0, 0, 0, []),
  (5, .iaload, 0, 0, 0, 0, []),
  (6, .istore 4, 4, 0, 0, 0, []),
  (8, .aload_n 0, 0, 0, 0, 0, []),
  (9, .getfield 7, 7, 0, 0, 0, []),
  (12, .iconst 0, 0, 0, 0, 0, []),
  (13, .dup2, 0, 0, 0, 0, []),
  (14, .iaload, 0, 0, 0, 0, []),
  (15, .iconst 1, 0, 0, 0, 1, []),
  (16, .iadd, 0, 0, 0, 0, []),
  (17, .iastore, 0, 0, 0, 0, []),
  (18, .aload_n 0, 0, 0, 0, 0, []),
  (19, .iload 4, 4, 0, 0, 0, []),
  (21, .iconst 0, 0, 0, 0, 0, []),
  (22, .iload_n 1, 1, 0, 0, 0, []),
  (23, .invokevirtual 77, 114, 3, 7, 0, []),
  (26, .aload_n 0, 0, 0, 0, 0, []),
  (27, .iload 4, 4, 0, 0, 0, []),
  (29, .iconst 1, 0, 0, 0, 1, []),
  (30, .iload_n 2, 2, 0, 0, 0, []),
  (31, .invokevirtual 77, 114, 3, 7, 0, []),
  (34, .aload_n 0, 0, 0, 0, 0, []),
  (35, .iload 4, 4, 0, 0, 0, []),
  (37, .iconst 2, 0, 0, 0, 2, []),
  (38, .iload_n 3, 3, 0, 0, 0, []),
  (39, .invokevirtual 77, 114, 3, 7, 0, []),
  (42, .aload_n 0, 0, 0, 0, 0, []),
  (43, .iload 4, 4, 0, 0, 0, []),
  (45, .iconst 3, 0, 0, 0, 3, []),
  (46, .iconst 0, 0, 0, 0, 0, []),
  (47, .invokevirtual 77, 114, 3, 7, 0, []),
  (50, .aload_n 0, 0, 0, 0, 0, []),
  (51, .iload 4, 4, 0, 0, 0, []),
  (53, .iconst 4, 0, 0, 0, 4, []),
  (54, .iconst 0, 0, 0, 0, 0, []),
  (55, .invokevirtual 77, 114, 3, 7, 0, []),
  (58, .return_, 0, 0, 0, 0, [])]
theorem zk118 : zchk RX7 cX7_comes 5 true none zc118 [0, 4065, 0, 0, 0, 0, 4065, 0, 0, 0, 0, 0, 0, 0, 0, 0, 0, 4180, 0, 0, 0, 0, 4180, 0, 0, 0, 0, 4180, 0, 0, 0, 0, 4180, 0, 0, 0, 0, 4180, 0] = true := by decide +kernel
def zc119 : List zE := [(0, .iload_n 1, 1, 0, 0, 0, []),
  (1, .i2l, 0, 0, 0, 0, []),
  (2, .lconst 0, 0, 0, 0, 0, []),
  (3, .ldc2_w 81, 0, 0, 0, 5, []),
  (6, .invokestatic 72, 106, 3, 0, 0, []),
  (9, .ifCond .eq 25, 34, 0, 0, 0, []),
  (12, .iload_n 2, 2, 0, 0, 0, []),
  (13, .i2l, 0, 0, 0, 0, []),
  (14, .lconst 1, 0, 0, 0, 1, []),
  (15, .ldc2_w 83, 0, 0, 0, 99, []),
  (18, .invokestatic 72, 106, 3, 0, 0, []),
  (21, .ifCond .eq 13, 34, 0, 0, 0, []),
  (24, .iload_n 3, 3, 0, 0, 0, []),
  (25, .i2l, 0, 0, 0, 0, []),
  (26, .lconst 0, 0, 0, 0, 0, []),
  (27, .lconst 1, 0, 0, 0, 1, []),
  (28, .invokestatic 72, 106, 3, 0, 0, []),
  (31, .ifCond .ne 6, 37, 0, 0, 0, []),
  (34, .ldc 85, 0, 0, 0, (-1000000001), []),
  (36, .ireturn, 0, 0, 0, 0, []),
  (37, .aload_n 0, 0, 0, 0, 0, []),
  (38, .getfield 7, 7, 0, 0, 0, []),
  (41, .iconst 0, 0, 0, 0, 0, []),
  (42, .iaload, 0, 0, 0, 0, []),
  (43, .bipush 10, 0, 0, 0, 10, []),
  (45, .if_icmp .ne 6, 51, 0, 0, 0, []),
  (48, .ldc 86, 0, 0, 0, (-1000000003), []),
  (50, .ireturn, 0, 0, 0, 0, []),
  (51, .aload_n 0, 0, 0, 0, 0, []),
  (52, .iload_n 1, 1, 0, 0, 0, []),
  (53, .iload_n 2, 2, 0, 0, 0, []),
  (54, .iload_n 3, 3, 0, 0, 0, []),
  (55, .invokevirtual 87, 118, 3, 7, 0, []),
  (58, .aload_n 0, 0, 0, 0, 0, []),
  (59, .getfield 7, 7, 0, 0, 0, []),
  (62, .iconst 0, 0, 0, 0, 0, []),
  (63, .iaload, 0, 0, 0, 0, []),
  (64, .iconst 1, 0, 0, 0, 1, []),
  (65, .isub, 0, 0, 0, 0, []),
  (66, .ireturn, 0, 0, 0, 0, [])]
theorem zk119 : zchk RX7 cX7_load 4 true (some .int) zc119 [0, 0, 0, 4169, 4170, 0, 0, 0, 0, 4173, 4170, 0, 0, 0, 0, 0, 4170, 0, 4174, 0, 0, 4065, 0, 0, 0, 0, 4175, 0, 0, 0, 0, 0, 4176, 0, 4065, 0, 0, 0, 0, 0] = true := by decide +kernel
def zc120 : List zE := [(0, .aload_n 0, 0, 0, 0, 0, []),
  (1, .iload_n 1, 1, 0, 0, 0, []),
  (2, .iconst 1, 0, 0, 0, 1, []),
  (3, .invokevirtual 90, 113, 2, 7, 0, []),
  (6, .istore_n 2, 2, 0, 0, 0, []),
  (7, .aload_n 0, 0, 0, 0, 0, []),
  (8, .iconst 0, 0, 0, 0, 0, []),
  (9, .invokevirtual 94, 179, 1, 7, 0, []),
  (12, .istore_n 3, 3, 0, 0, 0, []),
  (13, .iload_n 3, 3, 0, 0, 0, []),
  (14, .ifCond .lt 56, 70, 0, 0, 0, []),
  (17, .aload_n 0, 0, 0, 0, 0, []),
  (18, .getfield 56, 7, 27, 0, 0, []),
  (21, .bipush 119, 0, 0, 0, 119, []),
  (23, .aload_n 0, 0, 0, 0, 0, []),
  (24, .iload_n 1, 1, 0, 0, 0, []),
  (25, .iconst 1, 0, 0, 0, 1, []),
  (26, .invokevirtual 90, 113, 2, 7, 0, []),
  (29, .iastore, 0, 0, 0, 0, []),
  (30, .aload_n 0, 0, 0, 0, 0, []),
  (31, .getfield 56, 7, 27, 0, 0, []),
  (34, .bipush 115, 0, 0, 0, 115, []),
  (36, .aload_n 0, 0, 0, 0, 0, []),
  (37, .getfield 7, 7, 0, 0, 0, []),
  (40, .bipush 9, 0, 0, 0, 9, []),
  (42, .iaload, 0, 0, 0, 0, []),
  (43, .iastore, 0, 0, 0, 0, []),
  (44, .aload_n 0, 0, 0, 0, 0, []),
  (45, .getfield 56, 7, 27, 0, 0, []),
  (48, .bipush 118, 0, 0, 0, 118, []),
  (50, .aload_n 0, 0, 0, 0, 0, []),
  (51, .iload_n 1, 1, 0, 0, 0, []),
  (52, .iconst 3, 0, 0, 0, 3, []),
  (53, .invokevirtual 90, 113, 2, 7, 0, []),
  (56, .iastore, 0, 0, 0, 0, []),
  (57, .aload_n 0, 0, 0, 0, 0, []),
  (58, .iload_n 3, 3, 0, 0, 0, []),
  (59, .invokevirtual 98, 182, 1, 7, 0, []),
  (62, .iconst 0, 0, 0, 0, 0, []),
  (63, .sipush 999, 0, 0, 0, 999, []),
  (66, .invokestatic 101, 108, 3, 0, 0, []),
  (69, .istore_n 2, 2, 0, 0, 0, []),
  (70, .aload_n 0, 0, 0, 0, 0, []),
  (71, .iload_n 1, 1, 0, 0, 0, []),
  (72, .iconst 0, 0, 0, 0, 0, []),
  (73, .invokevirtual 90, 113, 2, 7, 0, []),
  (76, .tableswitch 71 1 5 #[36, 40, 44, 63, 69], 147, 36, 0, 0, [(1, 112), (2, 116), (3, 120), (4, 139), (5, 145)]),
  (112, .iconst 2, 0, 0, 0, 2, []),
  (113, .iload_n 2, 2, 0, 0, 0, []),
  (114, .imul, 0, 0, 0, 0, []),
  (115, .ireturn, 0, 0, 0, 0, []),
  (116, .iload_n 2, 2, 0, 0, 0, []),
  (117, .iconst 2, 0, 0, 0, 2, []),
  (118, .idiv, 0, 0, 0, 0, []),
  (119, .ireturn, 0, 0, 0, 0, []),
  (120, .iconst 2, 0, 0, 0, 2, []),
  (121, .iload_n 2, 2, 0, 0, 0, []),
  (122, .imul, 0, 0, 0, 0, []),
  (123, .bipush 10, 0, 0, 0, 10, []),
  (125, .if_icmp .le 12, 137, 0, 0, 0, []),
  (128, .iconst 2, 0, 0, 0, 2, []),
  (129, .iload_n 2, 2, 0, 0, 0, []),
  (130, .imul, 0, 0, 0, 0, []),
  (131, .bipush 10, 0, 0, 0, 10, []),
  (133, .isub, 0, 0, 0, 0, []),
  (134, .goto 4, 138, 0, 0, 0, []),
  (137, .iconst 0, 0, 0, 0, 0, []),
  (138, .ireturn, 0, 0, 0, 0, []),
  (139, .iload_n 2, 2, 0, 0, 0, []),
  (140, .iconst 2, 0, 0, 0, 2, []),
  (141, .idiv, 0, 0, 0, 0, []),
  (142, .iconst 3, 0, 0, 0, 3, []),
  (143, .iadd, 0, 0, 0, 0, []),
  (144, .ireturn, 0, 0, 0, 0, []),
  (145, .iconst 0, 0, 0, 0, 0, []),
  (146, .ireturn, 0, 0, 0, 0, []),
  (147, .iload_n 2, 2, 0, 0, 0, []),
  (148, .ireturn, 0, 0, 0, 0, [])]
theorem zk120 : zchk RX7 cX7_pays 4 true (some .int) zc120 [0, 0, 0, 4192, 0, 0, 0, 4200, 0, 0, 0, 0, 4092, 0, 0, 0, 0, 4192, 0, 0, 4092, 0, 0, 4065, 0, 0, 0, 0, 4092, 0, 0, 0, 0, 4192, 0, 0, 0, 4208, 0, 0, 4215, 0, 0, 0, 0, 4192, 0, 0, 0, 0, 0, 0, 0, 0, 0, 0, 0, 0, 0, 0, 0, 0, 0, 0, 0, 0, 0, 0, 0, 0, 0, 0, 0, 0, 0, 0, 0, 0] = true := by decide +kernel
def zc121 : List zE := [(0, .aload_n 0, 0, 0, 0, 0, []),
  (1, .iload_n 1, 1, 0, 0, 0, []),
  (2, .iconst 0, 0, 0, 0, 0, []),
  (3, .invokevirtual 90, 113, 2, 7, 0, []),
  (6, .tableswitch 36 1 4 #[30, 32, 30, 34], 42, 30, 0, 0, [(1, 36), (2, 38), (3, 36), (4, 40)]),
  (36, .iconst 3, 0, 0, 0, 3, []),
  (37, .ireturn, 0, 0, 0, 0, []),
  (38, .iconst 1, 0, 0, 0, 1, []),
  (39, .ireturn, 0, 0, 0, 0, []),
  (40, .iconst 4, 0, 0, 0, 4, []),
  (41, .ireturn, 0, 0, 0, 0, []),
  (42, .iconst 2, 0, 0, 0, 2, []),
  (43, .ireturn, 0, 0, 0, 0, [])]
theorem zk121 : zchk RX7 cX7_takes 2 true (some .int) zc121 [0, 0, 0, 4192, 0, 0, 0, 0, 0, 0, 0, 0, 0] = true := by decide +kernel
def zc122 : List zE := [(0, .aload_n 0, 0, 0, 0, 0, []),
  (1, .iload_n 1, 1, 0, 0, 0, []),
  (2, .iconst 3, 0, 0, 0, 3, []),
  (3, .invokevirtual 90, 113, 2, 7, 0, []),
  (6, .istore_n 2, 2, 0, 0, 0, []),
  (7, .aload_n 0, 0, 0, 0, 0, []),
  (8, .iload_n 1, 1, 0, 0, 0, []),
  (9, .iconst 0, 0, 0, 0, 0, []),
  (10, .invokevirtual 90, 113, 2, 7, 0, []),
  (13, .tableswitch 49 1 5 #[35, 39, 43, 39, 45], 62, 35, 0, 0, [(1, 48), (2, 52), (3, 56), (4, 52), (5, 58)]),
  (48, .iload_n 2, 2, 0, 0, 0, []),
  (49, .iconst 5, 0, 0, 0, 5, []),
  (50, .iadd, 0, 0, 0, 0, []),
  (51, .ireturn, 0, 0, 0, 0, []),
  (52, .iload_n 2, 2, 0, 0, 0, []),
  (53, .iconst 2, 0, 0, 0, 2, []),
  (54, .idiv, 0, 0, 0, 0, []),
  (55, .ireturn, 0, 0, 0, 0, []),
  (56, .iconst 0, 0, 0, 0, 0, []),
  (57, .ireturn, 0, 0, 0, 0, []),
  (58, .sipush 9999, 0, 0, 0, 9999, []),
  (61, .ireturn, 0, 0, 0, 0, []),
  (62, .iload_n 2, 2, 0, 0, 0, []),
  (63, .ireturn, 0, 0, 0, 0, [])]
theorem zk122 : zchk RX7 cX7_urges 3 true (some .int) zc122 [0, 0, 0, 4192, 0, 0, 0, 0, 4192, 0, 0, 0, 0, 0, 0, 0, 0, 0, 0, 0, 0, 0, 0, 0] = true := by decide +kernel
def zc123 : List zE := [(0, .aload_n 0, 0, 0, 0, 0, []),
  (1, .iload_n 1, 1, 0, 0, 0, []),
  (2, .iconst 1, 0, 0, 0, 1, []),
  (3, .invokevirtual 90, 113, 2, 7, 0, []),
  (6, .istore_n 2, 2, 0, 0, 0, []),
  (7, .aload_n 0, 0, 0, 0, 0, []),
  (8, .iload_n 1, 1, 0, 0, 0, []),
  (9, .iconst 0, 0, 0, 0, 0, []),
  (10, .invokevirtual 90, 113, 2, 7, 0, []),
  (13, .tableswitch 59 1 5 #[35, 40, 45, 52, 57], 72, 35, 0, 0, [(1, 48), (2, 53), (3, 58), (4, 65), (5, 70)]),
  (48, .iload_n 2, 2, 0, 0, 0, []),
  (49, .bipush 8, 0, 0, 0, 8, []),
  (51, .iadd, 0, 0, 0, 0, []),
  (52, .ireturn, 0, 0, 0, 0, []),
  (53, .bipush 99, 0, 0, 0, 99, []),
  (55, .iload_n 2, 2, 0, 0, 0, []),
  (56, .isub, 0, 0, 0, 0, []),
  (57, .ireturn, 0, 0, 0, 0, []),
  (58, .iconst 2, 0, 0, 0, 2, []),
  (59, .iload_n 2, 2, 0, 0, 0, []),
  (60, .bipush 8, 0, 0, 0, 8, []),
  (62, .iadd, 0, 0, 0, 0, []),
  (63, .imul, 0, 0, 0, 0, []),
  (64, .ireturn, 0, 0, 0, 0, []),
  (65, .bipush 92, 0, 0, 0, 92, []),
  (67, .iload_n 2, 2, 0, 0, 0, []),
  (68, .isub, 0, 0, 0, 0, []),
  (69, .ireturn, 0, 0, 0, 0, []),
  (70, .iconst 5, 0, 0, 0, 5, []),
  (71, .ireturn, 0, 0, 0, 0, []),
  (72, .iload_n 2, 2, 0, 0, 0, []),
  (73, .ireturn, 0, 0, 0, 0, [])]
theorem zk123 : zchk RX7 cX7_worth 3 true (some .int) zc123 [0, 0, 0, 4192, 0, 0, 0, 0, 4192, 0, 0, 0, 0, 0, 0, 0, 0, 0, 0, 0, 0, 0, 0, 0, 0, 0, 0, 0, 0, 0, 0, 0] = true := by decide +kernel
def zc124 : List zE := [(0, .aload_n 0, 0, 0, 0, 0, []),
  (1, .iload_n 1, 1, 0, 0, 0, []),
  (2, .invokevirtual 104, 115, 1, 7, 0, []),
  (5, .ifCond .ne 6, 11, 0, 0, 0, []),
  (8, .ldc 85, 0, 0, 0, (-1000000001), []),
  (10, .ireturn, 0, 0, 0, 0, []),
  (11, .iload_n 2, 2, 0, 0, 0, []),
  (12, .tableswitch 83 0 8 #[52, 52, 52, 52, 52, 59, 65, 71, 77], 95, 52, 0, 0, [(0, 64), (1, 64), (2, 64), (3, 64), (4, 64), (5, 71), (6, 77), (7, 83), (8, 89)]),
  (64, .aload_n 0, 0, 0, 0, 0, []),
  (65, .iload_n 1, 1, 0, 0, 0, []),
  (66, .iload_n 2, 2, 0, 0, 0, []),
  (67, .invokevirtual 90, 113, 2, 7, 0, []),
  (70, .ireturn, 0, 0, 0, 0, []),
  (71, .aload_n 0, 0, 0, 0, 0, []),
  (72, .iload_n 1, 1, 0, 0, 0, []),
  (73, .invokevirtual 108, 120, 1, 7, 0, []),
  (76, .ireturn, 0, 0, 0, 0, []),
  (77, .aload_n 0, 0, 0, 0, 0, []),
  (78, .iload_n 1, 1, 0, 0, 0, []),
  (79, .invokevirtual 111, 121, 1, 7, 0, []),
  (82, .ireturn, 0, 0, 0, 0, []),
  (83, .aload_n 0, 0, 0, 0, 0, []),
  (84, .iload_n 1, 1, 0, 0, 0, []),
  (85, .invokevirtual 114, 122, 1, 7, 0, []),
  (88, .ireturn, 0, 0, 0, 0, []),
  (89, .aload_n 0, 0, 0, 0, 0, []),
  (90, .iload_n 1, 1, 0, 0, 0, []),
  (91, .invokevirtual 117, 123, 1, 7, 0, []),
  (94, .ireturn, 0, 0, 0, 0, []),
  (95, .ldc 85, 0, 0, 0, (-1000000001), []),
  (97, .ireturn, 0, 0, 0, 0, [])]
theorem zk124 : zchk RX7 cX7_told 3 true (some .int) zc124 [0, 0, 4188, 0, 4174, 0, 0, 0, 0, 0, 0, 4192, 0, 0, 0, 4196, 0, 0, 0, 4218, 0, 0, 0, 4222, 0, 0, 0, 4226, 0, 4174, 0] = true := by decide +kernel
def zc125 : List zE := [(0, .iload_n 0, 0, 0, 0, 0, []),
  (1, .iload_n 1, 1, 0, 0, 0, []),
  (2, .if_icmp .eq 27, 29, 0, 0, 0, []),
  (5, .iload_n 1, 1, 0, 0, 0, []),
  (6, .ifCond .eq 23, 29, 0, 0, 0, []),
  (9, .iload_n 1, 1, 0, 0, 0, []),
  (10, .iconst 1, 0, 0, 0, 1, []),
  (11, .if_icmp .ne 8, 19, 0, 0, 0, []),
  (14, .iload_n 0, 0, 0, 0, 0, []),
  (15, .iconst 3, 0, 0, 0, 3, []),
  (16, .if_icmp .eq 13, 29, 0, 0, 0, []),
  (19, .iload_n 1, 1, 0, 0, 0, []),
  (20, .iconst 2, 0, 0, 0, 2, []),
  (21, .if_icmp .ne 12, 33, 0, 0, 0, []),
  (24, .iload_n 0, 0, 0, 0, 0, []),
  (25, .iconst 4, 0, 0, 0, 4, []),
  (26, .if_icmp .ne 7, 33, 0, 0, 0, []),
  (29, .iconst 1, 0, 0, 0, 1, []),
  (30, .goto 4, 34, 0, 0, 0, []),
  (33, .iconst 0, 0, 0, 0, 0, []),
  (34, .ireturn, 0, 0, 1, 0, [])]
theorem zk125 : zchk RX7 cX7_isOf 2 true (some .boolean) zc125 [0, 0, 0, 0, 0, 0, 0, 0, 0, 0, 0, 0, 0, 0, 0, 0, 0, 0, 0, 0, 0] = true := by decide +kernel
def zc126 : List zE := [(0, .aload_n 0, 0, 0, 0, 0, []),
  (1, .iload_n 1, 1, 0, 0, 0, []),
  (2, .invokevirtual 104, 115, 1, 7, 0, []),
  (5, .ifCond .eq 15, 20, 0, 0, 0, []),
  (8, .iload_n 2, 2, 0, 0, 0, []),
  (9, .i2l, 0, 0, 0, 0, []),
  (10, .lconst 0, 0, 0, 0, 0, []),
  (11, .ldc2_w 81, 0, 0, 0, 5, []),
  (14, .invokestatic 72, 106, 3, 0, 0, []),
  (17, .ifCond .ne 6, 23, 0, 0, 0, []),
  (20, .ldc 85, 0, 0, 0, (-1000000001), []),
  (22, .ireturn, 0, 0, 0, 0, []),
  (23, .aload_n 0, 0, 0, 0, 0, []),
  (24, .iload_n 1, 1, 0, 0, 0, []),
  (25, .iconst 0, 0, 0, 0, 0, []),
  (26, .invokevirtual 90, 113, 2, 7, 0, []),
  (29, .iload_n 2, 2, 0, 0, 0, []),
  (30, .invokestatic 120, 125, 2, 0, 0, []),
  (33, .ifCond .eq 12, 45, 0, 0, 0, []),
  (36, .aload_n 0, 0, 0, 0, 0, []),
  (37, .iload_n 1, 1, 0, 0, 0, []),
  (38, .iconst 1, 0, 0, 0, 1, []),
  (39, .invokevirtual 90, 113, 2, 7, 0, []),
  (42, .goto 5, 47, 0, 0, 0, []),
  (45, .ldc 124, 0, 0, 0, (-1000000012), []),
  (47, .ireturn, 0, 0, 0, 0, [])]
theorem zk126 : zchk RX7 cX7_as 3 true (some .int) zc126 [0, 0, 4188, 0, 0, 0, 0, 4169, 4170, 0, 4174, 0, 0, 0, 0, 4192, 0, 4234, 0, 0, 0, 0, 4192, 0, 4237, 0] = true := by decide +kernel
def zc127 : List zE := [(0, .aload_n 0, 0, 0, 0, 0, []),
  (1, .iload_n 1, 1, 0, 0, 0, []),
  (2, .invokevirtual 104, 115, 1, 7, 0, []),
  (5, .ifCond .eq 29, 34, 0, 0, 0, []),
  (8, .iload_n 2, 2, 0, 0, 0, []),
  (9, .i2l, 0, 0, 0, 0, []),
  (10, .lconst 0, 0, 0, 0, 0, []),
  (11, .ldc2_w 81, 0, 0, 0, 5, []),
  (14, .invokestatic 72, 106, 3, 0, 0, []),
  (17, .ifCond .eq 17, 34, 0, 0, 0, []),
  (20, .aload_n 0, 0, 0, 0, 0, []),
  (21, .bipush 12, 0, 0, 0, 12, []),
  (23, .iconst 5, 0, 0, 0, 5, []),
  (24, .iload_n 1, 1, 0, 0, 0, []),
  (25, .imul, 0, 0, 0, 0, []),
  (26, .iadd, 0, 0, 0, 0, []),
  (27, .iload_n 2, 2, 0, 0, 0, []),
  (28, .invokevirtual 125, 111, 2, 7, 0, []),
  (31, .goto 5, 36, 0, 0, 0, []),
  (34, .ldc 85, 0, 0, 0, (-1000000001), []),
  (36, .ireturn, 0, 0, 0, 0, [])]
theorem zk127 : zchk RX7 cX7_turns 3 true (some .int) zc127 [0, 0, 4188, 0, 0, 0, 0, 4169, 4170, 0, 0, 0, 0, 0, 0, 0, 0, 5002, 0, 4174, 0] = true := by decide +kernel
def zc128 : List zE := [(0, .aload_n 0, 0, 0, 0, 0, []),
  (1, .iload_n 1, 1, 0, 0, 0, []),
  (2, .invokevirtual 104, 115, 1, 7, 0, []),
  (5, .ifCond .eq 56, 61, 0, 0, 0, []),
  (8, .iload_n 2, 2, 0, 0, 0, []),
  (9, .i2l, 0, 0, 0, 0, []),
  (10, .lconst 1, 0, 0, 0, 1, []),
  (11, .ldc2_w 128, 0, 0, 0, 3, []),
  (14, .invokestatic 72, 106, 3, 0, 0, []),
  (17, .ifCond .eq 44, 61, 0, 0, 0, []),
  (20, .iload_n 3, 3, 0, 0, 0, []),
  (21, .i2l, 0, 0, 0, 0, []),
  (22, .iload_n 2, 2, 0, 0, 0, []),
  (23, .iconst 1, 0, 0, 0, 1, []),
  (24, .if_icmp .ne 7, 31, 0, 0, 0, []),
  (27, .lconst 1, 0, 0, 0, 1, []),
  (28, .goto 4, 32, 0, 0, 0, []),
  (31, .lconst 0, 0, 0, 0, 0, []),
  (32, .iload_n 2, 2, 0, 0, 0, []),
  (33, .iconst 1, 0, 0, 0, 1, []),
  (34, .if_icmp .ne 9, 43, 0, 0, 0, []),
  (37, .ldc2_w 83, 0, 0, 0, 99, []),
  (40, .goto 15, 55, 0, 0, 0, []),
  (43, .iload_n 2, 2, 0, 0, 0, []),
  (44, .iconst 2, 0, 0, 0, 2, []),
  (45, .if_icmp .ne 7, 52, 0, 0, 0, []),
  (48, .lconst 1, 0, 0, 0, 1, []),
  (49, .goto 6, 55, 0, 0, 0, []),
  (52, .ldc2_w 130, 0, 0, 0, 9999, []),
  (55, .invokestatic 72, 106, 3, 0, 0, []),
  (58, .ifCond .ne 6, 64, 0, 0, 0, []),
  (61, .ldc 85, 0, 0, 0, (-1000000001), []),
  (63, .ireturn, 0, 0, 0, 0, []),
  (64, .aload_n 0, 0, 0, 0, 0, []),
  (65, .bipush 12, 0, 0, 0, 12, []),
  (67, .iconst 5, 0, 0, 0, 5, []),
  (68, .iload_n 1, 1, 0, 0, 0, []),
  (69, .imul, 0, 0, 0, 0, []),
  (70, .iadd, 0, 0, 0, 0, []),
  (71, .iload_n 2, 2, 0, 0, 0, []),
  (72, .iadd, 0, 0, 0, 0, []),
  (73, .iload_n 3, 3, 0, 0, 0, []),
  (74, .invokevirtual 125, 111, 2, 7, 0, []),
  (77, .ireturn, 0, 0, 0, 0, [])]
theorem zk128 : zchk RX7 cX7_set 4 true (some .int) zc128 [0, 0, 4188, 0, 0, 0, 0, 5010, 4170, 0, 0, 0, 0, 0, 0, 0, 0, 0, 0, 0, 0, 4173, 0, 0, 0, 0, 0, 0, 5011, 4170, 0, 4174, 0, 0, 0, 0, 0, 0, 0, 0, 0, 0, 5002, 0] = true := by decide +kernel
def zc129 : List zE := [(0, .bipush 30, 0, 0, 0, 30, []),
  (2, .aload_n 0, 0, 0, 0, 0, []),
  (3, .getfield 7, 7, 0, 0, 0, []),
  (6, .bipush 7, 0, 0, 0, 7, []),
  (8, .iaload, 0, 0, 0, 0, []),
  (9, .bipush 30, 0, 0, 0, 30, []),
  (11, .invokestatic 132, 109, 2, 0, 0, []),
  (14, .isub, 0, 0, 0, 0, []),
  (15, .istore_n 1, 1, 0, 0, 0, []),
  (16, .iload_n 1, 1, 0, 0, 0, []),
  (17, .ifCond .ge 7, 24, 0, 0, 0, []),
  (20, .iconst 0, 0, 0, 0, 0, []),
  (21, .goto 4, 25, 0, 0, 0, []),
  (24, .iload_n 1, 1, 0, 0, 0, []),
  (25, .ireturn, 0, 0, 0, 0, [])]
theorem zk129 : zchk RX7 cX7_effect 2 true (some .int) zc129 [0, 0, 4065, 0, 0, 0, 5021, 0, 0, 0, 0, 0, 0, 0, 0] = true := by decide +kernel
def zc130 : List zE := [(0, .aload_n 0, 0, 0, 0, 0, []),
  (1, .getfield 7, 7, 0, 0, 0, []),
  (4, .bipush 9, 0, 0, 0, 9, []),
  (6, .iaload, 0, 0, 0, 0, []),
  (7, .ifCond .eq 10, 17, 0, 0, 0, []),
  (10, .aload_n 0, 0, 0, 0, 0, []),
  (11, .invokevirtual 135, 129, 0, 7, 0, []),
  (14, .ifCond .ne 6, 20, 0, 0, 0, []),
  (17, .bipush 60, 0, 0, 0, 60, []),
  (19, .ireturn, 0, 0, 0, 0, []),
  (20, .iconst 4, 0, 0, 0, 4, []),
  (21, .sipush 300, 0, 0, 0, 300, []),
  (24, .iconst 1, 0, 0, 0, 1, []),
  (25, .aload_n 0, 0, 0, 0, 0, []),
  (26, .getfield 7, 7, 0, 0, 0, []),
  (29, .bipush 9, 0, 0, 0, 9, []),
  (31, .iaload, 0, 0, 0, 0, []),
  (32, .aload_n 0, 0, 0, 0, 0, []),
  (33, .invokevirtual 135, 129, 0, 7, 0, []),
  (36, .imul, 0, 0, 0, 0, []),
  (37, .bipush 30, 0, 0, 0, 30, []),
  (39, .idiv, 0, 0, 0, 0, []),
  (40, .iadd, 0, 0, 0, 0, []),
  (41, .idiv, 0, 0, 0, 0, []),
  (42, .iadd, 0, 0, 0, 0, []),
  (43, .istore_n 1, 1, 0, 0, 0, []),
  (44, .iload_n 1, 1, 0, 0, 0, []),
  (45, .bipush 60, 0, 0, 0, 60, []),
  (47, .if_icmp .le 8, 55, 0, 0, 0, []),
  (50, .bipush 60, 0, 0, 0, 60, []),
  (52, .goto 4, 56, 0, 0, 0, []),
  (55, .iload_n 1, 1, 0, 0, 0, []),
  (56, .ireturn, 0, 0, 0, 0, [])]
theorem zk130 : zchk RX7 cX7_minutes 2 true (some .int) zc130 [0, 4065, 0, 0, 0, 0, 5017, 0, 0, 0, 0, 0, 0, 0, 4065, 0, 0, 0, 5017, 0, 0, 0, 0, 0, 0, 0, 0, 0, 0, 0, 0, 0, 0] = true := by decide +kernel
def zc131 : List zE := [(0, .iload_n 1, 1, 0, 0, 0, []),
  (1, .i2l, 0, 0, 0, 0, []),
  (2, .lconst 0, 0, 0, 0, 0, []),
  (3, .ldc2_w 139, 0, 0, 0, 7, []),
  (6, .invokestatic 72, 106, 3, 0, 0, []),
  (9, .ifCond .ne 6, 15, 0, 0, 0, []),
  (12, .ldc 85, 0, 0, 0, (-1000000001), []),
  (14, .ireturn, 0, 0, 0, 0, []),
  (15, .iload_n 1, 1, 0, 0, 0, []),
  (16, .bipush 6, 0, 0, 0, 6, []),
  (18, .if_icmp .ge 15, 33, 0, 0, 0, []),
  (21, .aload_n 0, 0, 0, 0, 0, []),
  (22, .getfield 7, 7, 0, 0, 0, []),
  (25, .bipush 6, 0, 0, 0, 6, []),
  (27, .iload_n 1, 1, 0, 0, 0, []),
  (28, .iadd, 0, 0, 0, 0, []),
  (29, .iaload, 0, 0, 0, 0, []),
  (30, .goto 20, 50, 0, 0, 0, []),
  (33, .iload_n 1, 1, 0, 0, 0, []),
  (34, .bipush 6, 0, 0, 0, 6, []),
  (36, .if_icmp .ne 10, 46, 0, 0, 0, []),
  (39, .aload_n 0, 0, 0, 0, 0, []),
  (40, .invokevirtual 135, 129, 0, 7, 0, []),
  (43, .goto 7, 50, 0, 0, 0, []),
  (46, .aload_n 0, 0, 0, 0, 0, []),
  (47, .invokevirtual 141, 130, 0, 7, 0, []),
  (50, .ireturn, 0, 0, 0, 0, [])]
theorem zk131 : zchk RX7 cX7_boat 2 true (some .int) zc131 [0, 0, 0, 5016, 4170, 0, 4174, 0, 0, 0, 0, 0, 4065, 0, 0, 0, 0, 0, 0, 0, 0, 0, 5017, 0, 0, 5024, 0] = true := by decide +kernel
def zc132 : List zE := [(0, .iload_n 0, 0, 0, 0, 0, []),
  (1, .tableswitch 50 0 4 #[35, 37, 40, 43, 46], 51, 35, 0, 0, [(0, 36), (1, 38), (2, 41), (3, 44), (4, 47)]),
  (36, .iconst 1, 0, 0, 0, 1, []),
  (37, .ireturn, 0, 0, 0, 0, []),
  (38, .bipush 90, 0, 0, 0, 90, []),
  (40, .ireturn, 0, 0, 0, 0, []),
  (41, .bipush 20, 0, 0, 0, 20, []),
  (43, .ireturn, 0, 0, 0, 0, []),
  (44, .bipush 99, 0, 0, 0, 99, []),
  (46, .ireturn, 0, 0, 0, 0, []),
  (47, .sipush 9999, 0, 0, 0, 9999, []),
  (50, .ireturn, 0, 0, 0, 0, []),
  (51, .bipush 10, 0, 0, 0, 10, []),
  (53, .ireturn, 0, 0, 0, 0, [])]
theorem zk132 : zchk RX7 cX7_mostOf 1 true (some .int) zc132 [0, 0, 0, 0, 0, 0, 0, 0, 0, 0, 0, 0, 0, 0] = true := by decide +kernel
def zc133 : List zE := [(0, .iload_n 1, 1, 0, 0, 0, []),
  (1, .i2l, 0, 0, 0, 0, []),
  (2, .lconst 0, 0, 0, 0, 0, []),
  (3, .ldc2_w 81, 0, 0, 0, 5, []),
  (6, .invokestatic 72, 106, 3, 0, 0, []),
  (9, .ifCond .eq 31, 40, 0, 0, 0, []),
  (12, .iload_n 2, 2, 0, 0, 0, []),
  (13, .i2l, 0, 0, 0, 0, []),
  (14, .iload_n 1, 1, 0, 0, 0, []),
  (15, .iconst 2, 0, 0, 0, 2, []),
  (16, .if_icmp .eq 8, 24, 0, 0, 0, []),
  (19, .iload_n 1, 1, 0, 0, 0, []),
  (20, .iconst 4, 0, 0, 0, 4, []),
  (21, .if_icmp .ne 7, 28, 0, 0, 0, []),
  (24, .lconst 1, 0, 0, 0, 1, []),
  (25, .goto 4, 29, 0, 0, 0, []),
  (28, .lconst 0, 0, 0, 0, 0, []),
  (29, .iload_n 1, 1, 0, 0, 0, []),
  (30, .invokestatic 144, 132, 1, 0, 0, []),
  (33, .i2l, 0, 0, 0, 0, []),
  (34, .invokestatic 72, 106, 3, 0, 0, []),
  (37, .ifCond .ne 6, 43, 0, 0, 0, []),
  (40, .ldc 85, 0, 0, 0, (-1000000001), []),
  (42, .ireturn, 0, 0, 0, 0, []),
  (43, .aload_n 0, 0, 0, 0, 0, []),
  (44, .bipush 6, 0, 0, 0, 6, []),
  (46, .iload_n 1, 1, 0, 0, 0, []),
  (47, .iadd, 0, 0, 0, 0, []),
  (48, .iload_n 2, 2, 0, 0, 0, []),
  (49, .invokevirtual 125, 111, 2, 7, 0, []),
  (52, .ireturn, 0, 0, 0, 0, [])]
theorem zk133 : zchk RX7 cX7_rule 3 true (some .int) zc133 [0, 0, 0, 4169, 4170, 0, 0, 0, 0, 0, 0, 0, 0, 0, 0, 0, 0, 0, 5032, 0, 4170, 0, 4174, 0, 0, 0, 0, 0, 0, 5002, 0] = true := by decide +kernel
def zc134 : List zE := [(0, .aload_n 0, 0, 0, 0, 0, []),
  (1, .iconst 1, 0, 0, 0, 1, []),
  (2, .invokevirtual 94, 179, 1, 7, 0, []),
  (5, .istore_n 2, 2, 0, 0, 0, []),
  (6, .iload_n 2, 2, 0, 0, 0, []),
  (7, .ifCond .ge 19, 26, 0, 0, 0, []),
  (10, .aload_n 0, 0, 0, 0, 0, []),
  (11, .getfield 7, 7, 0, 0, 0, []),
  (14, .bipush 9, 0, 0, 0, 9, []),
  (16, .iaload, 0, 0, 0, 0, []),
  (17, .iload_n 1, 1, 0, 0, 0, []),
  (18, .bipush 20, 0, 0, 0, 20, []),
  (20, .iadd, 0, 0, 0, 0, []),
  (21, .imul, 0, 0, 0, 0, []),
  (22, .bipush 10, 0, 0, 0, 10, []),
  (24, .idiv, 0, 0, 0, 0, []),
  (25, .ireturn, 0, 0, 0, 0, []),
  (26, .aload_n 0, 0, 0, 0, 0, []),
  (27, .getfield 56, 7, 27, 0, 0, []),
  (30, .bipush 115, 0, 0, 0, 115, []),
  (32, .aload_n 0, 0, 0, 0, 0, []),
  (33, .getfield 7, 7, 0, 0, 0, []),
  (36, .bipush 9, 0, 0, 0, 9, []),
  (38, .iaload, 0, 0, 0, 0, []),
  (39, .iastore, 0, 0, 0, 0, []),
  (40, .aload_n 0, 0, 0, 0, 0, []),
  (41, .getfield 56, 7, 27, 0, 0, []),
  (44, .bipush 119, 0, 0, 0, 119, []),
  (46, .iload_n 1, 1, 0, 0, 0, []),
  (47, .iastore, 0, 0, 0, 0, []),
  (48, .aload_n 0, 0, 0, 0, 0, []),
  (49, .getfield 56, 7, 27, 0, 0, []),
  (52, .bipush 97, 0, 0, 0, 97, []),
  (54, .aload_n 0, 0, 0, 0, 0, []),
  (55, .getfield 7, 7, 0, 0, 0, []),
  (58, .bipush 7, 0, 0, 0, 7, []),
  (60, .iaload, 0, 0, 0, 0, []),
  (61, .iastore, 0, 0, 0, 0, []),
  (62, .aload_n 0, 0, 0, 0, 0, []),
  (63, .iload_n 2, 2, 0, 0, 0, []),
  (64, .invokevirtual 98, 182, 1, 7, 0, []),
  (67, .iconst 0, 0, 0, 0, 0, []),
  (68, .sipush 9999, 0, 0, 0, 9999, []),
  (71, .invokestatic 101, 108, 3, 0, 0, []),
  (74, .ireturn, 0, 0, 0, 0, [])]
theorem zk134 : zchk RX7 cX7_pullOf 3 true (some .int) zc134 [0, 0, 4200, 0, 0, 0, 0, 4065, 0, 0, 0, 0, 0, 0, 0, 0, 0, 0, 4092, 0, 0, 4065, 0, 0, 0, 0, 4092, 0, 0, 0, 0, 4092, 0, 0, 4065, 0, 0, 0, 0, 0, 4208, 0, 0, 4215, 0] = true := by decide +kernel
def zc135 : List zE := [(0, .iload_n 1, 1, 0, 0, 0, []),
  (1, .i2l, 0, 0, 0, 0, []),
  (2, .lconst 0, 0, 0, 0, 0, []),
  (3, .ldc2_w 147, 0, 0, 0, 999, []),
  (6, .invokestatic 72, 106, 3, 0, 0, []),
  (9, .ifCond .eq 11, 20, 0, 0, 0, []),
  (12, .aload_n 0, 0, 0, 0, 0, []),
  (13, .iload_n 1, 1, 0, 0, 0, []),
  (14, .invokevirtual 149, 134, 1, 7, 0, []),
  (17, .goto 5, 22, 0, 0, 0, []),
  (20, .ldc 85, 0, 0, 0, (-1000000001), []),
  (22, .ireturn, 0, 0, 0, 0, [])]
theorem zk135 : zchk RX7 cX7_pull 2 true (some .int) zc135 [0, 0, 0, 5039, 4170, 0, 0, 0, 5040, 0, 4174, 0] = true := by decide +kernel
def zc136 : List zE := [(0, .iconst (-1), 0, 0, 0, (-1), []),
  (1, .istore_n 2, 2, 0, 0, 0, []),
  (2, .iconst 0, 0, 0, 0, 0, []),
  (3, .istore_n 3, 3, 0, 0, 0, []),
  (4, .iload_n 3, 3, 0, 0, 0, []),
  (5, .aload_n 0, 0, 0, 0, 0, []),
  (6, .getfield 7, 7, 0, 0, 0, []),
  (9, .iconst 0, 0, 0, 0, 0, []),
  (10, .iaload, 0, 0, 0, 0, []),
  (11, .if_icmp .ge 76, 87, 0, 0, 0, []),
  (14, .iload_n 1, 1, 0, 0, 0, []),
  (15, .iload_n 3, 3, 0, 0, 0, []),
  (16, .ishr, 0, 0, 0, 0, []),
  (17, .iconst 1, 0, 0, 0, 1, []),
  (18, .iand, 0, 0, 0, 0, []),
  (19, .ifCond .ne 31, 50, 0, 0, 0, []),
  (22, .aload_n 0, 0, 0, 0, 0, []),
  (23, .iload_n 3, 3, 0, 0, 0, []),
  (24, .iconst 2, 0, 0, 0, 2, []),
  (25, .invokevirtual 90, 113, 2, 7, 0, []),
  (28, .aload_n 0, 0, 0, 0, 0, []),
  (29, .getfield 7, 7, 0, 0, 0, []),
  (32, .bipush 6, 0, 0, 0, 6, []),
  (34, .iaload, 0, 0, 0, 0, []),
  (35, .if_icmp .ne 15, 50, 0, 0, 0, []),
  (38, .iload_n 3, 3, 0, 0, 0, []),
  (39, .aload_n 0, 0, 0, 0, 0, []),
  (40, .getfield 43, 7, 12, 0, 0, []),
  (43, .if_icmp .eq 7, 50, 0, 0, 0, []),
  (46, .iconst 1, 0, 0, 0, 1, []),
  (47, .goto 4, 51, 0, 0, 0, []),
  (50, .iconst 0, 0, 0, 0, 0, []),
  (51, .istore 4, 4, 0, 0, 0, []),
  (53, .iload 4, 4, 0, 0, 0, []),
  (55, .ifCond .eq 24, 79, 0, 0, 0, []),
  (58, .iload_n 2, 2, 0, 0, 0, []),
  (59, .ifCond .lt 16, 75, 0, 0, 0, []),
  (62, .aload_n 0, 0, 0, 0, 0, []),
  (63, .iload_n 3, 3, 0, 0, 0, []),
  (64, .invokevirtual 114, 122, 1, 7, 0, []),
  (67, .aload_n 0, 0, 0, 0, 0, []),
  (68, .iload_n 2, 2, 0, 0, 0, []),
  (69, .invokevirtual 114, 122, 1, 7, 0, []),
  (72, .if_icmp .le 7, 79, 0, 0, 0, []),
  (75, .iload_n 3, 3, 0, 0, 0, []),
  (76, .goto 4, 80, 0, 0, 0, []),
  (79, .iload_n 2, 2, 0, 0, 0, []),
  (80, .istore_n 2, 2, 0, 0, 0, []),
  (81, .iinc 3 1, 3, 0, 0, 1, []),
  (84, .goto (-80), 4, 0, 0, 0, []),
  (87, .iload_n 2, 2, 0, 0, 0, []),
  (88, .ireturn, 0, 0, 0, 0, [])]
theorem zk136 : zchk RX7 cX7_nextUrging 5 true (some .int) zc136 [0, 0, 0, 0, 0, 0, 4065, 0, 0, 0, 0, 0, 0, 0, 0, 0, 0, 0, 0, 4192, 0, 4065, 0, 0, 0, 0, 0, 4077, 0, 0, 0, 0, 0, 0, 0, 0, 0, 0, 0, 4222, 0, 0, 4222, 0, 0, 0, 0, 0, 0, 0, 0, 0] = true := by decide +kernel
def zc137 : List zE := [(0, .iconst 0, 0, 0, 0, 0, []),
  (1, .istore_n 1, 1, 0, 0, 0, []),
  (2, .iconst 0, 0, 0, 0, 0, []),
  (3, .istore_n 2, 2, 0, 0, 0, []),
  (4, .aload_n 0, 0, 0, 0, 0, []),
  (5, .getfield 7, 7, 0, 0, 0, []),
  (8, .bipush 8, 0, 0, 0, 8, []),
  (10, .iaload, 0, 0, 0, 0, []),
  (11, .istore_n 3, 3, 0, 0, 0, []),
  (12, .iconst 0, 0, 0, 0, 0, []),
  (13, .istore 4, 4, 0, 0, 0, []),
  (15, .aload_n 0, 0, 0, 0, 0, []),
  (16, .iload_n 1, 1, 0, 0, 0, []),
  (17, .invokevirtual 152, 136, 1, 7, 0, []),
  (20, .istore 5, 5, 0, 0, 0, []),
  (22, .iload 5, 5, 0, 0, 0, []),
  (24, .ifCond .lt 82, 106, 0, 0, 0, []),
  (27, .iload_n 1, 1, 0, 0, 0, []),
  (28, .iconst 1, 0, 0, 0, 1, []),
  (29, .iload 5, 5, 0, 0, 0, []),
  (31, .ishl, 0, 0, 0, 0, []),
  (32, .ior, 0, 0, 0, 0, []),
  (33, .istore_n 1, 1, 0, 0, 0, []),
  (34, .aload_n 0, 0, 0, 0, 0, []),
  (35, .iload 5, 5, 0, 0, 0, []),
  (37, .invokevirtual 111, 121, 1, 7, 0, []),
  (40, .iload_n 3, 3, 0, 0, 0, []),
  (41, .if_icmp .gt 55, 96, 0, 0, 0, []),
  (44, .aload_n 0, 0, 0, 0, 0, []),
  (45, .iload 4, 4, 0, 0, 0, []),
  (47, .aload_n 0, 0, 0, 0, 0, []),
  (48, .iload 5, 5, 0, 0, 0, []),
  (50, .iconst 1, 0, 0, 0, 1, []),
  (51, .invokevirtual 90, 113, 2, 7, 0, []),
  (54, .iadd, 0, 0, 0, 0, []),
  (55, .invokevirtual 149, 134, 1, 7, 0, []),
  (58, .aload_n 0, 0, 0, 0, 0, []),
  (59, .getfield 7, 7, 0, 0, 0, []),
  (62, .bipush 10, 0, 0, 0, 10, []),
  (64, .iaload, 0, 0, 0, 0, []),
  (65, .if_icmp .gt 31, 96, 0, 0, 0, []),
  (68, .iload_n 2, 2, 0, 0, 0, []),
  (69, .iconst 1, 0, 0, 0, 1, []),
  (70, .iload 5, 5, 0, 0, 0, []),
  (72, .ishl, 0, 0, 0, 0, []),
  (73, .ior, 0, 0, 0, 0, []),
  (74, .istore_n 2, 2, 0, 0, 0, []),
  (75, .iload_n 3, 3, 0, 0, 0, []),
  (76, .aload_n 0, 0, 0, 0, 0, []),
  (77, .iload 5, 5, 0, 0, 0, []),
  (79, .invokevirtual 111, 121, 1, 7, 0, []),
  (82, .isub, 0, 0, 0, 0, []),
  (83, .istore_n 3, 3, 0, 0, 0, []),
  (84, .iload 4, 4, 0, 0, 0, []),
  (86, .aload_n 0, 0, 0, 0, 0, []),
  (87, .iload 5, 5, 0, 0, 0, []),
  (89, .iconst 1, 0, 0, 0, 1, []),
  (90, .invokevirtual 90, 113, 2, 7, 0, []),
  (93, .iadd, 0, 0, 0, 0, []),
  (94, .istore 4, 4, 0, 0, 0, []),
  (96, .aload_n 0, 0, 0, 0, 0, []),
  (97, .iload_n 1, 1, 0, 0, 0, []),
  (98, .invokevirtual 152, 136, 1, 7, 0, []),
  (101, .istore 5, 5, 0, 0, 0, []),
  (103, .goto (-81), 22, 0, 0, 0, []),
  (106, .iload_n 2, 2, 0, 0, 0, []),
  (107, .ireturn, 0, 0, 0, 0, [])]
theorem zk137 : zchk RX7 cX7_loads 6 true (some .int) zc137 [0, 0, 0, 0, 0, 4065, 0, 0, 0, 0, 0, 0, 0, 5052, 0, 0, 0, 0, 0, 0, 0, 0, 0, 0, 0, 4218, 0, 0, 0, 0, 0, 0, 0, 4192, 0, 5040, 0, 4065, 0, 0, 0, 0, 0, 0, 0, 0, 0, 0, 0, 0, 4218, 0, 0, 0, 0, 0, 0, 4192, 0, 0, 0, 0, 5052, 0, 0, 0, 0] = true := by decide +kernel
def zc138 : List zE := [(0, .aload_n 0, 0, 0, 0, 0, []),
  (1, .invokevirtual 155, 137, 0, 7, 0, []),
  (4, .ireturn, 0, 0, 0, 0, [])]
theorem zk138 : zchk RX7 cX7_loading 1 true (some .int) zc138 [0, 5048, 0] = true := by decide +kernel
def zc139 : List zE := [(0, .iload_n 1, 1, 0, 0, 0, []),
  (1, .i2l, 0, 0, 0, 0, []),
  (2, .lconst 1, 0, 0, 0, 1, []),
  (3, .ldc2_w 158, 0, 0, 0, 10, []),
  (6, .invokestatic 72, 106, 3, 0, 0, []),
  (9, .ifCond .ne 6, 15, 0, 0, 0, []),
  (12, .ldc 85, 0, 0, 0, (-1000000001), []),
  (14, .ireturn, 0, 0, 0, 0, []),
  (15, .iconst 0, 0, 0, 0, 0, []),
  (16, .istore_n 2, 2, 0, 0, 0, []),
  (17, .iload_n 2, 2, 0, 0, 0, []),
  (18, .iload_n 1, 1, 0, 0, 0, []),
  (19, .if_icmp .ge 52, 71, 0, 0, 0, []),
  (22, .aload_n 0, 0, 0, 0, 0, []),
  (23, .getfield 7, 7, 0, 0, 0, []),
  (26, .iconst 0, 0, 0, 0, 0, []),
  (27, .iaload, 0, 0, 0, 0, []),
  (28, .bipush 10, 0, 0, 0, 10, []),
  (30, .if_icmp .ge 41, 71, 0, 0, 0, []),
  (33, .aload_n 0, 0, 0, 0, 0, []),
  (34, .invokevirtual 160, 117, 0, 7, 0, []),
  (37, .bipush 6, 0, 0, 0, 6, []),
  (39, .irem, 0, 0, 0, 0, []),
  (40, .istore_n 3, 3, 0, 0, 0, []),
  (41, .iconst 1, 0, 0, 0, 1, []),
  (42, .aload_n 0, 0, 0, 0, 0, []),
  (43, .invokevirtual 160, 117, 0, 7, 0, []),
  (46, .bipush 60, 0, 0, 0, 60, []),
  (48, .irem, 0, 0, 0, 0, []),
  (49, .iadd, 0, 0, 0, 0, []),
  (50, .istore 4, 4, 0, 0, 0, []),
  (52, .aload_n 0, 0, 0, 0, 0, []),
  (53, .iload_n 3, 3, 0, 0, 0, []),
  (54, .iload 4, 4, 0, 0, 0, []),
  (56, .aload_n 0, 0, 0, 0, 0, []),
  (57, .invokevirtual 160, 117, 0, 7, 0, []),
  (60, .iconst 2, 0, 0, 0, 2, []),
  (61, .irem, 0, 0, 0, 0, []),
  (62, .invokevirtual 87, 118, 3, 7, 0, []),
  (65, .iinc 2 1, 2, 0, 0, 1, []),
  (68, .goto (-51), 17, 0, 0, 0, []),
  (71, .iload_n 2, 2, 0, 0, 0, []),
  (72, .ireturn, 0, 0, 0, 0, [])]
theorem zk139 : zchk RX7 cX7_deal 5 true (some .int) zc139 [0, 0, 0, 5060, 4170, 0, 4174, 0, 0, 0, 0, 0, 0, 0, 4065, 0, 0, 0, 0, 0, 5061, 0, 0, 0, 0, 0, 5061, 0, 0, 0, 0, 0, 0, 0, 0, 5061, 0, 0, 4176, 0, 0, 0, 0] = true := by decide +kernel
def zc140 : List zE := [(0, .aload_n 0, 0, 0, 0, 0, []),
  (1, .iconst 5, 0, 0, 0, 5, []),
  (2, .iload_n 1, 1, 0, 0, 0, []),
  (3, .invokevirtual 125, 111, 2, 7, 0, []),
  (6, .ireturn, 0, 0, 0, 0, [])]
theorem zk140 : zchk RX7 cX7_seed 2 true (some .int) zc140 [0, 0, 0, 5002, 0] = true := by decide +kernel
def zc141 : List zE := [(0, .iconst 0, 0, 0, 0, 0, []),
  (1, .istore_n 2, 2, 0, 0, 0, []),
  (2, .iconst 0, 0, 0, 0, 0, []),
  (3, .istore_n 3, 3, 0, 0, 0, []),
  (4, .iload_n 3, 3, 0, 0, 0, []),
  (5, .aload_n 0, 0, 0, 0, 0, []),
  (6, .getfield 7, 7, 0, 0, 0, []),
  (9, .iconst 0, 0, 0, 0, 0, []),
  (10, .iaload, 0, 0, 0, 0, []),
  (11, .if_icmp .ge 27, 38, 0, 0, 0, []),
  (14, .iload_n 2, 2, 0, 0, 0, []),
  (15, .aload_n 0, 0, 0, 0, 0, []),
  (16, .iload_n 3, 3, 0, 0, 0, []),
  (17, .iconst 2, 0, 0, 0, 2, []),
  (18, .invokevirtual 90, 113, 2, 7, 0, []),
  (21, .iload_n 1, 1, 0, 0, 0, []),
  (22, .if_icmp .ne 7, 29, 0, 0, 0, []),
  (25, .iconst 1, 0, 0, 0, 1, []),
  (26, .goto 4, 30, 0, 0, 0, []),
  (29, .iconst 0, 0, 0, 0, 0, []),
  (30, .iadd, 0, 0, 0, 0, []),
  (31, .istore_n 2, 2, 0, 0, 0, []),
  (32, .iinc 3 1, 3, 0, 0, 1, []),
  (35, .goto (-31), 4, 0, 0, 0, []),
  (38, .iload_n 2, 2, 0, 0, 0, []),
  (39, .ireturn, 0, 0, 0, 0, [])]
theorem zk141 : zchk RX7 cX7_manyOn 4 true (some .int) zc141 [0, 0, 0, 0, 0, 0, 4065, 0, 0, 0, 0, 0, 0, 0, 4192, 0, 0, 0, 0, 0, 0, 0, 0, 0, 0, 0] = true := by decide +kernel
def zc142 : List zE := [(0, .iconst 0, 0, 0, 0, 0, []),
  (1, .istore_n 2, 2, 0, 0, 0, []),
  (2, .iload_n 2, 2, 0, 0, 0, []),
  (3, .aload_n 0, 0, 0, 0, 0, []),
  (4, .getfield 7, 7, 0, 0, 0, []),
  (7, .iconst 0, 0, 0, 0, 0, []),
  (8, .iaload, 0, 0, 0, 0, []),
  (9, .if_icmp .ge 31, 40, 0, 0, 0, []),
  (12, .aload_n 0, 0, 0, 0, 0, []),
  (13, .iload_n 2, 2, 0, 0, 0, []),
  (14, .iconst 2, 0, 0, 0, 2, []),
  (15, .invokevirtual 90, 113, 2, 7, 0, []),
  (18, .iload_n 1, 1, 0, 0, 0, []),
  (19, .if_icmp .ne 15, 34, 0, 0, 0, []),
  (22, .aload_n 0, 0, 0, 0, 0, []),
  (23, .iload_n 2, 2, 0, 0, 0, []),
  (24, .iconst 0, 0, 0, 0, 0, []),
  (25, .invokevirtual 90, 113, 2, 7, 0, []),
  (28, .iconst 5, 0, 0, 0, 5, []),
  (29, .if_icmp .ne 5, 34, 0, 0, 0, []),
  (32, .iconst 1, 0, 0, 0, 1, []),
  (33, .ireturn, 0, 0, 1, 0, []),
  (34, .iinc 2 1, 2, 0, 0, 1, []),
  (37, .goto (-35), 2, 0, 0, 0, []),
  (40, .iconst 0, 0, 0, 0, 0, []),
  (41, .ireturn, 0, 0, 1, 0, [])]
theorem zk142 : zchk RX7 cX7_hasDoctor 3 true (some .boolean) zc142 [0, 0, 0, 0, 4065, 0, 0, 0, 0, 0, 0, 4192, 0, 0, 0, 0, 0, 4192, 0, 0, 0, 0, 0, 0, 0, 0] = true := by decide +kernel
def zc143 : List zE := [(0, .aload_n 0, 0, 0, 0, 0, []),
  (1, .iconst 0, 0, 0, 0, 0, []),
  (2, .invokevirtual 149, 134, 1, 7, 0, []),
  (5, .aload_n 0, 0, 0, 0, 0, []),
  (6, .getfield 7, 7, 0, 0, 0, []),
  (9, .bipush 10, 0, 0, 0, 10, []),
  (11, .iaload, 0, 0, 0, 0, []),
  (12, .if_icmp .le 6, 18, 0, 0, 0, []),
  (15, .bipush 10, 0, 0, 0, 10, []),
  (17, .ireturn, 0, 0, 0, 0, []),
  (18, .aload_n 0, 0, 0, 0, 0, []),
  (19, .aload_n 0, 0, 0, 0, 0, []),
  (20, .getfield 7, 7, 0, 0, 0, []),
  (23, .bipush 6, 0, 0, 0, 6, []),
  (25, .iaload, 0, 0, 0, 0, []),
  (26, .invokevirtual 163, 141, 1, 7, 0, []),
  (29, .istore_n 1, 1, 0, 0, 0, []),
  (30, .iload_n 1, 1, 0, 0, 0, []),
  (31, .aload_n 0, 0, 0, 0, 0, []),
  (32, .getfield 7, 7, 0, 0, 0, []),
  (35, .bipush 11, 0, 0, 0, 11, []),
  (37, .iaload, 0, 0, 0, 0, []),
  (38, .if_icmp .ge 17, 55, 0, 0, 0, []),
  (41, .aload_n 0, 0, 0, 0, 0, []),
  (42, .aload_n 0, 0, 0, 0, 0, []),
  (43, .getfield 7, 7, 0, 0, 0, []),
  (46, .bipush 6, 0, 0, 0, 6, []),
  (48, .iaload, 0, 0, 0, 0, []),
  (49, .invokevirtual 166, 142, 1, 7, 0, []),
  (52, .ifCond .eq 5, 57, 0, 0, 0, []),
  (55, .iconst 0, 0, 0, 0, 0, []),
  (56, .ireturn, 0, 0, 0, 0, []),
  (57, .iload_n 1, 1, 0, 0, 0, []),
  (58, .ifCond .gt 19, 77, 0, 0, 0, []),
  (61, .aload_n 0, 0, 0, 0, 0, []),
  (62, .iconst 1, 0, 0, 0, 1, []),
  (63, .aload_n 0, 0, 0, 0, 0, []),
  (64, .getfield 7, 7, 0, 0, 0, []),
  (67, .bipush 6, 0, 0, 0, 6, []),
  (69, .iaload, 0, 0, 0, 0, []),
  (70, .isub, 0, 0, 0, 0, []),
  (71, .invokevirtual 163, 141, 1, 7, 0, []),
  (74, .ifCond .ne 7, 81, 0, 0, 0, []),
  (77, .iconst 5, 0, 0, 0, 5, []),
  (78, .goto 4, 82, 0, 0, 0, []),
  (81, .iconst 0, 0, 0, 0, 0, []),
  (82, .ireturn, 0, 0, 0, 0, [])]
theorem zk143 : zchk RX7 cX7_stays 2 true (some .int) zc143 [0, 0, 5040, 0, 4065, 0, 0, 0, 0, 0, 0, 0, 4065, 0, 0, 5083, 0, 0, 0, 4065, 0, 0, 0, 0, 0, 4065, 0, 0, 5087, 0, 0, 0, 0, 0, 0, 0, 0, 4065, 0, 0, 0, 5083, 0, 0, 0, 0, 0] = true := by decide +kernel
end
section
/-! code tables: printed by gen06.py from the bytecode -/
def zc144 : List zE := [(0, .aload_n 0, 0, 0, 0, 0, []),
  (1, .invokevirtual 169, 143, 0, 7, 0, []),
  (4, .istore_n 1, 1, 0, 0, 0, []),
  (5, .iconst 0, 0, 0, 0, 0, []),
  (6, .istore_n 2, 2, 0, 0, 0, []),
  (7, .iload_n 1, 1, 0, 0, 0, []),
  (8, .ifCond .ne 74, 82, 0, 0, 0, []),
  (11, .aload_n 0, 0, 0, 0, 0, []),
  (12, .invokevirtual 141, 130, 0, 7, 0, []),
  (15, .istore_n 1, 1, 0, 0, 0, []),
  (16, .aload_n 0, 0, 0, 0, 0, []),
  (17, .invokevirtual 155, 137, 0, 7, 0, []),
  (20, .istore_n 2, 2, 0, 0, 0, []),
  (21, .iconst 0, 0, 0, 0, 0, []),
  (22, .istore_n 3, 3, 0, 0, 0, []),
  (23, .iload_n 3, 3, 0, 0, 0, []),
  (24, .aload_n 0, 0, 0, 0, 0, []),
  (25, .getfield 7, 7, 0, 0, 0, []),
  (28, .iconst 0, 0, 0, 0, 0, []),
  (29, .iaload, 0, 0, 0, 0, []),
  (30, .if_icmp .ge 36, 66, 0, 0, 0, []),
  (33, .aload_n 0, 0, 0, 0, 0, []),
  (34, .getfield 7, 7, 0, 0, 0, []),
  (37, .iconst 4, 0, 0, 0, 4, []),
  (38, .dup2, 0, 0, 0, 0, []),
  (39, .iaload, 0, 0, 0, 0, []),
  (40, .iload_n 2, 2, 0, 0, 0, []),
  (41, .iload_n 3, 3, 0, 0, 0, []),
  (42, .ishr, 0, 0, 0, 0, []),
  (43, .iconst 1, 0, 0, 0, 1, []),
  (44, .iand, 0, 0, 0, 0, []),
  (45, .iconst 1, 0, 0, 0, 1, []),
  (46, .if_icmp .ne 11, 57, 0, 0, 0, []),
  (49, .aload_n 0, 0, 0, 0, 0, []),
  (50, .iload_n 3, 3, 0, 0, 0, []),
  (51, .invokevirtual 108, 120, 1, 7, 0, []),
  (54, .goto 4, 58, 0, 0, 0, []),
  (57, .iconst 0, 0, 0, 0, 0, []),
  (58, .iadd, 0, 0, 0, 0, []),
  (59, .iastore, 0, 0, 0, 0, []),
  (60, .iinc 3 1, 3, 0, 0, 1, []),
  (63, .goto (-40), 23, 0, 0, 0, []),
  (66, .aload_n 0, 0, 0, 0, 0, []),
  (67, .getfield 7, 7, 0, 0, 0, []),
  (70, .bipush 6, 0, 0, 0, 6, []),
  (72, .iconst 1, 0, 0, 0, 1, []),
  (73, .aload_n 0, 0, 0, 0, 0, []),
  (74, .getfield 7, 7, 0, 0, 0, []),
  (77, .bipush 6, 0, 0, 0, 6, []),
  (79, .iaload, 0, 0, 0, 0, []),
  (80, .isub, 0, 0, 0, 0, []),
  (81, .iastore, 0, 0, 0, 0, []),
  (82, .aload_n 0, 0, 0, 0, 0, []),
  (83, .getfield 7, 7, 0, 0, 0, []),
  (86, .iconst 3, 0, 0, 0, 3, []),
  (87, .dup2, 0, 0, 0, 0, []),
  (88, .iaload, 0, 0, 0, 0, []),
  (89, .iload_n 1, 1, 0, 0, 0, []),
  (90, .iadd, 0, 0, 0, 0, []),
  (91, .iastore, 0, 0, 0, 0, []),
  (92, .iconst 0, 0, 0, 0, 0, []),
  (93, .istore_n 3, 3, 0, 0, 0, []),
  (94, .iload_n 3, 3, 0, 0, 0, []),
  (95, .aload_n 0, 0, 0, 0, 0, []),
  (96, .getfield 7, 7, 0, 0, 0, []),
  (99, .iconst 0, 0, 0, 0, 0, []),
  (100, .iaload, 0, 0, 0, 0, []),
  (101, .if_icmp .ge 69, 170, 0, 0, 0, []),
  (104, .iload_n 2, 2, 0, 0, 0, []),
  (105, .iload_n 3, 3, 0, 0, 0, []),
  (106, .ishr, 0, 0, 0, 0, []),
  (107, .iconst 1, 0, 0, 0, 1, []),
  (108, .iand, 0, 0, 0, 0, []),
  (109, .iconst 1, 0, 0, 0, 1, []),
  (110, .if_icmp .ne 40, 150, 0, 0, 0, []),
  (113, .aload_n 0, 0, 0, 0, 0, []),
  (114, .iload_n 3, 3, 0, 0, 0, []),
  (115, .iconst 2, 0, 0, 0, 2, []),
  (116, .aload_n 0, 0, 0, 0, 0, []),
  (117, .getfield 7, 7, 0, 0, 0, []),
  (120, .bipush 6, 0, 0, 0, 6, []),
  (122, .iaload, 0, 0, 0, 0, []),
  (123, .invokevirtual 77, 114, 3, 7, 0, []),
  (126, .aload_n 0, 0, 0, 0, 0, []),
  (127, .iload_n 3, 3, 0, 0, 0, []),
  (128, .iconst 3, 0, 0, 0, 3, []),
  (129, .iconst 0, 0, 0, 0, 0, []),
  (130, .invokevirtual 77, 114, 3, 7, 0, []),
  (133, .aload_n 0, 0, 0, 0, 0, []),
  (134, .iload_n 3, 3, 0, 0, 0, []),
  (135, .iconst 4, 0, 0, 0, 4, []),
  (136, .aload_n 0, 0, 0, 0, 0, []),
  (137, .iload_n 3, 3, 0, 0, 0, []),
  (138, .iconst 4, 0, 0, 0, 4, []),
  (139, .invokevirtual 90, 113, 2, 7, 0, []),
  (142, .iconst 1, 0, 0, 0, 1, []),
  (143, .iadd, 0, 0, 0, 0, []),
  (144, .invokevirtual 77, 114, 3, 7, 0, []),
  (147, .goto 17, 164, 0, 0, 0, []),
  (150, .aload_n 0, 0, 0, 0, 0, []),
  (151, .iload_n 3, 3, 0, 0, 0, []),
  (152, .iconst 3, 0, 0, 0, 3, []),
  (153, .aload_n 0, 0, 0, 0, 0, []),
  (154, .iload_n 3, 3, 0, 0, 0, []),
  (155, .iconst 3, 0, 0, 0, 3, []),
  (156, .invokevirtual 90, 113, 2, 7, 0, []),
  (159, .iload_n 1, 1, 0, 0, 0, []),
  (160, .iadd, 0, 0, 0, 0, []),
  (161, .invokevirtual 77, 114, 3, 7, 0, []),
  (164, .iinc 3 1, 3, 0, 0, 1, []),
  (167, .goto (-73), 94, 0, 0, 0, []),
  (170, .aload_n 0, 0, 0, 0, 0, []),
  (171, .getfield 7, 7, 0, 0, 0, []),
  (174, .bipush 9, 0, 0, 0, 9, []),
  (176, .aload_n 0, 0, 0, 0, 0, []),
  (177, .getfield 7, 7, 0, 0, 0, []),
  (180, .bipush 9, 0, 0, 0, 9, []),
  (182, .iaload, 0, 0, 0, 0, []),
  (183, .aload_n 0, 0, 0, 0, 0, []),
  (184, .invokevirtual 160, 117, 0, 7, 0, []),
  (187, .bipush 7, 0, 0, 0, 7, []),
  (189, .irem, 0, 0, 0, 0, []),
  (190, .iadd, 0, 0, 0, 0, []),
  (191, .iconst 3, 0, 0, 0, 3, []),
  (192, .isub, 0, 0, 0, 0, []),
  (193, .iconst 0, 0, 0, 0, 0, []),
  (194, .bipush 99, 0, 0, 0, 99, []),
  (196, .invokestatic 101, 108, 3, 0, 0, []),
  (199, .iastore, 0, 0, 0, 0, []),
  (200, .aload_n 0, 0, 0, 0, 0, []),
  (201, .getfield 7, 7, 0, 0, 0, []),
  (204, .iconst 2, 0, 0, 0, 2, []),
  (205, .dup2, 0, 0, 0, 0, []),
  (206, .iaload, 0, 0, 0, 0, []),
  (207, .iconst 1, 0, 0, 0, 1, []),
  (208, .iadd, 0, 0, 0, 0, []),
  (209, .iastore, 0, 0, 0, 0, []),
  (210, .return_, 0, 0, 0, 0, [])]
theorem zk144 : zchk RX7 cX7_goesOn 4 true none zc144 [0, 5079, 0, 0, 0, 0, 0, 0, 5024, 0, 0, 5048, 0, 0, 0, 0, 0, 4065, 0, 0, 0, 0, 4065, 0, 0, 0, 0, 0, 0, 0, 0, 0, 0, 0, 0, 4196, 0, 0, 0, 0, 0, 0, 0, 4065, 0, 0, 0, 4065, 0, 0, 0, 0, 0, 4065, 0, 0, 0, 0, 0, 0, 0, 0, 0, 0, 4065, 0, 0, 0, 0, 0, 0, 0, 0, 0, 0, 0, 0, 0, 0, 4065, 0, 0, 4180, 0, 0, 0, 0, 4180, 0, 0, 0, 0, 0, 0, 4192, 0, 0, 4180, 0, 0, 0, 0, 0, 0, 0, 4192, 0, 0, 4180, 0, 0, 0, 4065, 0, 0, 4065, 0, 0, 0, 5061, 0, 0, 0, 0, 0, 0, 0, 4215, 0, 0, 4065, 0, 0, 0, 0, 0, 0, 0] = true := by decide +kernel
def zc145 : List zE := [(0, .iload_n 1, 1, 0, 0, 0, []),
  (1, .i2l, 0, 0, 0, 0, []),
  (2, .lconst 1, 0, 0, 0, 1, []),
  (3, .ldc2_w 172, 0, 0, 0, 100, []),
  (6, .invokestatic 72, 106, 3, 0, 0, []),
  (9, .ifCond .ne 6, 15, 0, 0, 0, []),
  (12, .ldc 85, 0, 0, 0, (-1000000001), []),
  (14, .ireturn, 0, 0, 0, 0, []),
  (15, .aload_n 0, 0, 0, 0, 0, []),
  (16, .getfield 7, 7, 0, 0, 0, []),
  (19, .iconst 4, 0, 0, 0, 4, []),
  (20, .iaload, 0, 0, 0, 0, []),
  (21, .istore_n 2, 2, 0, 0, 0, []),
  (22, .iconst 0, 0, 0, 0, 0, []),
  (23, .istore_n 3, 3, 0, 0, 0, []),
  (24, .iload_n 3, 3, 0, 0, 0, []),
  (25, .iload_n 1, 1, 0, 0, 0, []),
  (26, .if_icmp .ge 25, 51, 0, 0, 0, []),
  (29, .aload_n 0, 0, 0, 0, 0, []),
  (30, .getfield 7, 7, 0, 0, 0, []),
  (33, .iconst 2, 0, 0, 0, 2, []),
  (34, .iaload, 0, 0, 0, 0, []),
  (35, .sipush 9999, 0, 0, 0, 9999, []),
  (38, .if_icmp .ge 13, 51, 0, 0, 0, []),
  (41, .aload_n 0, 0, 0, 0, 0, []),
  (42, .invokevirtual 174, 144, 0, 7, 0, []),
  (45, .iinc 3 1, 3, 0, 0, 1, []),
  (48, .goto (-24), 24, 0, 0, 0, []),
  (51, .aload_n 0, 0, 0, 0, 0, []),
  (52, .getfield 7, 7, 0, 0, 0, []),
  (55, .iconst 4, 0, 0, 0, 4, []),
  (56, .iaload, 0, 0, 0, 0, []),
  (57, .iload_n 2, 2, 0, 0, 0, []),
  (58, .isub, 0, 0, 0, 0, []),
  (59, .ireturn, 0, 0, 0, 0, [])]
theorem zk145 : zchk RX7 cX7_steps 4 true (some .int) zc145 [0, 0, 0, 5074, 4170, 0, 4174, 0, 0, 4065, 0, 0, 0, 0, 0, 0, 0, 0, 0, 4065, 0, 0, 0, 0, 0, 5075, 0, 0, 0, 4065, 0, 0, 0, 0, 0] = true := by decide +kernel
def zc146 : List zE := [(0, .iconst 0, 0, 0, 0, 0, []),
  (1, .istore_n 2, 2, 0, 0, 0, []),
  (2, .iconst 0, 0, 0, 0, 0, []),
  (3, .istore_n 3, 3, 0, 0, 0, []),
  (4, .iload_n 3, 3, 0, 0, 0, []),
  (5, .aload_n 0, 0, 0, 0, 0, []),
  (6, .getfield 7, 7, 0, 0, 0, []),
  (9, .iconst 0, 0, 0, 0, 0, []),
  (10, .iaload, 0, 0, 0, 0, []),
  (11, .if_icmp .ge 18, 29, 0, 0, 0, []),
  (14, .iload_n 2, 2, 0, 0, 0, []),
  (15, .aload_n 0, 0, 0, 0, 0, []),
  (16, .iload_n 3, 3, 0, 0, 0, []),
  (17, .iload_n 1, 1, 0, 0, 0, []),
  (18, .invokevirtual 90, 113, 2, 7, 0, []),
  (21, .iadd, 0, 0, 0, 0, []),
  (22, .istore_n 2, 2, 0, 0, 0, []),
  (23, .iinc 3 1, 3, 0, 0, 1, []),
  (26, .goto (-22), 4, 0, 0, 0, []),
  (29, .iload_n 2, 2, 0, 0, 0, []),
  (30, .ireturn, 0, 0, 0, 0, [])]
theorem zk146 : zchk RX7 cX7_allOf 4 true (some .int) zc146 [0, 0, 0, 0, 0, 0, 4065, 0, 0, 0, 0, 0, 0, 0, 4192, 0, 0, 0, 0, 0, 0] = true := by decide +kernel
def zc147 : List zE := [(0, .iload_n 1, 1, 0, 0, 0, []),
  (1, .tableswitch 57 0 3 #[31, 38, 45, 51], 58, 31, 0, 0, [(0, 32), (1, 39), (2, 46), (3, 52)]),
  (32, .aload_n 0, 0, 0, 0, 0, []),
  (33, .getfield 7, 7, 0, 0, 0, []),
  (36, .iconst 3, 0, 0, 0, 3, []),
  (37, .iaload, 0, 0, 0, 0, []),
  (38, .ireturn, 0, 0, 0, 0, []),
  (39, .aload_n 0, 0, 0, 0, 0, []),
  (40, .getfield 7, 7, 0, 0, 0, []),
  (43, .iconst 4, 0, 0, 0, 4, []),
  (44, .iaload, 0, 0, 0, 0, []),
  (45, .ireturn, 0, 0, 0, 0, []),
  (46, .aload_n 0, 0, 0, 0, 0, []),
  (47, .iconst 3, 0, 0, 0, 3, []),
  (48, .invokevirtual 177, 146, 1, 7, 0, []),
  (51, .ireturn, 0, 0, 0, 0, []),
  (52, .aload_n 0, 0, 0, 0, 0, []),
  (53, .iconst 4, 0, 0, 0, 4, []),
  (54, .invokevirtual 177, 146, 1, 7, 0, []),
  (57, .ireturn, 0, 0, 0, 0, []),
  (58, .ldc 85, 0, 0, 0, (-1000000001), []),
  (60, .ireturn, 0, 0, 0, 0, [])]
theorem zk147 : zchk RX7 cX7_book 2 true (some .int) zc147 [0, 0, 0, 4065, 0, 0, 0, 0, 4065, 0, 0, 0, 0, 0, 5095, 0, 0, 0, 5095, 0, 4174, 0] = true := by decide +kernel
def zc148 : List zE := [(0, .aload_n 0, 0, 0, 0, 0, []),
  (1, .getfield 7, 7, 0, 0, 0, []),
  (4, .bipush 9, 0, 0, 0, 9, []),
  (6, .iaload, 0, 0, 0, 0, []),
  (7, .istore_n 1, 1, 0, 0, 0, []),
  (8, .iconst (-1), 0, 0, 0, (-1), []),
  (9, .istore_n 2, 2, 0, 0, 0, []),
  (10, .bipush 99, 0, 0, 0, 99, []),
  (12, .istore_n 3, 3, 0, 0, 0, []),
  (13, .iload_n 3, 3, 0, 0, 0, []),
  (14, .ifCond .lt 38, 52, 0, 0, 0, []),
  (17, .aload_n 0, 0, 0, 0, 0, []),
  (18, .getfield 7, 7, 0, 0, 0, []),
  (21, .bipush 9, 0, 0, 0, 9, []),
  (23, .iload_n 3, 3, 0, 0, 0, []),
  (24, .iastore, 0, 0, 0, 0, []),
  (25, .aload_n 0, 0, 0, 0, 0, []),
  (26, .iconst 0, 0, 0, 0, 0, []),
  (27, .invokevirtual 149, 134, 1, 7, 0, []),
  (30, .aload_n 0, 0, 0, 0, 0, []),
  (31, .getfield 7, 7, 0, 0, 0, []),
  (34, .bipush 10, 0, 0, 0, 10, []),
  (36, .iaload, 0, 0, 0, 0, []),
  (37, .if_icmp .le 7, 44, 0, 0, 0, []),
  (40, .iload_n 3, 3, 0, 0, 0, []),
  (41, .goto 4, 45, 0, 0, 0, []),
  (44, .iload_n 2, 2, 0, 0, 0, []),
  (45, .istore_n 2, 2, 0, 0, 0, []),
  (46, .iinc 3 (-1), 3, 0, 0, (-1), []),
  (49, .goto (-36), 13, 0, 0, 0, []),
  (52, .aload_n 0, 0, 0, 0, 0, []),
  (53, .getfield 7, 7, 0, 0, 0, []),
  (56, .bipush 9, 0, 0, 0, 9, []),
  (58, .iload_n 1, 1, 0, 0, 0, []),
  (59, .iastore, 0, 0, 0, 0, []),
  (60, .iload_n 2, 2, 0, 0, 0, []),
  (61, .invokestatic 180, 107, 1, 0, 0, []),
  (64, .ireturn, 0, 0, 0, 0, [])]
theorem zk148 : zchk RX7 cX7_high 4 true (some .int) zc148 [0, 4065, 0, 0, 0, 0, 0, 0, 0, 0, 0, 0, 4065, 0, 0, 0, 0, 0, 5040, 0, 4065, 0, 0, 0, 0, 0, 0, 0, 0, 0, 0, 4065, 0, 0, 0, 0, 5103, 0] = true := by decide +kernel
def zc149 : List zE := [(0, .iload_n 1, 1, 0, 0, 0, []),
  (1, .i2l, 0, 0, 0, 0, []),
  (2, .lconst 0, 0, 0, 0, 0, []),
  (3, .lconst 1, 0, 0, 0, 1, []),
  (4, .invokestatic 72, 106, 3, 0, 0, []),
  (7, .ifCond .ne 6, 13, 0, 0, 0, []),
  (10, .ldc 85, 0, 0, 0, (-1000000001), []),
  (12, .ireturn, 0, 0, 0, 0, []),
  (13, .iconst 0, 0, 0, 0, 0, []),
  (14, .istore_n 2, 2, 0, 0, 0, []),
  (15, .iconst 0, 0, 0, 0, 0, []),
  (16, .istore_n 3, 3, 0, 0, 0, []),
  (17, .iload_n 3, 3, 0, 0, 0, []),
  (18, .aload_n 0, 0, 0, 0, 0, []),
  (19, .getfield 7, 7, 0, 0, 0, []),
  (22, .iconst 0, 0, 0, 0, 0, []),
  (23, .iaload, 0, 0, 0, 0, []),
  (24, .if_icmp .ge 46, 70, 0, 0, 0, []),
  (27, .aload_n 0, 0, 0, 0, 0, []),
  (28, .getfield 47, 7, 13, 0, 0, []),
  (31, .iload_n 3, 3, 0, 0, 0, []),
  (32, .aload_n 0, 0, 0, 0, 0, []),
  (33, .iload_n 3, 3, 0, 0, 0, []),
  (34, .invokevirtual 108, 120, 1, 7, 0, []),
  (37, .iastore, 0, 0, 0, 0, []),
  (38, .iload_n 2, 2, 0, 0, 0, []),
  (39, .aload_n 0, 0, 0, 0, 0, []),
  (40, .iload_n 3, 3, 0, 0, 0, []),
  (41, .iconst 2, 0, 0, 0, 2, []),
  (42, .invokevirtual 90, 113, 2, 7, 0, []),
  (45, .aload_n 0, 0, 0, 0, 0, []),
  (46, .getfield 7, 7, 0, 0, 0, []),
  (49, .bipush 6, 0, 0, 0, 6, []),
  (51, .iaload, 0, 0, 0, 0, []),
  (52, .if_icmp .ne 9, 61, 0, 0, 0, []),
  (55, .iconst 1, 0, 0, 0, 1, []),
  (56, .iload_n 3, 3, 0, 0, 0, []),
  (57, .ishl, 0, 0, 0, 0, []),
  (58, .goto 4, 62, 0, 0, 0, []),
  (61, .iconst 0, 0, 0, 0, 0, []),
  (62, .ior, 0, 0, 0, 0, []),
  (63, .istore_n 2, 2, 0, 0, 0, []),
  (64, .iinc 3 1, 3, 0, 0, 1, []),
  (67, .goto (-50), 17, 0, 0, 0, []),
  (70, .iconst (-1), 0, 0, 0, (-1), []),
  (71, .istore_n 3, 3, 0, 0, 0, []),
  (72, .iconst 0, 0, 0, 0, 0, []),
  (73, .istore 4, 4, 0, 0, 0, []),
  (75, .iconst 0, 0, 0, 0, 0, []),
  (76, .istore 5, 5, 0, 0, 0, []),
  (78, .iload 5, 5, 0, 0, 0, []),
  (80, .iconst 1, 0, 0, 0, 1, []),
  (81, .aload_n 0, 0, 0, 0, 0, []),
  (82, .getfield 7, 7, 0, 0, 0, []),
  (85, .iconst 0, 0, 0, 0, 0, []),
  (86, .iaload, 0, 0, 0, 0, []),
  (87, .ishl, 0, 0, 0, 0, []),
  (88, .if_icmp .ge 204, 292, 0, 0, 0, []),
  (91, .iconst 0, 0, 0, 0, 0, []),
  (92, .istore 6, 6, 0, 0, 0, []),
  (94, .iconst 0, 0, 0, 0, 0, []),
  (95, .istore 7, 7, 0, 0, 0, []),
  (97, .iconst 0, 0, 0, 0, 0, []),
  (98, .istore 8, 8, 0, 0, 0, []),
  (100, .iconst 0, 0, 0, 0, 0, []),
  (101, .istore 9, 9, 0, 0, 0, []),
  (103, .iload 9, 9, 0, 0, 0, []),
  (105, .aload_n 0, 0, 0, 0, 0, []),
  (106, .getfield 7, 7, 0, 0, 0, []),
  (109, .iconst 0, 0, 0, 0, 0, []),
  (110, .iaload, 0, 0, 0, 0, []),
  (111, .if_icmp .ge 89, 200, 0, 0, 0, []),
  (114, .iload 5, 5, 0, 0, 0, []),
  (116, .iload 9, 9, 0, 0, 0, []),
  (118, .ishr, 0, 0, 0, 0, []),
  (119, .iconst 1, 0, 0, 0, 1, []),
  (120, .iand, 0, 0, 0, 0, []),
  (121, .iconst 1, 0, 0, 0, 1, []),
  (122, .if_icmp .ne 7, 129, 0, 0, 0, []),
  (125, .iconst 1, 0, 0, 0, 1, []),
  (126, .goto 4, 130, 0, 0, 0, []),
  (129, .iconst 0, 0, 0, 0, 0, []),
  (130, .istore 10, 10, 0, 0, 0, []),
  (132, .iload 6, 6, 0, 0, 0, []),
  (134, .iload 10, 10, 0, 0, 0, []),
  (136, .ifCond .eq 12, 148, 0, 0, 0, []),
  (139, .aload_n 0, 0, 0, 0, 0, []),
  (140, .iload 9, 9, 0, 0, 0, []),
  (142, .invokevirtual 111, 121, 1, 7, 0, []),
  (145, .goto 4, 149, 0, 0, 0, []),
  (148, .iconst 0, 0, 0, 0, 0, []),
  (149, .iadd, 0, 0, 0, 0, []),
  (150, .istore 6, 6, 0, 0, 0, []),
  (152, .iload 7, 7, 0, 0, 0, []),
  (154, .iload 10, 10, 0, 0, 0, []),
  (156, .ifCond .eq 13, 169, 0, 0, 0, []),
  (159, .aload_n 0, 0, 0, 0, 0, []),
  (160, .iload 9, 9, 0, 0, 0, []),
  (162, .iconst 1, 0, 0, 0, 1, []),
  (163, .invokevirtual 90, 113, 2, 7, 0, []),
  (166, .goto 4, 170, 0, 0, 0, []),
  (169, .iconst 0, 0, 0, 0, 0, []),
  (170, .iadd, 0, 0, 0, 0, []),
  (171, .istore 7, 7, 0, 0, 0, []),
  (173, .iload 8, 8, 0, 0, 0, []),
  (175, .iload 10, 10, 0, 0, 0, []),
  (177, .ifCond .eq 13, 190, 0, 0, 0, []),
  (180, .aload_n 0, 0, 0, 0, 0, []),
  (181, .getfield 47, 7, 13, 0, 0, []),
  (184, .iload 9, 9, 0, 0, 0, []),
  (186, .iaload, 0, 0, 0, 0, []),
  (187, .goto 4, 191, 0, 0, 0, []),
  (190, .iconst 0, 0, 0, 0, 0, []),
  (191, .iadd, 0, 0, 0, 0, []),
  (192, .istore 8, 8, 0, 0, 0, []),
  (194, .iinc 9 1, 9, 0, 0, 1, []),
  (197, .goto (-94), 103, 0, 0, 0, []),
  (200, .iload_n 3, 3, 0, 0, 0, []),
  (201, .ifCond .lt 29, 230, 0, 0, 0, []),
  (204, .iload 8, 8, 0, 0, 0, []),
  (206, .iload 4, 4, 0, 0, 0, []),
  (208, .if_icmp .gt 22, 230, 0, 0, 0, []),
  (211, .iload 8, 8, 0, 0, 0, []),
  (213, .iload 4, 4, 0, 0, 0, []),
  (215, .if_icmp .ne 19, 234, 0, 0, 0, []),
  (218, .iload 5, 5, 0, 0, 0, []),
  (220, .invokestatic 183, 110, 1, 0, 0, []),
  (223, .iload_n 3, 3, 0, 0, 0, []),
  (224, .invokestatic 183, 110, 1, 0, 0, []),
  (227, .if_icmp .ge 7, 234, 0, 0, 0, []),
  (230, .iconst 1, 0, 0, 0, 1, []),
  (231, .goto 4, 235, 0, 0, 0, []),
  (234, .iconst 0, 0, 0, 0, 0, []),
  (235, .istore 9, 9, 0, 0, 0, []),
  (237, .iload 9, 9, 0, 0, 0, []),
  (239, .ifCond .eq 47, 286, 0, 0, 0, []),
  (242, .iload 5, 5, 0, 0, 0, []),
  (244, .iload_n 2, 2, 0, 0, 0, []),
  (245, .iconst (-1), 0, 0, 0, (-1), []),
  (246, .ixor, 0, 0, 0, 0, []),
  (247, .iand, 0, 0, 0, 0, []),
  (248, .ifCond .ne 38, 286, 0, 0, 0, []),
  (251, .iload 6, 6, 0, 0, 0, []),
  (253, .aload_n 0, 0, 0, 0, 0, []),
  (254, .getfield 7, 7, 0, 0, 0, []),
  (257, .bipush 8, 0, 0, 0, 8, []),
  (259, .iaload, 0, 0, 0, 0, []),
  (260, .if_icmp .gt 26, 286, 0, 0, 0, []),
  (263, .aload_n 0, 0, 0, 0, 0, []),
  (264, .iload 7, 7, 0, 0, 0, []),
  (266, .invokevirtual 149, 134, 1, 7, 0, []),
  (269, .aload_n 0, 0, 0, 0, 0, []),
  (270, .getfield 7, 7, 0, 0, 0, []),
  (273, .bipush 10, 0, 0, 0, 10, []),
  (275, .iaload, 0, 0, 0, 0, []),
  (276, .if_icmp .gt 10, 286, 0, 0, 0, []),
  (279, .iload 5, 5, 0, 0, 0, []),
  (281, .istore_n 3, 3, 0, 0, 0, []),
  (282, .iload 8, 8, 0, 0, 0, []),
  (284, .istore 4, 4, 0, 0, 0, []),
  (286, .iinc 5 1, 5, 0, 0, 1, []),
  (289, .goto (-211), 78, 0, 0, 0, []),
  (292, .iload_n 3, 3, 0, 0, 0, []),
  (293, .ifCond .ge 8, 301, 0, 0, 0, []),
  (296, .ldc 71, 0, 0, 0, (-1000000005), []),
  (298, .goto 13, 311, 0, 0, 0, []),
  (301, .iload_n 1, 1, 0, 0, 0, []),
  (302, .ifCond .ne 7, 309, 0, 0, 0, []),
  (305, .iload_n 3, 3, 0, 0, 0, []),
  (306, .goto 5, 311, 0, 0, 0, []),
  (309, .iload 4, 4, 0, 0, 0, []),
  (311, .ireturn, 0, 0, 0, 0, [])]
theorem zk149 : zchk RX7 cX7_best 11 true (some .int) zc149 [0, 0, 0, 0, 4170, 0, 4174, 0, 0, 0, 0, 0, 0, 0, 4065, 0, 0, 0, 0, 4078, 0, 0, 0, 4196, 0, 0, 0, 0, 0, 4192, 0, 4065, 0, 0, 0, 0, 0, 0, 0, 0, 0, 0, 0, 0, 0, 0, 0, 0, 0, 0, 0, 0, 0, 4065, 0, 0, 0, 0, 0, 0, 0, 0, 0, 0, 0, 0, 0, 0, 4065, 0, 0, 0, 0, 0, 0, 0, 0, 0, 0, 0, 0, 0, 0, 0, 0, 0, 0, 0, 4218, 0, 0, 0, 0, 0, 0, 0, 0, 0, 0, 4192, 0, 0, 0, 0, 0, 0, 0, 0, 4078, 0, 0, 0, 0, 0, 0, 0, 0, 0, 0, 0, 0, 0, 0, 0, 0, 0, 5111, 0, 5111, 0, 0, 0, 0, 0, 0, 0, 0, 0, 0, 0, 0, 0, 0, 0, 4065, 0, 0, 0, 0, 0, 5040, 0, 4065, 0, 0, 0, 0, 0, 0, 0, 0, 0, 0, 0, 5106, 0, 0, 0, 0, 0, 0, 0] = true := by decide +kernel
def zc150 : List zE := [(0, .iconst 0, 0, 0, 0, 0, []),
  (1, .istore_n 1, 1, 0, 0, 0, []),
  (2, .iload_n 1, 1, 0, 0, 0, []),
  (3, .bipush 62, 0, 0, 0, 62, []),
  (5, .if_icmp .ge 21, 26, 0, 0, 0, []),
  (8, .aload_n 0, 0, 0, 0, 0, []),
  (9, .getfield 50, 7, 14, 0, 0, []),
  (12, .iload_n 1, 1, 0, 0, 0, []),
  (13, .aload_n 0, 0, 0, 0, 0, []),
  (14, .getfield 7, 7, 0, 0, 0, []),
  (17, .iload_n 1, 1, 0, 0, 0, []),
  (18, .iaload, 0, 0, 0, 0, []),
  (19, .iastore, 0, 0, 0, 0, []),
  (20, .iinc 1 1, 1, 0, 0, 1, []),
  (23, .goto (-21), 2, 0, 0, 0, []),
  (26, .return_, 0, 0, 0, 0, [])]
theorem zk150 : zchk RX7 cX7_laysBy 2 true none zc150 [0, 0, 0, 0, 0, 0, 4079, 0, 0, 4065, 0, 0, 0, 0, 0, 0] = true := by decide +kernel
def zc151 : List zE := [(0, .iconst 0, 0, 0, 0, 0, []),
  (1, .istore_n 1, 1, 0, 0, 0, []),
  (2, .iload_n 1, 1, 0, 0, 0, []),
  (3, .bipush 62, 0, 0, 0, 62, []),
  (5, .if_icmp .ge 21, 26, 0, 0, 0, []),
  (8, .aload_n 0, 0, 0, 0, 0, []),
  (9, .getfield 7, 7, 0, 0, 0, []),
  (12, .iload_n 1, 1, 0, 0, 0, []),
  (13, .aload_n 0, 0, 0, 0, 0, []),
  (14, .getfield 50, 7, 14, 0, 0, []),
  (17, .iload_n 1, 1, 0, 0, 0, []),
  (18, .iaload, 0, 0, 0, 0, []),
  (19, .iastore, 0, 0, 0, 0, []),
  (20, .iinc 1 1, 1, 0, 0, 1, []),
  (23, .goto (-21), 2, 0, 0, 0, []),
  (26, .return_, 0, 0, 0, 0, [])]
theorem zk151 : zchk RX7 cX7_laysBack 2 true none zc151 [0, 0, 0, 0, 0, 0, 4065, 0, 0, 4079, 0, 0, 0, 0, 0, 0] = true := by decide +kernel
def zc152 : List zE := [(0, .iconst 0, 0, 0, 0, 0, []),
  (1, .istore_n 2, 2, 0, 0, 0, []),
  (2, .iload_n 2, 2, 0, 0, 0, []),
  (3, .iload_n 1, 1, 0, 0, 0, []),
  (4, .if_icmp .ge 13, 17, 0, 0, 0, []),
  (7, .aload_n 0, 0, 0, 0, 0, []),
  (8, .invokevirtual 174, 144, 0, 7, 0, []),
  (11, .iinc 2 1, 2, 0, 0, 1, []),
  (14, .goto (-12), 2, 0, 0, 0, []),
  (17, .return_, 0, 0, 0, 0, [])]
theorem zk152 : zchk RX7 cX7_goesOnMany 3 true none zc152 [0, 0, 0, 0, 0, 0, 5075, 0, 0, 0] = true := by decide +kernel
def zc153 : List zE := [(0, .iload_n 1, 1, 0, 0, 0, []),
  (1, .i2l, 0, 0, 0, 0, []),
  (2, .lconst 0, 0, 0, 0, 0, []),
  (3, .ldc2_w 172, 0, 0, 0, 100, []),
  (6, .invokestatic 72, 106, 3, 0, 0, []),
  (9, .ifCond .eq 15, 24, 0, 0, 0, []),
  (12, .iload_n 2, 2, 0, 0, 0, []),
  (13, .i2l, 0, 0, 0, 0, []),
  (14, .lconst 0, 0, 0, 0, 0, []),
  (15, .ldc2_w 186, 0, 0, 0, 4, []),
  (18, .invokestatic 72, 106, 3, 0, 0, []),
  (21, .ifCond .ne 6, 27, 0, 0, 0, []),
  (24, .ldc 85, 0, 0, 0, (-1000000001), []),
  (26, .ireturn, 0, 0, 0, 0, []),
  (27, .aload_n 0, 0, 0, 0, 0, []),
  (28, .invokevirtual 188, 150, 0, 7, 0, []),
  (31, .aload_n 0, 0, 0, 0, 0, []),
  (32, .iload_n 1, 1, 0, 0, 0, []),
  (33, .invokevirtual 191, 152, 1, 7, 0, []),
  (36, .iload_n 2, 2, 0, 0, 0, []),
  (37, .ifCond .ne 12, 49, 0, 0, 0, []),
  (40, .aload_n 0, 0, 0, 0, 0, []),
  (41, .getfield 7, 7, 0, 0, 0, []),
  (44, .iconst 4, 0, 0, 0, 4, []),
  (45, .iaload, 0, 0, 0, 0, []),
  (46, .goto 52, 98, 0, 0, 0, []),
  (49, .iload_n 2, 2, 0, 0, 0, []),
  (50, .iconst 1, 0, 0, 0, 1, []),
  (51, .if_icmp .ne 12, 63, 0, 0, 0, []),
  (54, .aload_n 0, 0, 0, 0, 0, []),
  (55, .getfield 7, 7, 0, 0, 0, []),
  (58, .iconst 3, 0, 0, 0, 3, []),
  (59, .iaload, 0, 0, 0, 0, []),
  (60, .goto 38, 98, 0, 0, 0, []),
  (63, .iload_n 2, 2, 0, 0, 0, []),
  (64, .iconst 2, 0, 0, 0, 2, []),
  (65, .if_icmp .ne 11, 76, 0, 0, 0, []),
  (68, .aload_n 0, 0, 0, 0, 0, []),
  (69, .iconst 3, 0, 0, 0, 3, []),
  (70, .invokevirtual 177, 146, 1, 7, 0, []),
  (73, .goto 25, 98, 0, 0, 0, []),
  (76, .iload_n 2, 2, 0, 0, 0, []),
  (77, .iconst 3, 0, 0, 0, 3, []),
  (78, .if_icmp .ne 13, 91, 0, 0, 0, []),
  (81, .aload_n 0, 0, 0, 0, 0, []),
  (82, .getfield 7, 7, 0, 0, 0, []),
  (85, .bipush 6, 0, 0, 0, 6, []),
  (87, .iaload, 0, 0, 0, 0, []),
  (88, .goto 10, 98, 0, 0, 0, []),
  (91, .aload_n 0, 0, 0, 0, 0, []),
  (92, .getfield 7, 7, 0, 0, 0, []),
  (95, .bipush 9, 0, 0, 0, 9, []),
  (97, .iaload, 0, 0, 0, 0, []),
  (98, .istore_n 3, 3, 0, 0, 0, []),
  (99, .aload_n 0, 0, 0, 0, 0, []),
  (100, .invokevirtual 195, 151, 0, 7, 0, []),
  (103, .iload_n 3, 3, 0, 0, 0, []),
  (104, .ireturn, 0, 0, 0, 0, [])]
theorem zk153 : zchk RX7 cX7_behind 4 true (some .int) zc153 [0, 0, 0, 5074, 4170, 0, 0, 0, 0, 5118, 4170, 0, 4174, 0, 0, 5119, 0, 0, 5123, 0, 0, 0, 4065, 0, 0, 0, 0, 0, 0, 0, 4065, 0, 0, 0, 0, 0, 0, 0, 0, 5095, 0, 0, 0, 0, 0, 4065, 0, 0, 0, 0, 4065, 0, 0, 0, 0, 5127, 0, 0] = true := by decide +kernel
def zc154 : List zE := [(0, .iload_n 1, 1, 0, 0, 0, []),
  (1, .i2l, 0, 0, 0, 0, []),
  (2, .lconst 1, 0, 0, 0, 1, []),
  (3, .ldc2_w 198, 0, 0, 0, 60, []),
  (6, .invokestatic 72, 106, 3, 0, 0, []),
  (9, .ifCond .eq 13, 22, 0, 0, 0, []),
  (12, .iload_n 2, 2, 0, 0, 0, []),
  (13, .i2l, 0, 0, 0, 0, []),
  (14, .lconst 0, 0, 0, 0, 0, []),
  (15, .lconst 1, 0, 0, 0, 1, []),
  (16, .invokestatic 72, 106, 3, 0, 0, []),
  (19, .ifCond .ne 6, 25, 0, 0, 0, []),
  (22, .ldc 85, 0, 0, 0, (-1000000001), []),
  (24, .ireturn, 0, 0, 0, 0, []),
  (25, .aload_n 0, 0, 0, 0, 0, []),
  (26, .invokevirtual 188, 150, 0, 7, 0, []),
  (29, .iconst (-1), 0, 0, 0, (-1), []),
  (30, .istore_n 3, 3, 0, 0, 0, []),
  (31, .iconst 0, 0, 0, 0, 0, []),
  (32, .istore 4, 4, 0, 0, 0, []),
  (34, .iconst 0, 0, 0, 0, 0, []),
  (35, .istore 5, 5, 0, 0, 0, []),
  (37, .iload 5, 5, 0, 0, 0, []),
  (39, .bipush 60, 0, 0, 0, 60, []),
  (41, .if_icmp .gt 52, 93, 0, 0, 0, []),
  (44, .aload_n 0, 0, 0, 0, 0, []),
  (45, .getfield 7, 7, 0, 0, 0, []),
  (48, .bipush 7, 0, 0, 0, 7, []),
  (50, .iload 5, 5, 0, 0, 0, []),
  (52, .iastore, 0, 0, 0, 0, []),
  (53, .aload_n 0, 0, 0, 0, 0, []),
  (54, .iload_n 1, 1, 0, 0, 0, []),
  (55, .invokevirtual 191, 152, 1, 7, 0, []),
  (58, .aload_n 0, 0, 0, 0, 0, []),
  (59, .iconst 3, 0, 0, 0, 3, []),
  (60, .invokevirtual 177, 146, 1, 7, 0, []),
  (63, .istore 6, 6, 0, 0, 0, []),
  (65, .aload_n 0, 0, 0, 0, 0, []),
  (66, .invokevirtual 195, 151, 0, 7, 0, []),
  (69, .iload_n 3, 3, 0, 0, 0, []),
  (70, .ifCond .lt 10, 80, 0, 0, 0, []),
  (73, .iload 6, 6, 0, 0, 0, []),
  (75, .iload 4, 4, 0, 0, 0, []),
  (77, .if_icmp .ge 10, 87, 0, 0, 0, []),
  (80, .iload 5, 5, 0, 0, 0, []),
  (82, .istore_n 3, 3, 0, 0, 0, []),
  (83, .iload 6, 6, 0, 0, 0, []),
  (85, .istore 4, 4, 0, 0, 0, []),
  (87, .iinc 5 1, 5, 0, 0, 1, []),
  (90, .goto (-53), 37, 0, 0, 0, []),
  (93, .iload_n 2, 2, 0, 0, 0, []),
  (94, .ifCond .ne 7, 101, 0, 0, 0, []),
  (97, .iload_n 3, 3, 0, 0, 0, []),
  (98, .goto 5, 103, 0, 0, 0, []),
  (101, .iload 4, 4, 0, 0, 0, []),
  (103, .ireturn, 0, 0, 0, 0, [])]
theorem zk154 : zchk RX7 cX7_slant 7 true (some .int) zc154 [0, 0, 0, 5135, 4170, 0, 0, 0, 0, 0, 4170, 0, 4174, 0, 0, 5119, 0, 0, 0, 0, 0, 0, 0, 0, 0, 0, 4065, 0, 0, 0, 0, 0, 5123, 0, 0, 5095, 0, 0, 5127, 0, 0, 0, 0, 0, 0, 0, 0, 0, 0, 0, 0, 0, 0, 0, 0, 0] = true := by decide +kernel
def zc155 : List zE := [(0, .iload_n 1, 1, 0, 0, 0, []),
  (1, .i2l, 0, 0, 0, 0, []),
  (2, .lconst 1, 0, 0, 0, 1, []),
  (3, .ldc2_w 198, 0, 0, 0, 60, []),
  (6, .invokestatic 72, 106, 3, 0, 0, []),
  (9, .ifCond .eq 13, 22, 0, 0, 0, []),
  (12, .iload_n 2, 2, 0, 0, 0, []),
  (13, .i2l, 0, 0, 0, 0, []),
  (14, .lconst 0, 0, 0, 0, 0, []),
  (15, .lconst 1, 0, 0, 0, 1, []),
  (16, .invokestatic 72, 106, 3, 0, 0, []),
  (19, .ifCond .ne 6, 25, 0, 0, 0, []),
  (22, .ldc 85, 0, 0, 0, (-1000000001), []),
  (24, .ireturn, 0, 0, 0, 0, []),
  (25, .aload_n 0, 0, 0, 0, 0, []),
  (26, .invokevirtual 188, 150, 0, 7, 0, []),
  (29, .iconst (-1), 0, 0, 0, (-1), []),
  (30, .istore_n 3, 3, 0, 0, 0, []),
  (31, .iconst 0, 0, 0, 0, 0, []),
  (32, .istore 4, 4, 0, 0, 0, []),
  (34, .iconst 0, 0, 0, 0, 0, []),
  (35, .istore 5, 5, 0, 0, 0, []),
  (37, .iload 5, 5, 0, 0, 0, []),
  (39, .bipush 10, 0, 0, 0, 10, []),
  (41, .if_icmp .gt 53, 94, 0, 0, 0, []),
  (44, .aload_n 0, 0, 0, 0, 0, []),
  (45, .getfield 7, 7, 0, 0, 0, []),
  (48, .bipush 11, 0, 0, 0, 11, []),
  (50, .iload 5, 5, 0, 0, 0, []),
  (52, .iastore, 0, 0, 0, 0, []),
  (53, .aload_n 0, 0, 0, 0, 0, []),
  (54, .iload_n 1, 1, 0, 0, 0, []),
  (55, .invokevirtual 191, 152, 1, 7, 0, []),
  (58, .aload_n 0, 0, 0, 0, 0, []),
  (59, .getfield 7, 7, 0, 0, 0, []),
  (62, .iconst 4, 0, 0, 0, 4, []),
  (63, .iaload, 0, 0, 0, 0, []),
  (64, .istore 6, 6, 0, 0, 0, []),
  (66, .aload_n 0, 0, 0, 0, 0, []),
  (67, .invokevirtual 195, 151, 0, 7, 0, []),
  (70, .iload_n 3, 3, 0, 0, 0, []),
  (71, .ifCond .lt 10, 81, 0, 0, 0, []),
  (74, .iload 6, 6, 0, 0, 0, []),
  (76, .iload 4, 4, 0, 0, 0, []),
  (78, .if_icmp .le 10, 88, 0, 0, 0, []),
  (81, .iload 5, 5, 0, 0, 0, []),
  (83, .istore_n 3, 3, 0, 0, 0, []),
  (84, .iload 6, 6, 0, 0, 0, []),
  (86, .istore 4, 4, 0, 0, 0, []),
  (88, .iinc 5 1, 5, 0, 0, 1, []),
  (91, .goto (-54), 37, 0, 0, 0, []),
  (94, .iload_n 2, 2, 0, 0, 0, []),
  (95, .ifCond .ne 7, 102, 0, 0, 0, []),
  (98, .iload_n 3, 3, 0, 0, 0, []),
  (99, .goto 5, 104, 0, 0, 0, []),
  (102, .iload 4, 4, 0, 0, 0, []),
  (104, .ireturn, 0, 0, 0, 0, [])]
theorem zk155 : zchk RX7 cX7_patience 7 true (some .int) zc155 [0, 0, 0, 5135, 4170, 0, 0, 0, 0, 0, 4170, 0, 4174, 0, 0, 5119, 0, 0, 0, 0, 0, 0, 0, 0, 0, 0, 4065, 0, 0, 0, 0, 0, 5123, 0, 4065, 0, 0, 0, 0, 5127, 0, 0, 0, 0, 0, 0, 0, 0, 0, 0, 0, 0, 0, 0, 0, 0, 0] = true := by decide +kernel
def zc156 : List zE := [(0, .iload_n 1, 1, 0, 0, 0, []),
  (1, .i2l, 0, 0, 0, 0, []),
  (2, .lconst 1, 0, 0, 0, 1, []),
  (3, .ldc2_w 198, 0, 0, 0, 60, []),
  (6, .invokestatic 72, 106, 3, 0, 0, []),
  (9, .ifCond .eq 13, 22, 0, 0, 0, []),
  (12, .iload_n 2, 2, 0, 0, 0, []),
  (13, .i2l, 0, 0, 0, 0, []),
  (14, .lconst 0, 0, 0, 0, 0, []),
  (15, .lconst 1, 0, 0, 0, 1, []),
  (16, .invokestatic 72, 106, 3, 0, 0, []),
  (19, .ifCond .ne 6, 25, 0, 0, 0, []),
  (22, .ldc 85, 0, 0, 0, (-1000000001), []),
  (24, .ireturn, 0, 0, 0, 0, []),
  (25, .aload_n 0, 0, 0, 0, 0, []),
  (26, .invokevirtual 188, 150, 0, 7, 0, []),
  (29, .iconst (-1), 0, 0, 0, (-1), []),
  (30, .istore_n 3, 3, 0, 0, 0, []),
  (31, .iconst 0, 0, 0, 0, 0, []),
  (32, .istore 4, 4, 0, 0, 0, []),
  (34, .iconst 0, 0, 0, 0, 0, []),
  (35, .istore 5, 5, 0, 0, 0, []),
  (37, .iload 5, 5, 0, 0, 0, []),
  (39, .aload_n 0, 0, 0, 0, 0, []),
  (40, .getfield 7, 7, 0, 0, 0, []),
  (43, .iconst 0, 0, 0, 0, 0, []),
  (44, .iaload, 0, 0, 0, 0, []),
  (45, .if_icmp .ge 50, 95, 0, 0, 0, []),
  (48, .aload_n 0, 0, 0, 0, 0, []),
  (49, .iload 5, 5, 0, 0, 0, []),
  (51, .putfield 43, 7, 12, 0, 0, []),
  (54, .aload_n 0, 0, 0, 0, 0, []),
  (55, .iload_n 1, 1, 0, 0, 0, []),
  (56, .invokevirtual 191, 152, 1, 7, 0, []),
  (59, .aload_n 0, 0, 0, 0, 0, []),
  (60, .getfield 7, 7, 0, 0, 0, []),
  (63, .iconst 4, 0, 0, 0, 4, []),
  (64, .iaload, 0, 0, 0, 0, []),
  (65, .istore 6, 6, 0, 0, 0, []),
  (67, .aload_n 0, 0, 0, 0, 0, []),
  (68, .invokevirtual 195, 151, 0, 7, 0, []),
  (71, .iload_n 3, 3, 0, 0, 0, []),
  (72, .ifCond .lt 10, 82, 0, 0, 0, []),
  (75, .iload 6, 6, 0, 0, 0, []),
  (77, .iload 4, 4, 0, 0, 0, []),
  (79, .if_icmp .le 10, 89, 0, 0, 0, []),
  (82, .iload 5, 5, 0, 0, 0, []),
  (84, .istore_n 3, 3, 0, 0, 0, []),
  (85, .iload 6, 6, 0, 0, 0, []),
  (87, .istore 4, 4, 0, 0, 0, []),
  (89, .iinc 5 1, 5, 0, 0, 1, []),
  (92, .goto (-55), 37, 0, 0, 0, []),
  (95, .aload_n 0, 0, 0, 0, 0, []),
  (96, .iconst (-1), 0, 0, 0, (-1), []),
  (97, .putfield 43, 7, 12, 0, 0, []),
  (100, .iload_n 3, 3, 0, 0, 0, []),
  (101, .ifCond .ge 8, 109, 0, 0, 0, []),
  (104, .ldc 71, 0, 0, 0, (-1000000005), []),
  (106, .goto 13, 119, 0, 0, 0, []),
  (109, .iload_n 2, 2, 0, 0, 0, []),
  (110, .ifCond .ne 7, 117, 0, 0, 0, []),
  (113, .iload_n 3, 3, 0, 0, 0, []),
  (114, .goto 5, 119, 0, 0, 0, []),
  (117, .iload 4, 4, 0, 0, 0, []),
  (119, .ireturn, 0, 0, 0, 0, [])]
theorem zk156 : zchk RX7 cX7_left 7 true (some .int) zc156 [0, 0, 0, 5135, 4170, 0, 0, 0, 0, 0, 4170, 0, 4174, 0, 0, 5119, 0, 0, 0, 0, 0, 0, 0, 0, 4065, 0, 0, 0, 0, 0, 4077, 0, 0, 5123, 0, 4065, 0, 0, 0, 0, 5127, 0, 0, 0, 0, 0, 0, 0, 0, 0, 0, 0, 0, 0, 4077, 0, 0, 5106, 0, 0, 0, 0, 0, 0, 0] = true := by decide +kernel
def zc157 : List zE := [(0, .iconst 0, 0, 0, 0, 0, []),
  (1, .istore_n 1, 1, 0, 0, 0, []),
  (2, .iload_n 1, 1, 0, 0, 0, []),
  (3, .aload_n 0, 0, 0, 0, 0, []),
  (4, .getfield 7, 7, 0, 0, 0, []),
  (7, .iconst 0, 0, 0, 0, 0, []),
  (8, .iaload, 0, 0, 0, 0, []),
  (9, .if_icmp .ge 20, 29, 0, 0, 0, []),
  (12, .aload_n 0, 0, 0, 0, 0, []),
  (13, .iload_n 1, 1, 0, 0, 0, []),
  (14, .iconst 4, 0, 0, 0, 4, []),
  (15, .invokevirtual 90, 113, 2, 7, 0, []),
  (18, .ifCond .ne 5, 23, 0, 0, 0, []),
  (21, .iconst 0, 0, 0, 0, 0, []),
  (22, .ireturn, 0, 0, 1, 0, []),
  (23, .iinc 1 1, 1, 0, 0, 1, []),
  (26, .goto (-24), 2, 0, 0, 0, []),
  (29, .iconst 1, 0, 0, 0, 1, []),
  (30, .ireturn, 0, 0, 1, 0, [])]
theorem zk157 : zchk RX7 cX7_areOver 2 true (some .boolean) zc157 [0, 0, 0, 0, 4065, 0, 0, 0, 0, 0, 0, 4192, 0, 0, 0, 0, 0, 0, 0] = true := by decide +kernel
def zc158 : List zE := [(0, .aload_n 0, 0, 0, 0, 0, []),
  (1, .invokevirtual 188, 150, 0, 7, 0, []),
  (4, .iconst (-1), 0, 0, 0, (-1), []),
  (5, .istore_n 1, 1, 0, 0, 0, []),
  (6, .iconst 0, 0, 0, 0, 0, []),
  (7, .istore_n 2, 2, 0, 0, 0, []),
  (8, .iload_n 2, 2, 0, 0, 0, []),
  (9, .bipush 100, 0, 0, 0, 100, []),
  (11, .if_icmp .gt 30, 41, 0, 0, 0, []),
  (14, .iload_n 1, 1, 0, 0, 0, []),
  (15, .ifCond .ge 26, 41, 0, 0, 0, []),
  (18, .aload_n 0, 0, 0, 0, 0, []),
  (19, .invokevirtual 200, 157, 0, 7, 0, []),
  (22, .ifCond .eq 7, 29, 0, 0, 0, []),
  (25, .iload_n 2, 2, 0, 0, 0, []),
  (26, .goto 4, 30, 0, 0, 0, []),
  (29, .iconst (-1), 0, 0, 0, (-1), []),
  (30, .istore_n 1, 1, 0, 0, 0, []),
  (31, .aload_n 0, 0, 0, 0, 0, []),
  (32, .invokevirtual 174, 144, 0, 7, 0, []),
  (35, .iinc 2 1, 2, 0, 0, 1, []),
  (38, .goto (-30), 8, 0, 0, 0, []),
  (41, .aload_n 0, 0, 0, 0, 0, []),
  (42, .invokevirtual 195, 151, 0, 7, 0, []),
  (45, .iload_n 1, 1, 0, 0, 0, []),
  (46, .invokestatic 180, 107, 1, 0, 0, []),
  (49, .ireturn, 0, 0, 0, 0, [])]
theorem zk158 : zchk RX7 cX7_allOver 3 true (some .int) zc158 [0, 5119, 0, 0, 0, 0, 0, 0, 0, 0, 0, 0, 5148, 0, 0, 0, 0, 0, 0, 5075, 0, 0, 0, 5127, 0, 5103, 0] = true := by decide +kernel
def zc159 : List zE := [(0, .aload_n 0, 0, 0, 0, 0, []),
  (1, .iconst 2, 0, 0, 0, 2, []),
  (2, .invokevirtual 94, 179, 1, 7, 0, []),
  (5, .istore_n 1, 1, 0, 0, 0, []),
  (6, .iload_n 1, 1, 0, 0, 0, []),
  (7, .ifCond .ge 10, 17, 0, 0, 0, []),
  (10, .aload_n 0, 0, 0, 0, 0, []),
  (11, .getfield 7, 7, 0, 0, 0, []),
  (14, .iconst 4, 0, 0, 0, 4, []),
  (15, .iaload, 0, 0, 0, 0, []),
  (16, .ireturn, 0, 0, 0, 0, []),
  (17, .aload_n 0, 0, 0, 0, 0, []),
  (18, .getfield 56, 7, 27, 0, 0, []),
  (21, .bipush 116, 0, 0, 0, 116, []),
  (23, .aload_n 0, 0, 0, 0, 0, []),
  (24, .getfield 7, 7, 0, 0, 0, []),
  (27, .iconst 3, 0, 0, 0, 3, []),
  (28, .iaload, 0, 0, 0, 0, []),
  (29, .iastore, 0, 0, 0, 0, []),
  (30, .aload_n 0, 0, 0, 0, 0, []),
  (31, .getfield 56, 7, 27, 0, 0, []),
  (34, .bipush 112, 0, 0, 0, 112, []),
  (36, .aload_n 0, 0, 0, 0, 0, []),
  (37, .getfield 7, 7, 0, 0, 0, []),
  (40, .iconst 4, 0, 0, 0, 4, []),
  (41, .iaload, 0, 0, 0, 0, []),
  (42, .iastore, 0, 0, 0, 0, []),
  (43, .aload_n 0, 0, 0, 0, 0, []),
  (44, .iload_n 1, 1, 0, 0, 0, []),
  (45, .invokevirtual 98, 182, 1, 7, 0, []),
  (48, .ireturn, 0, 0, 0, 0, [])]
theorem zk159 : zchk RX7 cX7_fine 2 true (some .int) zc159 [0, 0, 4200, 0, 0, 0, 0, 4065, 0, 0, 0, 0, 4092, 0, 0, 4065, 0, 0, 0, 0, 4092, 0, 0, 4065, 0, 0, 0, 0, 0, 4208, 0] = true := by decide +kernel
def zc160 : List zE := [(0, .aload_n 0, 0, 0, 0, 0, []),
  (1, .getfield 204, 7, 16, 0, 0, []),
  (4, .bipush 12, 0, 0, 0, 12, []),
  (6, .iadd, 0, 0, 0, 0, []),
  (7, .bipush 96, 0, 0, 0, 96, []),
  (9, .if_icmp .le 6, 15, 0, 0, 0, []),
  (12, .ldc 86, 0, 0, 0, (-1000000003), []),
  (14, .ireturn, 0, 0, 0, 0, []),
  (15, .iconst 0, 0, 0, 0, 0, []),
  (16, .istore 4, 4, 0, 0, 0, []),
  (18, .iload 4, 4, 0, 0, 0, []),
  (20, .bipush 12, 0, 0, 0, 12, []),
  (22, .if_icmp .ge 69, 91, 0, 0, 0, []),
  (25, .iload 4, 4, 0, 0, 0, []),
  (27, .iconst 4, 0, 0, 0, 4, []),
  (28, .if_icmp .ge 7, 35, 0, 0, 0, []),
  (31, .iload_n 1, 1, 0, 0, 0, []),
  (32, .goto 15, 47, 0, 0, 0, []),
  (35, .iload 4, 4, 0, 0, 0, []),
  (37, .bipush 8, 0, 0, 0, 8, []),
  (39, .if_icmp .ge 7, 46, 0, 0, 0, []),
  (42, .iload_n 2, 2, 0, 0, 0, []),
  (43, .goto 4, 47, 0, 0, 0, []),
  (46, .iload_n 3, 3, 0, 0, 0, []),
  (47, .istore 5, 5, 0, 0, 0, []),
  (49, .aload_n 0, 0, 0, 0, 0, []),
  (50, .getfield 53, 7, 15, 0, 0, []),
  (53, .aload_n 0, 0, 0, 0, 0, []),
  (54, .getfield 204, 7, 16, 0, 0, []),
  (57, .iload 5, 5, 0, 0, 0, []),
  (59, .bipush 24, 0, 0, 0, 24, []),
  (61, .bipush 8, 0, 0, 0, 8, []),
  (63, .iload 4, 4, 0, 0, 0, []),
  (65, .iconst 4, 0, 0, 0, 4, []),
  (66, .irem, 0, 0, 0, 0, []),
  (67, .imul, 0, 0, 0, 0, []),
  (68, .isub, 0, 0, 0, 0, []),
  (69, .ishr, 0, 0, 0, 0, []),
  (70, .sipush 255, 0, 0, 0, 255, []),
  (73, .iand, 0, 0, 0, 0, []),
  (74, .iastore, 0, 0, 0, 0, []),
  (75, .aload_n 0, 0, 0, 0, 0, []),
  (76, .dup, 0, 0, 0, 0, []),
  (77, .getfield 204, 7, 16, 0, 0, []),
  (80, .iconst 1, 0, 0, 0, 1, []),
  (81, .iadd, 0, 0, 0, 0, []),
  (82, .putfield 204, 7, 16, 0, 0, []),
  (85, .iinc 4 1, 4, 0, 0, 1, []),
  (88, .goto (-70), 18, 0, 0, 0, []),
  (91, .aload_n 0, 0, 0, 0, 0, []),
  (92, .getfield 204, 7, 16, 0, 0, []),
  (95, .ireturn, 0, 0, 0, 0, [])]
theorem zk160 : zchk RX7 cX7_feed 6 true (some .int) zc160 [0, 4081, 0, 0, 0, 0, 4175, 0, 0, 0, 0, 0, 0, 0, 0, 0, 0, 0, 0, 0, 0, 0, 0, 0, 0, 0, 4080, 0, 4081, 0, 0, 0, 0, 0, 0, 0, 0, 0, 0, 0, 0, 0, 0, 4081, 0, 0, 4081, 0, 0, 0, 4081, 0] = true := by decide +kernel
def zc161 : List zE := [(0, .iload_n 1, 1, 0, 0, 0, []),
  (1, .i2l, 0, 0, 0, 0, []),
  (2, .lconst 0, 0, 0, 0, 0, []),
  (3, .aload_n 0, 0, 0, 0, 0, []),
  (4, .getfield 204, 7, 16, 0, 0, []),
  (7, .i2l, 0, 0, 0, 0, []),
  (8, .invokestatic 72, 106, 3, 0, 0, []),
  (11, .ifCond .ne 6, 17, 0, 0, 0, []),
  (14, .ldc 85, 0, 0, 0, (-1000000001), []),
  (16, .ireturn, 0, 0, 0, 0, []),
  (17, .aload_n 0, 0, 0, 0, 0, []),
  (18, .iload_n 1, 1, 0, 0, 0, []),
  (19, .putfield 204, 7, 16, 0, 0, []),
  (22, .iload_n 1, 1, 0, 0, 0, []),
  (23, .ireturn, 0, 0, 0, 0, [])]
theorem zk161 : zchk RX7 cX7_trim 2 true (some .int) zc161 [0, 0, 0, 0, 4081, 0, 4170, 0, 4174, 0, 0, 0, 4081, 0, 0] = true := by decide +kernel
def zc162 : List zE := [(0, .iload_n 1, 1, 0, 0, 0, []),
  (1, .aload_n 0, 0, 0, 0, 0, []),
  (2, .getfield 204, 7, 16, 0, 0, []),
  (5, .if_icmp .ge 26, 31, 0, 0, 0, []),
  (8, .aload_n 0, 0, 0, 0, 0, []),
  (9, .getfield 53, 7, 15, 0, 0, []),
  (12, .iload_n 1, 1, 0, 0, 0, []),
  (13, .iaload, 0, 0, 0, 0, []),
  (14, .i2l, 0, 0, 0, 0, []),
  (15, .ldc2_w 207, 0, 0, 0, 97, []),
  (18, .ldc2_w 209, 0, 0, 0, 122, []),
  (21, .invokestatic 72, 106, 3, 0, 0, []),
  (24, .ifCond .eq 7, 31, 0, 0, 0, []),
  (27, .iconst 1, 0, 0, 0, 1, []),
  (28, .goto 4, 32, 0, 0, 0, []),
  (31, .iconst 0, 0, 0, 0, 0, []),
  (32, .ireturn, 0, 0, 1, 0, [])]
theorem zk162 : zchk RX7 cX7_isLetter 2 true (some .boolean) zc162 [0, 0, 4081, 0, 0, 4080, 0, 0, 0, 5180, 5181, 4170, 0, 0, 0, 0, 0] = true := by decide +kernel
def zc163 : List zE := [(0, .iload_n 1, 1, 0, 0, 0, []),
  (1, .aload_n 0, 0, 0, 0, 0, []),
  (2, .getfield 204, 7, 16, 0, 0, []),
  (5, .if_icmp .ge 26, 31, 0, 0, 0, []),
  (8, .aload_n 0, 0, 0, 0, 0, []),
  (9, .getfield 53, 7, 15, 0, 0, []),
  (12, .iload_n 1, 1, 0, 0, 0, []),
  (13, .iaload, 0, 0, 0, 0, []),
  (14, .i2l, 0, 0, 0, 0, []),
  (15, .ldc2_w 211, 0, 0, 0, 48, []),
  (18, .ldc2_w 213, 0, 0, 0, 57, []),
  (21, .invokestatic 72, 106, 3, 0, 0, []),
  (24, .ifCond .eq 7, 31, 0, 0, 0, []),
  (27, .iconst 1, 0, 0, 0, 1, []),
  (28, .goto 4, 32, 0, 0, 0, []),
  (31, .iconst 0, 0, 0, 0, 0, []),
  (32, .ireturn, 0, 0, 1, 0, [])]
theorem zk163 : zchk RX7 cX7_isDigit 2 true (some .boolean) zc163 [0, 0, 4081, 0, 0, 4080, 0, 0, 0, 5186, 5187, 4170, 0, 0, 0, 0, 0] = true := by decide +kernel
end
section
/-! code tables: printed by gen06.py from the bytecode -/
def zc164 : List zE := [(0, .aload_n 0, 0, 0, 0, 0, []),
  (1, .getfield 215, 7, 18, 0, 0, []),
  (4, .ifCond .le 23, 27, 0, 0, 0, []),
  (7, .aload_n 0, 0, 0, 0, 0, []),
  (8, .getfield 218, 7, 19, 0, 0, []),
  (11, .iconst 1, 0, 0, 0, 1, []),
  (12, .if_icmp .eq 11, 23, 0, 0, 0, []),
  (15, .aload_n 0, 0, 0, 0, 0, []),
  (16, .getfield 218, 7, 19, 0, 0, []),
  (19, .iconst 2, 0, 0, 0, 2, []),
  (20, .if_icmp .ne 7, 27, 0, 0, 0, []),
  (23, .iconst 1, 0, 0, 0, 1, []),
  (24, .goto 4, 28, 0, 0, 0, []),
  (27, .iconst 0, 0, 0, 0, 0, []),
  (28, .istore_n 1, 1, 0, 0, 0, []),
  (29, .aload_n 0, 0, 0, 0, 0, []),
  (30, .getfield 215, 7, 18, 0, 0, []),
  (33, .istore_n 2, 2, 0, 0, 0, []),
  (34, .aload_n 0, 0, 0, 0, 0, []),
  (35, .getfield 215, 7, 18, 0, 0, []),
  (38, .aload_n 0, 0, 0, 0, 0, []),
  (39, .getfield 204, 7, 16, 0, 0, []),
  (42, .if_icmp .ge 30, 72, 0, 0, 0, []),
  (45, .aload_n 0, 0, 0, 0, 0, []),
  (46, .getfield 53, 7, 15, 0, 0, []),
  (49, .aload_n 0, 0, 0, 0, 0, []),
  (50, .getfield 215, 7, 18, 0, 0, []),
  (53, .iaload, 0, 0, 0, 0, []),
  (54, .bipush 32, 0, 0, 0, 32, []),
  (56, .if_icmp .ne 16, 72, 0, 0, 0, []),
  (59, .aload_n 0, 0, 0, 0, 0, []),
  (60, .dup, 0, 0, 0, 0, []),
  (61, .getfield 215, 7, 18, 0, 0, []),
  (64, .iconst 1, 0, 0, 0, 1, []),
  (65, .iadd, 0, 0, 0, 0, []),
  (66, .putfield 215, 7, 18, 0, 0, []),
  (69, .goto (-35), 34, 0, 0, 0, []),
  (72, .iload_n 1, 1, 0, 0, 0, []),
  (73, .ifCond .eq 15, 88, 0, 0, 0, []),
  (76, .iload_n 2, 2, 0, 0, 0, []),
  (77, .aload_n 0, 0, 0, 0, 0, []),
  (78, .getfield 215, 7, 18, 0, 0, []),
  (81, .if_icmp .ne 7, 88, 0, 0, 0, []),
  (84, .iconst 1, 0, 0, 0, 1, []),
  (85, .goto 4, 89, 0, 0, 0, []),
  (88, .iconst 0, 0, 0, 0, 0, []),
  (89, .istore_n 1, 1, 0, 0, 0, []),
  (90, .aload_n 0, 0, 0, 0, 0, []),
  (91, .aload_n 0, 0, 0, 0, 0, []),
  (92, .getfield 215, 7, 18, 0, 0, []),
  (95, .putfield 221, 7, 17, 0, 0, []),
  (98, .aload_n 0, 0, 0, 0, 0, []),
  (99, .getfield 221, 7, 17, 0, 0, []),
  (102, .aload_n 0, 0, 0, 0, 0, []),
  (103, .getfield 204, 7, 16, 0, 0, []),
  (106, .if_icmp .ne 11, 117, 0, 0, 0, []),
  (109, .aload_n 0, 0, 0, 0, 0, []),
  (110, .iconst 0, 0, 0, 0, 0, []),
  (111, .putfield 218, 7, 19, 0, 0, []),
  (114, .goto 225, 339, 0, 0, 0, []),
  (117, .aload_n 0, 0, 0, 0, 0, []),
  (118, .aload_n 0, 0, 0, 0, 0, []),
  (119, .getfield 221, 7, 17, 0, 0, []),
  (122, .invokevirtual 224, 162, 1, 7, 0, []),
  (125, .ifCond .eq 73, 198, 0, 0, 0, []),
  (128, .aload_n 0, 0, 0, 0, 0, []),
  (129, .aload_n 0, 0, 0, 0, 0, []),
  (130, .getfield 215, 7, 18, 0, 0, []),
  (133, .invokevirtual 224, 162, 1, 7, 0, []),
  (136, .ifCond .eq 16, 152, 0, 0, 0, []),
  (139, .aload_n 0, 0, 0, 0, 0, []),
  (140, .dup, 0, 0, 0, 0, []),
  (141, .getfield 215, 7, 18, 0, 0, []),
  (144, .iconst 1, 0, 0, 0, 1, []),
  (145, .iadd, 0, 0, 0, 0, []),
  (146, .putfield 215, 7, 18, 0, 0, []),
  (149, .goto (-21), 128, 0, 0, 0, []),
  (152, .aload_n 0, 0, 0, 0, 0, []),
  (153, .iload_n 1, 1, 0, 0, 0, []),
  (154, .ifCond .eq 7, 161, 0, 0, 0, []),
  (157, .iconst 4, 0, 0, 0, 4, []),
  (158, .goto 4, 162, 0, 0, 0, []),
  (161, .iconst 1, 0, 0, 0, 1, []),
  (162, .putfield 218, 7, 19, 0, 0, []),
  (165, .aload_n 0, 0, 0, 0, 0, []),
  (166, .aload_n 0, 0, 0, 0, 0, []),
  (167, .getfield 215, 7, 18, 0, 0, []),
  (170, .aload_n 0, 0, 0, 0, 0, []),
  (171, .getfield 221, 7, 17, 0, 0, []),
  (174, .isub, 0, 0, 0, 0, []),
  (175, .iconst 1, 0, 0, 0, 1, []),
  (176, .if_icmp .ne 15, 191, 0, 0, 0, []),
  (179, .aload_n 0, 0, 0, 0, 0, []),
  (180, .getfield 53, 7, 15, 0, 0, []),
  (183, .aload_n 0, 0, 0, 0, 0, []),
  (184, .getfield 221, 7, 17, 0, 0, []),
  (187, .iaload, 0, 0, 0, 0, []),
  (188, .goto 4, 192, 0, 0, 0, []),
  (191, .iconst 0, 0, 0, 0, 0, []),
  (192, .putfield 227, 7, 21, 0, 0, []),
  (195, .goto 144, 339, 0, 0, 0, []),
  (198, .aload_n 0, 0, 0, 0, 0, []),
  (199, .aload_n 0, 0, 0, 0, 0, []),
  (200, .getfield 221, 7, 17, 0, 0, []),
  (203, .invokevirtual 230, 163, 1, 7, 0, []),
  (206, .ifCond .eq 105, 311, 0, 0, 0, []),
  (209, .aload_n 0, 0, 0, 0, 0, []),
  (210, .iconst 0, 0, 0, 0, 0, []),
  (211, .putfield 233, 7, 20, 0, 0, []),
  (214, .aload_n 0, 0, 0, 0, 0, []),
  (215, .aload_n 0, 0, 0, 0, 0, []),
  (216, .getfield 215, 7, 18, 0, 0, []),
  (219, .invokevirtual 230, 163, 1, 7, 0, []),
  (222, .ifCond .eq 60, 282, 0, 0, 0, []),
  (225, .aload_n 0, 0, 0, 0, 0, []),
  (226, .aload_n 0, 0, 0, 0, 0, []),
  (227, .getfield 215, 7, 18, 0, 0, []),
  (230, .aload_n 0, 0, 0, 0, 0, []),
  (231, .getfield 221, 7, 17, 0, 0, []),
  (234, .isub, 0, 0, 0, 0, []),
  (235, .iconst 4, 0, 0, 0, 4, []),
  (236, .if_icmp .ge 26, 262, 0, 0, 0, []),
  (239, .bipush 10, 0, 0, 0, 10, []),
  (241, .aload_n 0, 0, 0, 0, 0, []),
  (242, .getfield 233, 7, 20, 0, 0, []),
  (245, .imul, 0, 0, 0, 0, []),
  (246, .aload_n 0, 0, 0, 0, 0, []),
  (247, .getfield 53, 7, 15, 0, 0, []),
  (250, .aload_n 0, 0, 0, 0, 0, []),
  (251, .getfield 215, 7, 18, 0, 0, []),
  (254, .iaload, 0, 0, 0, 0, []),
  (255, .iadd, 0, 0, 0, 0, []),
  (256, .bipush 48, 0, 0, 0, 48, []),
  (258, .isub, 0, 0, 0, 0, []),
  (259, .goto 7, 266, 0, 0, 0, []),
  (262, .aload_n 0, 0, 0, 0, 0, []),
  (263, .getfield 233, 7, 20, 0, 0, []),
  (266, .putfield 233, 7, 20, 0, 0, []),
  (269, .aload_n 0, 0, 0, 0, 0, []),
  (270, .dup, 0, 0, 0, 0, []),
  (271, .getfield 215, 7, 18, 0, 0, []),
  (274, .iconst 1, 0, 0, 0, 1, []),
  (275, .iadd, 0, 0, 0, 0, []),
  (276, .putfield 215, 7, 18, 0, 0, []),
  (279, .goto (-65), 214, 0, 0, 0, []),
  (282, .aload_n 0, 0, 0, 0, 0, []),
  (283, .iload_n 1, 1, 0, 0, 0, []),
  (284, .ifCond .ne 16, 300, 0, 0, 0, []),
  (287, .aload_n 0, 0, 0, 0, 0, []),
  (288, .getfield 215, 7, 18, 0, 0, []),
  (291, .aload_n 0, 0, 0, 0, 0, []),
  (292, .getfield 221, 7, 17, 0, 0, []),
  (295, .isub, 0, 0, 0, 0, []),
  (296, .iconst 4, 0, 0, 0, 4, []),
  (297, .if_icmp .le 7, 304, 0, 0, 0, []),
  (300, .iconst 4, 0, 0, 0, 4, []),
  (301, .goto 4, 305, 0, 0, 0, []),
  (304, .iconst 2, 0, 0, 0, 2, []),
  (305, .putfield 218, 7, 19, 0, 0, []),
  (308, .goto 31, 339, 0, 0, 0, []),
  (311, .aload_n 0, 0, 0, 0, 0, []),
  (312, .iconst 3, 0, 0, 0, 3, []),
  (313, .putfield 218, 7, 19, 0, 0, []),
  (316, .aload_n 0, 0, 0, 0, 0, []),
  (317, .aload_n 0, 0, 0, 0, 0, []),
  (318, .getfield 53, 7, 15, 0, 0, []),
  (321, .aload_n 0, 0, 0, 0, 0, []),
  (322, .getfield 221, 7, 17, 0, 0, []),
  (325, .iaload, 0, 0, 0, 0, []),
  (326, .putfield 227, 7, 21, 0, 0, []),
  (329, .aload_n 0, 0, 0, 0, 0, []),
  (330, .dup, 0, 0, 0, 0, []),
  (331, .getfield 215, 7, 18, 0, 0, []),
  (334, .iconst 1, 0, 0, 0, 1, []),
  (335, .iadd, 0, 0, 0, 0, []),
  (336, .putfield 215, 7, 18, 0, 0, []),
  (339, .return_, 0, 0, 0, 0, [])]
theorem zk164 : zchk RX7 cX7_nextToken 3 true none zc164 [0, 4083, 0, 0, 4084, 0, 0, 0, 4084, 0, 0, 0, 0, 0, 0, 0, 4083, 0, 0, 4083, 0, 4081, 0, 0, 4080, 0, 4083, 0, 0, 0, 0, 0, 4083, 0, 0, 4083, 0, 0, 0, 0, 0, 4083, 0, 0, 0, 0, 0, 0, 0, 4083, 4082, 0, 4082, 0, 4081, 0, 0, 0, 4084, 0, 0, 0, 4082, 5176, 0, 0, 0, 4083, 5176, 0, 0, 0, 4083, 0, 0, 4083, 0, 0, 0, 0, 0, 0, 0, 4084, 0, 0, 4083, 0, 4082, 0, 0, 0, 0, 4080, 0, 4082, 0, 0, 0, 4086, 0, 0, 0, 4082, 5182, 0, 0, 0, 4085, 0, 0, 4083, 5182, 0, 0, 0, 4083, 0, 4082, 0, 0, 0, 0, 0, 4085, 0, 0, 4080, 0, 4083, 0, 0, 0, 0, 0, 0, 4085, 4085, 0, 0, 4083, 0, 0, 4083, 0, 0, 0, 0, 0, 4083, 0, 4082, 0, 0, 0, 0, 0, 0, 4084, 0, 0, 0, 4084, 0, 0, 4080, 0, 4082, 0, 4086, 0, 0, 4083, 0, 0, 4083, 0] = true := by decide +kernel
def zc165 : List zE := [(0, .aload_n 0, 0, 0, 0, 0, []),
  (1, .getfield 218, 7, 19, 0, 0, []),
  (4, .iconst 3, 0, 0, 0, 3, []),
  (5, .if_icmp .ne 15, 20, 0, 0, 0, []),
  (8, .aload_n 0, 0, 0, 0, 0, []),
  (9, .getfield 227, 7, 21, 0, 0, []),
  (12, .iload_n 1, 1, 0, 0, 0, []),
  (13, .if_icmp .ne 7, 20, 0, 0, 0, []),
  (16, .iconst 1, 0, 0, 0, 1, []),
  (17, .goto 4, 21, 0, 0, 0, []),
  (20, .iconst 0, 0, 0, 0, 0, []),
  (21, .ireturn, 0, 0, 1, 0, [])]
theorem zk165 : zchk RX7 cX7_isSign 2 true (some .boolean) zc165 [0, 4084, 0, 0, 0, 4086, 0, 0, 0, 0, 0, 0] = true := by decide +kernel
def zc166 : List zE := [(0, .iload 4, 4, 0, 0, 0, []),
  (2, .ifCond .ne 7, 9, 0, 0, 0, []),
  (5, .iconst 3, 0, 0, 0, 3, []),
  (6, .goto 4, 10, 0, 0, 0, []),
  (9, .iconst 4, 0, 0, 0, 4, []),
  (10, .istore 5, 5, 0, 0, 0, []),
  (12, .aload_n 0, 0, 0, 0, 0, []),
  (13, .getfield 218, 7, 19, 0, 0, []),
  (16, .iconst 1, 0, 0, 0, 1, []),
  (17, .if_icmp .ne 85, 102, 0, 0, 0, []),
  (20, .aload_n 0, 0, 0, 0, 0, []),
  (21, .getfield 215, 7, 18, 0, 0, []),
  (24, .aload_n 0, 0, 0, 0, 0, []),
  (25, .getfield 221, 7, 17, 0, 0, []),
  (28, .isub, 0, 0, 0, 0, []),
  (29, .iload 5, 5, 0, 0, 0, []),
  (31, .if_icmp .ne 71, 102, 0, 0, 0, []),
  (34, .aload_n 0, 0, 0, 0, 0, []),
  (35, .getfield 53, 7, 15, 0, 0, []),
  (38, .aload_n 0, 0, 0, 0, 0, []),
  (39, .getfield 221, 7, 17, 0, 0, []),
  (42, .iaload, 0, 0, 0, 0, []),
  (43, .iload_n 1, 1, 0, 0, 0, []),
  (44, .if_icmp .ne 58, 102, 0, 0, 0, []),
  (47, .aload_n 0, 0, 0, 0, 0, []),
  (48, .getfield 53, 7, 15, 0, 0, []),
  (51, .aload_n 0, 0, 0, 0, 0, []),
  (52, .getfield 221, 7, 17, 0, 0, []),
  (55, .iconst 1, 0, 0, 0, 1, []),
  (56, .iadd, 0, 0, 0, 0, []),
  (57, .iaload, 0, 0, 0, 0, []),
  (58, .iload_n 2, 2, 0, 0, 0, []),
  (59, .if_icmp .ne 43, 102, 0, 0, 0, []),
  (62, .aload_n 0, 0, 0, 0, 0, []),
  (63, .getfield 53, 7, 15, 0, 0, []),
  (66, .aload_n 0, 0, 0, 0, 0, []),
  (67, .getfield 221, 7, 17, 0, 0, []),
  (70, .iconst 2, 0, 0, 0, 2, []),
  (71, .iadd, 0, 0, 0, 0, []),
  (72, .iaload, 0, 0, 0, 0, []),
  (73, .iload_n 3, 3, 0, 0, 0, []),
  (74, .if_icmp .ne 28, 102, 0, 0, 0, []),
  (77, .iload 4, 4, 0, 0, 0, []),
  (79, .ifCond .eq 19, 98, 0, 0, 0, []),
  (82, .aload_n 0, 0, 0, 0, 0, []),
  (83, .getfield 53, 7, 15, 0, 0, []),
  (86, .aload_n 0, 0, 0, 0, 0, []),
  (87, .getfield 221, 7, 17, 0, 0, []),
  (90, .iconst 3, 0, 0, 0, 3, []),
  (91, .iadd, 0, 0, 0, 0, []),
  (92, .iaload, 0, 0, 0, 0, []),
  (93, .iload 4, 4, 0, 0, 0, []),
  (95, .if_icmp .ne 7, 102, 0, 0, 0, []),
  (98, .iconst 1, 0, 0, 0, 1, []),
  (99, .goto 4, 103, 0, 0, 0, []),
  (102, .iconst 0, 0, 0, 0, 0, []),
  (103, .ireturn, 0, 0, 1, 0, [])]
theorem zk166 : zchk RX7 cX7_isWordAt 6 true (some .boolean) zc166 [0, 0, 0, 0, 0, 0, 0, 4084, 0, 0, 0, 4083, 0, 4082, 0, 0, 0, 0, 4080, 0, 4082, 0, 0, 0, 0, 4080, 0, 4082, 0, 0, 0, 0, 0, 0, 4080, 0, 4082, 0, 0, 0, 0, 0, 0, 0, 0, 4080, 0, 4082, 0, 0, 0, 0, 0, 0, 0, 0, 0] = true := by decide +kernel
def zc167 : List zE := [(0, .aload_n 0, 0, 0, 0, 0, []),
  (1, .bipush 116, 0, 0, 0, 116, []),
  (3, .bipush 111, 0, 0, 0, 111, []),
  (5, .bipush 108, 0, 0, 0, 108, []),
  (7, .bipush 108, 0, 0, 0, 108, []),
  (9, .invokevirtual 236, 166, 4, 7, 0, []),
  (12, .ifCond .eq 5, 17, 0, 0, 0, []),
  (15, .iconst 0, 0, 0, 0, 0, []),
  (16, .ireturn, 0, 0, 0, 0, []),
  (17, .aload_n 0, 0, 0, 0, 0, []),
  (18, .bipush 112, 0, 0, 0, 112, []),
  (20, .bipush 117, 0, 0, 0, 117, []),
  (22, .bipush 108, 0, 0, 0, 108, []),
  (24, .bipush 108, 0, 0, 0, 108, []),
  (26, .invokevirtual 236, 166, 4, 7, 0, []),
  (29, .ifCond .eq 5, 34, 0, 0, 0, []),
  (32, .iconst 1, 0, 0, 0, 1, []),
  (33, .ireturn, 0, 0, 0, 0, []),
  (34, .aload_n 0, 0, 0, 0, 0, []),
  (35, .bipush 102, 0, 0, 0, 102, []),
  (37, .bipush 105, 0, 0, 0, 105, []),
  (39, .bipush 110, 0, 0, 0, 110, []),
  (41, .bipush 101, 0, 0, 0, 101, []),
  (43, .invokevirtual 236, 166, 4, 7, 0, []),
  (46, .ifCond .eq 7, 53, 0, 0, 0, []),
  (49, .iconst 2, 0, 0, 0, 2, []),
  (50, .goto 4, 54, 0, 0, 0, []),
  (53, .iconst (-1), 0, 0, 0, (-1), []),
  (54, .ireturn, 0, 0, 0, 0, [])]
theorem zk167 : zchk RX7 cX7_key 1 true (some .int) zc167 [0, 0, 0, 0, 0, 5192, 0, 0, 0, 0, 0, 0, 0, 0, 5192, 0, 0, 0, 0, 0, 0, 0, 0, 5192, 0, 0, 0, 0, 0] = true := by decide +kernel
def zc168 : List zE := [(0, .iload_n 0, 0, 0, 0, 0, []),
  (1, .lookupswitch 75 #[(0, 27), (1, 51)], 76, 27, 0, 0, [(0, 28), (1, 52)]),
  (28, .iload_n 1, 1, 0, 0, 0, []),
  (29, .bipush 119, 0, 0, 0, 119, []),
  (31, .if_icmp .eq 15, 46, 0, 0, 0, []),
  (34, .iload_n 1, 1, 0, 0, 0, []),
  (35, .bipush 115, 0, 0, 0, 115, []),
  (37, .if_icmp .eq 9, 46, 0, 0, 0, []),
  (40, .iload_n 1, 1, 0, 0, 0, []),
  (41, .bipush 118, 0, 0, 0, 118, []),
  (43, .if_icmp .ne 7, 50, 0, 0, 0, []),
  (46, .iconst 1, 0, 0, 0, 1, []),
  (47, .goto 4, 51, 0, 0, 0, []),
  (50, .iconst 0, 0, 0, 0, 0, []),
  (51, .ireturn, 0, 0, 1, 0, []),
  (52, .iload_n 1, 1, 0, 0, 0, []),
  (53, .bipush 115, 0, 0, 0, 115, []),
  (55, .if_icmp .eq 15, 70, 0, 0, 0, []),
  (58, .iload_n 1, 1, 0, 0, 0, []),
  (59, .bipush 119, 0, 0, 0, 119, []),
  (61, .if_icmp .eq 9, 70, 0, 0, 0, []),
  (64, .iload_n 1, 1, 0, 0, 0, []),
  (65, .bipush 97, 0, 0, 0, 97, []),
  (67, .if_icmp .ne 7, 74, 0, 0, 0, []),
  (70, .iconst 1, 0, 0, 0, 1, []),
  (71, .goto 4, 75, 0, 0, 0, []),
  (74, .iconst 0, 0, 0, 0, 0, []),
  (75, .ireturn, 0, 0, 1, 0, []),
  (76, .iload_n 1, 1, 0, 0, 0, []),
  (77, .bipush 116, 0, 0, 0, 116, []),
  (79, .if_icmp .eq 9, 88, 0, 0, 0, []),
  (82, .iload_n 1, 1, 0, 0, 0, []),
  (83, .bipush 112, 0, 0, 0, 112, []),
  (85, .if_icmp .ne 7, 92, 0, 0, 0, []),
  (88, .iconst 1, 0, 0, 0, 1, []),
  (89, .goto 4, 93, 0, 0, 0, []),
  (92, .iconst 0, 0, 0, 0, 0, []),
  (93, .ireturn, 0, 0, 1, 0, [])]
theorem zk168 : zchk RX7 cX7_isName 2 true (some .boolean) zc168 [0, 0, 0, 0, 0, 0, 0, 0, 0, 0, 0, 0, 0, 0, 0, 0, 0, 0, 0, 0, 0, 0, 0, 0, 0, 0, 0, 0, 0, 0, 0, 0, 0, 0, 0, 0, 0, 0] = true := by decide +kernel
def zc169 : List zE := [(0, .aload_n 0, 0, 0, 0, 0, []),
  (1, .getfield 7, 7, 0, 0, 0, []),
  (4, .aload_n 0, 0, 0, 0, 0, []),
  (5, .getfield 240, 7, 25, 0, 0, []),
  (8, .iconst 2, 0, 0, 0, 2, []),
  (9, .aload_n 0, 0, 0, 0, 0, []),
  (10, .getfield 243, 7, 24, 0, 0, []),
  (13, .imul, 0, 0, 0, 0, []),
  (14, .iadd, 0, 0, 0, 0, []),
  (15, .iload_n 1, 1, 0, 0, 0, []),
  (16, .iastore, 0, 0, 0, 0, []),
  (17, .aload_n 0, 0, 0, 0, 0, []),
  (18, .getfield 7, 7, 0, 0, 0, []),
  (21, .aload_n 0, 0, 0, 0, 0, []),
  (22, .getfield 240, 7, 25, 0, 0, []),
  (25, .iconst 2, 0, 0, 0, 2, []),
  (26, .aload_n 0, 0, 0, 0, 0, []),
  (27, .getfield 243, 7, 24, 0, 0, []),
  (30, .imul, 0, 0, 0, 0, []),
  (31, .iadd, 0, 0, 0, 0, []),
  (32, .iconst 1, 0, 0, 0, 1, []),
  (33, .iadd, 0, 0, 0, 0, []),
  (34, .iload_n 2, 2, 0, 0, 0, []),
  (35, .iastore, 0, 0, 0, 0, []),
  (36, .aload_n 0, 0, 0, 0, 0, []),
  (37, .dup, 0, 0, 0, 0, []),
  (38, .getfield 243, 7, 24, 0, 0, []),
  (41, .iconst 1, 0, 0, 0, 1, []),
  (42, .iadd, 0, 0, 0, 0, []),
  (43, .putfield 243, 7, 24, 0, 0, []),
  (46, .return_, 0, 0, 0, 0, [])]
theorem zk169 : zchk RX7 cX7_step 3 true none zc169 [0, 4065, 0, 4090, 0, 0, 4089, 0, 0, 0, 0, 0, 4065, 0, 4090, 0, 0, 4089, 0, 0, 0, 0, 0, 0, 0, 0, 4089, 0, 0, 4089, 0] = true := by decide +kernel
def zc170 : List zE := [(0, .aload_n 0, 0, 0, 0, 0, []),
  (1, .iload_n 1, 1, 0, 0, 0, []),
  (2, .invokevirtual 246, 171, 1, 7, 0, []),
  (5, .ifCond .ne 5, 10, 0, 0, 0, []),
  (8, .iconst 0, 0, 0, 0, 0, []),
  (9, .ireturn, 0, 0, 1, 0, []),
  (10, .aload_n 0, 0, 0, 0, 0, []),
  (11, .bipush 124, 0, 0, 0, 124, []),
  (13, .invokevirtual 249, 165, 1, 7, 0, []),
  (16, .ifCond .eq 27, 43, 0, 0, 0, []),
  (19, .aload_n 0, 0, 0, 0, 0, []),
  (20, .invokevirtual 252, 164, 0, 7, 0, []),
  (23, .aload_n 0, 0, 0, 0, 0, []),
  (24, .iload_n 1, 1, 0, 0, 0, []),
  (25, .invokevirtual 246, 171, 1, 7, 0, []),
  (28, .ifCond .ne 5, 33, 0, 0, 0, []),
  (31, .iconst 0, 0, 0, 0, 0, []),
  (32, .ireturn, 0, 0, 1, 0, []),
  (33, .aload_n 0, 0, 0, 0, 0, []),
  (34, .iconst 2, 0, 0, 0, 2, []),
  (35, .bipush 124, 0, 0, 0, 124, []),
  (37, .invokevirtual 255, 169, 2, 7, 0, []),
  (40, .goto (-30), 10, 0, 0, 0, []),
  (43, .iconst 1, 0, 0, 0, 1, []),
  (44, .ireturn, 0, 0, 1, 0, [])]
theorem zk170 : zchk RX7 cX7_either 2 true (some .boolean) zc170 [0, 0, 5200, 0, 0, 0, 0, 0, 5227, 0, 0, 5172, 0, 0, 5200, 0, 0, 0, 0, 0, 0, 5220, 0, 0, 0] = true := by decide +kernel
def zc171 : List zE := [(0, .aload_n 0, 0, 0, 0, 0, []),
  (1, .iload_n 1, 1, 0, 0, 0, []),
  (2, .invokevirtual 259, 172, 1, 7, 0, []),
  (5, .ifCond .ne 5, 10, 0, 0, 0, []),
  (8, .iconst 0, 0, 0, 0, 0, []),
  (9, .ireturn, 0, 0, 1, 0, []),
  (10, .aload_n 0, 0, 0, 0, 0, []),
  (11, .bipush 38, 0, 0, 0, 38, []),
  (13, .invokevirtual 249, 165, 1, 7, 0, []),
  (16, .ifCond .eq 27, 43, 0, 0, 0, []),
  (19, .aload_n 0, 0, 0, 0, 0, []),
  (20, .invokevirtual 252, 164, 0, 7, 0, []),
  (23, .aload_n 0, 0, 0, 0, 0, []),
  (24, .iload_n 1, 1, 0, 0, 0, []),
  (25, .invokevirtual 259, 172, 1, 7, 0, []),
  (28, .ifCond .ne 5, 33, 0, 0, 0, []),
  (31, .iconst 0, 0, 0, 0, 0, []),
  (32, .ireturn, 0, 0, 1, 0, []),
  (33, .aload_n 0, 0, 0, 0, 0, []),
  (34, .iconst 2, 0, 0, 0, 2, []),
  (35, .bipush 38, 0, 0, 0, 38, []),
  (37, .invokevirtual 255, 169, 2, 7, 0, []),
  (40, .goto (-30), 10, 0, 0, 0, []),
  (43, .iconst 1, 0, 0, 0, 1, []),
  (44, .ireturn, 0, 0, 1, 0, [])]
theorem zk171 : zchk RX7 cX7_both 2 true (some .boolean) zc171 [0, 0, 5204, 0, 0, 0, 0, 0, 5227, 0, 0, 5172, 0, 0, 5204, 0, 0, 0, 0, 0, 0, 5220, 0, 0, 0] = true := by decide +kernel
def zc172 : List zE := [(0, .aload_n 0, 0, 0, 0, 0, []),
  (1, .iload_n 1, 1, 0, 0, 0, []),
  (2, .invokevirtual 262, 173, 1, 7, 0, []),
  (5, .ifCond .ne 5, 10, 0, 0, 0, []),
  (8, .iconst 0, 0, 0, 0, 0, []),
  (9, .ireturn, 0, 0, 1, 0, []),
  (10, .aload_n 0, 0, 0, 0, 0, []),
  (11, .bipush 60, 0, 0, 0, 60, []),
  (13, .invokevirtual 249, 165, 1, 7, 0, []),
  (16, .ifCond .ne 21, 37, 0, 0, 0, []),
  (19, .aload_n 0, 0, 0, 0, 0, []),
  (20, .bipush 61, 0, 0, 0, 61, []),
  (22, .invokevirtual 249, 165, 1, 7, 0, []),
  (25, .ifCond .ne 12, 37, 0, 0, 0, []),
  (28, .aload_n 0, 0, 0, 0, 0, []),
  (29, .bipush 62, 0, 0, 0, 62, []),
  (31, .invokevirtual 249, 165, 1, 7, 0, []),
  (34, .ifCond .eq 28, 62, 0, 0, 0, []),
  (37, .aload_n 0, 0, 0, 0, 0, []),
  (38, .getfield 227, 7, 21, 0, 0, []),
  (41, .istore_n 2, 2, 0, 0, 0, []),
  (42, .aload_n 0, 0, 0, 0, 0, []),
  (43, .invokevirtual 252, 164, 0, 7, 0, []),
  (46, .aload_n 0, 0, 0, 0, 0, []),
  (47, .iload_n 1, 1, 0, 0, 0, []),
  (48, .invokevirtual 262, 173, 1, 7, 0, []),
  (51, .ifCond .ne 5, 56, 0, 0, 0, []),
  (54, .iconst 0, 0, 0, 0, 0, []),
  (55, .ireturn, 0, 0, 1, 0, []),
  (56, .aload_n 0, 0, 0, 0, 0, []),
  (57, .iconst 2, 0, 0, 0, 2, []),
  (58, .iload_n 2, 2, 0, 0, 0, []),
  (59, .invokevirtual 255, 169, 2, 7, 0, []),
  (62, .iconst 1, 0, 0, 0, 1, []),
  (63, .ireturn, 0, 0, 1, 0, [])]
theorem zk172 : zchk RX7 cX7_test 3 true (some .boolean) zc172 [0, 0, 5208, 0, 0, 0, 0, 0, 5227, 0, 0, 0, 5227, 0, 0, 0, 5227, 0, 0, 4086, 0, 0, 5172, 0, 0, 5208, 0, 0, 0, 0, 0, 0, 5220, 0, 0] = true := by decide +kernel
def zc173 : List zE := [(0, .aload_n 0, 0, 0, 0, 0, []),
  (1, .iload_n 1, 1, 0, 0, 0, []),
  (2, .invokevirtual 265, 174, 1, 7, 0, []),
  (5, .ifCond .ne 5, 10, 0, 0, 0, []),
  (8, .iconst 0, 0, 0, 0, 0, []),
  (9, .ireturn, 0, 0, 1, 0, []),
  (10, .aload_n 0, 0, 0, 0, 0, []),
  (11, .bipush 43, 0, 0, 0, 43, []),
  (13, .invokevirtual 249, 165, 1, 7, 0, []),
  (16, .ifCond .ne 12, 28, 0, 0, 0, []),
  (19, .aload_n 0, 0, 0, 0, 0, []),
  (20, .bipush 45, 0, 0, 0, 45, []),
  (22, .invokevirtual 249, 165, 1, 7, 0, []),
  (25, .ifCond .eq 31, 56, 0, 0, 0, []),
  (28, .aload_n 0, 0, 0, 0, 0, []),
  (29, .getfield 227, 7, 21, 0, 0, []),
  (32, .istore_n 2, 2, 0, 0, 0, []),
  (33, .aload_n 0, 0, 0, 0, 0, []),
  (34, .invokevirtual 252, 164, 0, 7, 0, []),
  (37, .aload_n 0, 0, 0, 0, 0, []),
  (38, .iload_n 1, 1, 0, 0, 0, []),
  (39, .invokevirtual 265, 174, 1, 7, 0, []),
  (42, .ifCond .ne 5, 47, 0, 0, 0, []),
  (45, .iconst 0, 0, 0, 0, 0, []),
  (46, .ireturn, 0, 0, 1, 0, []),
  (47, .aload_n 0, 0, 0, 0, 0, []),
  (48, .iconst 2, 0, 0, 0, 2, []),
  (49, .iload_n 2, 2, 0, 0, 0, []),
  (50, .invokevirtual 255, 169, 2, 7, 0, []),
  (53, .goto (-43), 10, 0, 0, 0, []),
  (56, .iconst 1, 0, 0, 0, 1, []),
  (57, .ireturn, 0, 0, 1, 0, [])]
theorem zk173 : zchk RX7 cX7_sum 3 true (some .boolean) zc173 [0, 0, 5212, 0, 0, 0, 0, 0, 5227, 0, 0, 0, 5227, 0, 0, 4086, 0, 0, 5172, 0, 0, 5212, 0, 0, 0, 0, 0, 0, 5220, 0, 0, 0] = true := by decide +kernel
def zc174 : List zE := [(0, .aload_n 0, 0, 0, 0, 0, []),
  (1, .iload_n 1, 1, 0, 0, 0, []),
  (2, .invokevirtual 268, 175, 1, 7, 0, []),
  (5, .ifCond .ne 5, 10, 0, 0, 0, []),
  (8, .iconst 0, 0, 0, 0, 0, []),
  (9, .ireturn, 0, 0, 1, 0, []),
  (10, .aload_n 0, 0, 0, 0, 0, []),
  (11, .bipush 42, 0, 0, 0, 42, []),
  (13, .invokevirtual 249, 165, 1, 7, 0, []),
  (16, .ifCond .ne 12, 28, 0, 0, 0, []),
  (19, .aload_n 0, 0, 0, 0, 0, []),
  (20, .bipush 47, 0, 0, 0, 47, []),
  (22, .invokevirtual 249, 165, 1, 7, 0, []),
  (25, .ifCond .eq 31, 56, 0, 0, 0, []),
  (28, .aload_n 0, 0, 0, 0, 0, []),
  (29, .getfield 227, 7, 21, 0, 0, []),
  (32, .istore_n 2, 2, 0, 0, 0, []),
  (33, .aload_n 0, 0, 0, 0, 0, []),
  (34, .invokevirtual 252, 164, 0, 7, 0, []),
  (37, .aload_n 0, 0, 0, 0, 0, []),
  (38, .iload_n 1, 1, 0, 0, 0, []),
  (39, .invokevirtual 268, 175, 1, 7, 0, []),
  (42, .ifCond .ne 5, 47, 0, 0, 0, []),
  (45, .iconst 0, 0, 0, 0, 0, []),
  (46, .ireturn, 0, 0, 1, 0, []),
  (47, .aload_n 0, 0, 0, 0, 0, []),
  (48, .iconst 2, 0, 0, 0, 2, []),
  (49, .iload_n 2, 2, 0, 0, 0, []),
  (50, .invokevirtual 255, 169, 2, 7, 0, []),
  (53, .goto (-43), 10, 0, 0, 0, []),
  (56, .iconst 1, 0, 0, 0, 1, []),
  (57, .ireturn, 0, 0, 1, 0, [])]
theorem zk174 : zchk RX7 cX7_term 3 true (some .boolean) zc174 [0, 0, 5216, 0, 0, 0, 0, 0, 5227, 0, 0, 0, 5227, 0, 0, 4086, 0, 0, 5172, 0, 0, 5216, 0, 0, 0, 0, 0, 0, 5220, 0, 0, 0] = true := by decide +kernel
def zc175 : List zE := [(0, .aload_n 0, 0, 0, 0, 0, []),
  (1, .getfield 218, 7, 19, 0, 0, []),
  (4, .iconst 2, 0, 0, 0, 2, []),
  (5, .if_icmp .ne 28, 33, 0, 0, 0, []),
  (8, .aload_n 0, 0, 0, 0, 0, []),
  (9, .iconst 0, 0, 0, 0, 0, []),
  (10, .aload_n 0, 0, 0, 0, 0, []),
  (11, .getfield 233, 7, 20, 0, 0, []),
  (14, .invokevirtual 255, 169, 2, 7, 0, []),
  (17, .aload_n 0, 0, 0, 0, 0, []),
  (18, .dup, 0, 0, 0, 0, []),
  (19, .getfield 271, 7, 26, 0, 0, []),
  (22, .iconst 1, 0, 0, 0, 1, []),
  (23, .iadd, 0, 0, 0, 0, []),
  (24, .putfield 271, 7, 26, 0, 0, []),
  (27, .aload_n 0, 0, 0, 0, 0, []),
  (28, .invokevirtual 252, 164, 0, 7, 0, []),
  (31, .iconst 1, 0, 0, 0, 1, []),
  (32, .ireturn, 0, 0, 1, 0, []),
  (33, .aload_n 0, 0, 0, 0, 0, []),
  (34, .getfield 218, 7, 19, 0, 0, []),
  (37, .iconst 1, 0, 0, 0, 1, []),
  (38, .if_icmp .ne 46, 84, 0, 0, 0, []),
  (41, .aload_n 0, 0, 0, 0, 0, []),
  (42, .getfield 227, 7, 21, 0, 0, []),
  (45, .ifCond .eq 39, 84, 0, 0, 0, []),
  (48, .iload_n 1, 1, 0, 0, 0, []),
  (49, .aload_n 0, 0, 0, 0, 0, []),
  (50, .getfield 227, 7, 21, 0, 0, []),
  (53, .invokestatic 274, 168, 2, 0, 0, []),
  (56, .ifCond .eq 28, 84, 0, 0, 0, []),
  (59, .aload_n 0, 0, 0, 0, 0, []),
  (60, .iconst 1, 0, 0, 0, 1, []),
  (61, .aload_n 0, 0, 0, 0, 0, []),
  (62, .getfield 227, 7, 21, 0, 0, []),
  (65, .invokevirtual 255, 169, 2, 7, 0, []),
  (68, .aload_n 0, 0, 0, 0, 0, []),
  (69, .dup, 0, 0, 0, 0, []),
  (70, .getfield 271, 7, 26, 0, 0, []),
  (73, .iconst 1, 0, 0, 0, 1, []),
  (74, .iadd, 0, 0, 0, 0, []),
  (75, .putfield 271, 7, 26, 0, 0, []),
  (78, .aload_n 0, 0, 0, 0, 0, []),
  (79, .invokevirtual 252, 164, 0, 7, 0, []),
  (82, .iconst 1, 0, 0, 0, 1, []),
  (83, .ireturn, 0, 0, 1, 0, []),
  (84, .aload_n 0, 0, 0, 0, 0, []),
  (85, .bipush 33, 0, 0, 0, 33, []),
  (87, .invokevirtual 249, 165, 1, 7, 0, []),
  (90, .ifCond .eq 55, 145, 0, 0, 0, []),
  (93, .aload_n 0, 0, 0, 0, 0, []),
  (94, .getfield 277, 7, 23, 0, 0, []),
  (97, .bipush 8, 0, 0, 0, 8, []),
  (99, .if_icmp .ge 46, 145, 0, 0, 0, []),
  (102, .aload_n 0, 0, 0, 0, 0, []),
  (103, .dup, 0, 0, 0, 0, []),
  (104, .getfield 277, 7, 23, 0, 0, []),
  (107, .iconst 1, 0, 0, 0, 1, []),
  (108, .iadd, 0, 0, 0, 0, []),
  (109, .putfield 277, 7, 23, 0, 0, []),
  (112, .aload_n 0, 0, 0, 0, 0, []),
  (113, .invokevirtual 252, 164, 0, 7, 0, []),
  (116, .aload_n 0, 0, 0, 0, 0, []),
  (117, .iload_n 1, 1, 0, 0, 0, []),
  (118, .invokevirtual 268, 175, 1, 7, 0, []),
  (121, .ifCond .ne 5, 126, 0, 0, 0, []),
  (124, .iconst 0, 0, 0, 0, 0, []),
  (125, .ireturn, 0, 0, 1, 0, []),
  (126, .aload_n 0, 0, 0, 0, 0, []),
  (127, .dup, 0, 0, 0, 0, []),
  (128, .getfield 277, 7, 23, 0, 0, []),
  (131, .iconst 1, 0, 0, 0, 1, []),
  (132, .isub, 0, 0, 0, 0, []),
  (133, .putfield 277, 7, 23, 0, 0, []),
  (136, .aload_n 0, 0, 0, 0, 0, []),
  (137, .iconst 2, 0, 0, 0, 2, []),
  (138, .bipush 33, 0, 0, 0, 33, []),
  (140, .invokevirtual 255, 169, 2, 7, 0, []),
  (143, .iconst 1, 0, 0, 0, 1, []),
  (144, .ireturn, 0, 0, 1, 0, []),
  (145, .aload_n 0, 0, 0, 0, 0, []),
  (146, .bipush 40, 0, 0, 0, 40, []),
  (148, .invokevirtual 249, 165, 1, 7, 0, []),
  (151, .ifCond .eq 12, 163, 0, 0, 0, []),
  (154, .aload_n 0, 0, 0, 0, 0, []),
  (155, .getfield 280, 7, 22, 0, 0, []),
  (158, .bipush 8, 0, 0, 0, 8, []),
  (160, .if_icmp .ne 5, 165, 0, 0, 0, []),
  (163, .iconst 0, 0, 0, 0, 0, []),
  (164, .ireturn, 0, 0, 1, 0, []),
  (165, .aload_n 0, 0, 0, 0, 0, []),
  (166, .dup, 0, 0, 0, 0, []),
  (167, .getfield 280, 7, 22, 0, 0, []),
  (170, .iconst 1, 0, 0, 0, 1, []),
  (171, .iadd, 0, 0, 0, 0, []),
  (172, .putfield 280, 7, 22, 0, 0, []),
  (175, .aload_n 0, 0, 0, 0, 0, []),
  (176, .invokevirtual 252, 164, 0, 7, 0, []),
  (179, .aload_n 0, 0, 0, 0, 0, []),
  (180, .iload_n 1, 1, 0, 0, 0, []),
  (181, .invokevirtual 283, 170, 1, 7, 0, []),
  (184, .ifCond .eq 12, 196, 0, 0, 0, []),
  (187, .aload_n 0, 0, 0, 0, 0, []),
  (188, .bipush 41, 0, 0, 0, 41, []),
  (190, .invokevirtual 249, 165, 1, 7, 0, []),
  (193, .ifCond .ne 5, 198, 0, 0, 0, []),
  (196, .iconst 0, 0, 0, 0, 0, []),
  (197, .ireturn, 0, 0, 1, 0, []),
  (198, .aload_n 0, 0, 0, 0, 0, []),
  (199, .dup, 0, 0, 0, 0, []),
  (200, .getfield 280, 7, 22, 0, 0, []),
  (203, .iconst 1, 0, 0, 0, 1, []),
  (204, .isub, 0, 0, 0, 0, []),
  (205, .putfield 280, 7, 22, 0, 0, []),
  (208, .aload_n 0, 0, 0, 0, 0, []),
  (209, .invokevirtual 252, 164, 0, 7, 0, []),
  (212, .iconst 1, 0, 0, 0, 1, []),
  (213, .ireturn, 0, 0, 1, 0, [])]
theorem zk175 : zchk RX7 cX7_part0 2 true (some .boolean) zc175 [0, 4084, 0, 0, 0, 0, 0, 4085, 5220, 0, 0, 4091, 0, 0, 4091, 0, 5172, 0, 0, 0, 4084, 0, 0, 0, 4086, 0, 0, 0, 4086, 5224, 0, 0, 0, 0, 4086, 5220, 0, 0, 4091, 0, 0, 4091, 0, 5172, 0, 0, 0, 0, 5227, 0, 0, 4088, 0, 0, 0, 0, 4088, 0, 0, 4088, 0, 5172, 0, 0, 5216, 0, 0, 0, 0, 0, 4088, 0, 0, 4088, 0, 0, 0, 5220, 0, 0, 0, 0, 5227, 0, 0, 4087, 0, 0, 0, 0, 0, 0, 4087, 0, 0, 4087, 0, 5172, 0, 0, 5196, 0, 0, 0, 5227, 0, 0, 0, 0, 0, 4087, 0, 0, 4087, 0, 5172, 0, 0] = true := by decide +kernel
def zc176 : List zE := [(0, .aload_n 0, 0, 0, 0, 0, []),
  (1, .iconst 0, 0, 0, 0, 0, []),
  (2, .putfield 215, 7, 18, 0, 0, []),
  (5, .aload_n 0, 0, 0, 0, 0, []),
  (6, .iconst 3, 0, 0, 0, 3, []),
  (7, .putfield 218, 7, 19, 0, 0, []),
  (10, .aload_n 0, 0, 0, 0, 0, []),
  (11, .iconst 0, 0, 0, 0, 0, []),
  (12, .putfield 280, 7, 22, 0, 0, []),
  (15, .aload_n 0, 0, 0, 0, 0, []),
  (16, .iconst 0, 0, 0, 0, 0, []),
  (17, .putfield 277, 7, 23, 0, 0, []),
  (20, .aload_n 0, 0, 0, 0, 0, []),
  (21, .iconst 0, 0, 0, 0, 0, []),
  (22, .putfield 243, 7, 24, 0, 0, []),
  (25, .aload_n 0, 0, 0, 0, 0, []),
  (26, .iconst 0, 0, 0, 0, 0, []),
  (27, .putfield 271, 7, 26, 0, 0, []),
  (30, .aload_n 0, 0, 0, 0, 0, []),
  (31, .aload_n 0, 0, 0, 0, 0, []),
  (32, .getfield 7, 7, 0, 0, 0, []),
  (35, .iconst 1, 0, 0, 0, 1, []),
  (36, .iaload, 0, 0, 0, 0, []),
  (37, .bipush 14, 0, 0, 0, 14, []),
  (39, .if_icmp .ge 18, 57, 0, 0, 0, []),
  (42, .aload_n 0, 0, 0, 0, 0, []),
  (43, .aload_n 0, 0, 0, 0, 0, []),
  (44, .getfield 7, 7, 0, 0, 0, []),
  (47, .iconst 1, 0, 0, 0, 1, []),
  (48, .iaload, 0, 0, 0, 0, []),
  (49, .invokevirtual 286, 112, 1, 7, 0, []),
  (52, .iconst 4, 0, 0, 0, 4, []),
  (53, .iadd, 0, 0, 0, 0, []),
  (54, .goto 6, 60, 0, 0, 0, []),
  (57, .sipush 2862, 0, 0, 0, 2862, []),
  (60, .putfield 240, 7, 25, 0, 0, []),
  (63, .aload_n 0, 0, 0, 0, 0, []),
  (64, .invokevirtual 252, 164, 0, 7, 0, []),
  (67, .aload_n 0, 0, 0, 0, 0, []),
  (68, .invokevirtual 289, 167, 0, 7, 0, []),
  (71, .istore_n 1, 1, 0, 0, 0, []),
  (72, .iload_n 1, 1, 0, 0, 0, []),
  (73, .ifCond .lt 7, 80, 0, 0, 0, []),
  (76, .iconst 1, 0, 0, 0, 1, []),
  (77, .goto 4, 81, 0, 0, 0, []),
  (80, .iconst 0, 0, 0, 0, 0, []),
  (81, .istore_n 2, 2, 0, 0, 0, []),
  (82, .iload_n 2, 2, 0, 0, 0, []),
  (83, .ifCond .eq 28, 111, 0, 0, 0, []),
  (86, .aload_n 0, 0, 0, 0, 0, []),
  (87, .invokevirtual 252, 164, 0, 7, 0, []),
  (90, .aload_n 0, 0, 0, 0, 0, []),
  (91, .iload_n 1, 1, 0, 0, 0, []),
  (92, .invokevirtual 283, 170, 1, 7, 0, []),
  (95, .ifCond .eq 14, 109, 0, 0, 0, []),
  (98, .aload_n 0, 0, 0, 0, 0, []),
  (99, .getfield 218, 7, 19, 0, 0, []),
  (102, .ifCond .ne 7, 109, 0, 0, 0, []),
  (105, .iconst 1, 0, 0, 0, 1, []),
  (106, .goto 4, 110, 0, 0, 0, []),
  (109, .iconst 0, 0, 0, 0, 0, []),
  (110, .istore_n 2, 2, 0, 0, 0, []),
  (111, .aload_n 0, 0, 0, 0, 0, []),
  (112, .iconst 0, 0, 0, 0, 0, []),
  (113, .putfield 204, 7, 16, 0, 0, []),
  (116, .iload_n 2, 2, 0, 0, 0, []),
  (117, .ifCond .eq 7, 124, 0, 0, 0, []),
  (120, .iload_n 1, 1, 0, 0, 0, []),
  (121, .goto 4, 125, 0, 0, 0, []),
  (124, .iconst (-1), 0, 0, 0, (-1), []),
  (125, .ireturn, 0, 0, 0, 0, [])]
theorem zk176 : zchk RX7 cX7_parse 3 true (some .int) zc176 [0, 0, 4083, 0, 0, 4084, 0, 0, 4087, 0, 0, 4088, 0, 0, 4089, 0, 0, 4091, 0, 0, 4065, 0, 0, 0, 0, 0, 0, 4065, 0, 0, 4204, 0, 0, 0, 0, 4090, 0, 5172, 0, 5188, 0, 0, 0, 0, 0, 0, 0, 0, 0, 0, 5172, 0, 0, 5196, 0, 0, 4084, 0, 0, 0, 0, 0, 0, 0, 4081, 0, 0, 0, 0, 0, 0] = true := by decide +kernel
def zc177 : List zE := [(0, .aload_n 0, 0, 0, 0, 0, []),
  (1, .invokevirtual 292, 176, 0, 7, 0, []),
  (4, .istore_n 1, 1, 0, 0, 0, []),
  (5, .iload_n 1, 1, 0, 0, 0, []),
  (6, .ifCond .ge 11, 17, 0, 0, 0, []),
  (9, .bipush (-100), 0, 0, 0, (-100), []),
  (11, .aload_n 0, 0, 0, 0, 0, []),
  (12, .getfield 221, 7, 17, 0, 0, []),
  (15, .isub, 0, 0, 0, 0, []),
  (16, .ireturn, 0, 0, 0, 0, []),
  (17, .aload_n 0, 0, 0, 0, 0, []),
  (18, .getfield 7, 7, 0, 0, 0, []),
  (21, .iconst 1, 0, 0, 0, 1, []),
  (22, .iaload, 0, 0, 0, 0, []),
  (23, .bipush 14, 0, 0, 0, 14, []),
  (25, .if_icmp .ne 6, 31, 0, 0, 0, []),
  (28, .ldc 86, 0, 0, 0, (-1000000003), []),
  (30, .ireturn, 0, 0, 0, 0, []),
  (31, .aload_n 0, 0, 0, 0, 0, []),
  (32, .aload_n 0, 0, 0, 0, 0, []),
  (33, .getfield 7, 7, 0, 0, 0, []),
  (36, .iconst 1, 0, 0, 0, 1, []),
  (37, .iaload, 0, 0, 0, 0, []),
  (38, .invokevirtual 286, 112, 1, 7, 0, []),
  (41, .istore_n 2, 2, 0, 0, 0, []),
  (42, .aload_n 0, 0, 0, 0, 0, []),
  (43, .getfield 7, 7, 0, 0, 0, []),
  (46, .iload_n 2, 2, 0, 0, 0, []),
  (47, .iconst 0, 0, 0, 0, 0, []),
  (48, .iadd, 0, 0, 0, 0, []),
  (49, .iload_n 1, 1, 0, 0, 0, []),
  (50, .iastore, 0, 0, 0, 0, []),
  (51, .aload_n 0, 0, 0, 0, 0, []),
  (52, .getfield 7, 7, 0, 0, 0, []),
  (55, .iload_n 2, 2, 0, 0, 0, []),
  (56, .iconst 1, 0, 0, 0, 1, []),
  (57, .iadd, 0, 0, 0, 0, []),
  (58, .aload_n 0, 0, 0, 0, 0, []),
  (59, .getfield 271, 7, 26, 0, 0, []),
  (62, .iastore, 0, 0, 0, 0, []),
  (63, .aload_n 0, 0, 0, 0, 0, []),
  (64, .getfield 7, 7, 0, 0, 0, []),
  (67, .iload_n 2, 2, 0, 0, 0, []),
  (68, .iconst 2, 0, 0, 0, 2, []),
  (69, .iadd, 0, 0, 0, 0, []),
  (70, .aload_n 0, 0, 0, 0, 0, []),
  (71, .getfield 243, 7, 24, 0, 0, []),
  (74, .iastore, 0, 0, 0, 0, []),
  (75, .aload_n 0, 0, 0, 0, 0, []),
  (76, .getfield 7, 7, 0, 0, 0, []),
  (79, .iconst 1, 0, 0, 0, 1, []),
  (80, .dup2, 0, 0, 0, 0, []),
  (81, .iaload, 0, 0, 0, 0, []),
  (82, .iconst 1, 0, 0, 0, 1, []),
  (83, .iadd, 0, 0, 0, 0, []),
  (84, .iastore, 0, 0, 0, 0, []),
  (85, .aload_n 0, 0, 0, 0, 0, []),
  (86, .getfield 7, 7, 0, 0, 0, []),
  (89, .iconst 1, 0, 0, 0, 1, []),
  (90, .iaload, 0, 0, 0, 0, []),
  (91, .iconst 1, 0, 0, 0, 1, []),
  (92, .isub, 0, 0, 0, 0, []),
  (93, .ireturn, 0, 0, 0, 0, [])]
theorem zk177 : zchk RX7 cX7_text 3 true (some .int) zc177 [0, 5168, 0, 0, 0, 0, 0, 4082, 0, 0, 0, 4065, 0, 0, 0, 0, 4175, 0, 0, 0, 4065, 0, 0, 4204, 0, 0, 4065, 0, 0, 0, 0, 0, 0, 4065, 0, 0, 0, 0, 4091, 0, 0, 4065, 0, 0, 0, 0, 4089, 0, 0, 4065, 0, 0, 0, 0, 0, 0, 0, 4065, 0, 0, 0, 0, 0] = true := by decide +kernel
def zc178 : List zE := [(0, .aload_n 0, 0, 0, 0, 0, []),
  (1, .iload_n 1, 1, 0, 0, 0, []),
  (2, .invokevirtual 295, 116, 1, 7, 0, []),
  (5, .ifCond .eq 13, 18, 0, 0, 0, []),
  (8, .iload_n 2, 2, 0, 0, 0, []),
  (9, .i2l, 0, 0, 0, 0, []),
  (10, .lconst 0, 0, 0, 0, 0, []),
  (11, .lconst 1, 0, 0, 0, 1, []),
  (12, .invokestatic 72, 106, 3, 0, 0, []),
  (15, .ifCond .ne 6, 21, 0, 0, 0, []),
  (18, .ldc 85, 0, 0, 0, (-1000000001), []),
  (20, .ireturn, 0, 0, 0, 0, []),
  (21, .aload_n 0, 0, 0, 0, 0, []),
  (22, .getfield 7, 7, 0, 0, 0, []),
  (25, .aload_n 0, 0, 0, 0, 0, []),
  (26, .iload_n 1, 1, 0, 0, 0, []),
  (27, .invokevirtual 286, 112, 1, 7, 0, []),
  (30, .iload_n 2, 2, 0, 0, 0, []),
  (31, .iadd, 0, 0, 0, 0, []),
  (32, .iaload, 0, 0, 0, 0, []),
  (33, .ireturn, 0, 0, 0, 0, [])]
theorem zk178 : zchk RX7 cX7_textTold 3 true (some .int) zc178 [0, 0, 5235, 0, 0, 0, 0, 0, 4170, 0, 4174, 0, 0, 4065, 0, 0, 4204, 0, 0, 0, 0] = true := by decide +kernel
def zc179 : List zE := [(0, .iconst (-1), 0, 0, 0, (-1), []),
  (1, .istore_n 2, 2, 0, 0, 0, []),
  (2, .iconst 0, 0, 0, 0, 0, []),
  (3, .istore_n 3, 3, 0, 0, 0, []),
  (4, .iload_n 3, 3, 0, 0, 0, []),
  (5, .aload_n 0, 0, 0, 0, 0, []),
  (6, .getfield 7, 7, 0, 0, 0, []),
  (9, .iconst 1, 0, 0, 0, 1, []),
  (10, .iaload, 0, 0, 0, 0, []),
  (11, .if_icmp .ge 29, 40, 0, 0, 0, []),
  (14, .aload_n 0, 0, 0, 0, 0, []),
  (15, .getfield 7, 7, 0, 0, 0, []),
  (18, .aload_n 0, 0, 0, 0, 0, []),
  (19, .iload_n 3, 3, 0, 0, 0, []),
  (20, .invokevirtual 286, 112, 1, 7, 0, []),
  (23, .iaload, 0, 0, 0, 0, []),
  (24, .iload_n 1, 1, 0, 0, 0, []),
  (25, .if_icmp .ne 7, 32, 0, 0, 0, []),
  (28, .iload_n 3, 3, 0, 0, 0, []),
  (29, .goto 4, 33, 0, 0, 0, []),
  (32, .iload_n 2, 2, 0, 0, 0, []),
  (33, .istore_n 2, 2, 0, 0, 0, []),
  (34, .iinc 3 1, 3, 0, 0, 1, []),
  (37, .goto (-33), 4, 0, 0, 0, []),
  (40, .iload_n 2, 2, 0, 0, 0, []),
  (41, .ireturn, 0, 0, 0, 0, [])]
theorem zk179 : zchk RX7 cX7_counts 4 true (some .int) zc179 [0, 0, 0, 0, 0, 0, 4065, 0, 0, 0, 0, 4065, 0, 0, 4204, 0, 0, 0, 0, 0, 0, 0, 0, 0, 0, 0] = true := by decide +kernel
def zc180 : List zE := [(0, .iload_n 1, 1, 0, 0, 0, []),
  (1, .i2l, 0, 0, 0, 0, []),
  (2, .lconst 0, 0, 0, 0, 0, []),
  (3, .ldc2_w 298, 0, 0, 0, 2, []),
  (6, .invokestatic 72, 106, 3, 0, 0, []),
  (9, .ifCond .eq 14, 23, 0, 0, 0, []),
  (12, .aload_n 0, 0, 0, 0, 0, []),
  (13, .iload_n 1, 1, 0, 0, 0, []),
  (14, .invokevirtual 94, 179, 1, 7, 0, []),
  (17, .invokestatic 180, 107, 1, 0, 0, []),
  (20, .goto 5, 25, 0, 0, 0, []),
  (23, .ldc 85, 0, 0, 0, (-1000000001), []),
  (25, .ireturn, 0, 0, 0, 0, [])]
theorem zk180 : zchk RX7 cX7_why 2 true (some .int) zc180 [0, 0, 0, 6003, 4170, 0, 0, 0, 4200, 5103, 0, 4174, 0] = true := by decide +kernel
def zc181 : List zE := [(0, .iload_n 0, 0, 0, 0, 0, []),
  (1, .tableswitch 196 38 62 #[182, 196, 196, 196, 123, 115, 196, 119, 196, 127, 196, 196, 196, 196, 196, 196, 196, 196, 196, 196, 196, 196, 149, 171, 160], 197, 115, 0, 0, [(38, 183), (39, 197), (40, 197), (41, 197), (42, 124), (43, 116), (44, 197), (45, 120), (46, 197), (47, 128), (48, 197), (49, 197), (50, 197), (51, 197), (52, 197), (53, 197), (54, 197), (55, 197), (56, 197), (57, 197), (58, 197), (59, 197), (60, 150), (61, 172), (62, 161)]),
  (116, .iload_n 1, 1, 0, 0, 0, []),
  (117, .iload_n 2, 2, 0, 0, 0, []),
  (118, .iadd, 0, 0, 0, 0, []),
  (119, .ireturn, 0, 0, 0, 0, []),
  (120, .iload_n 1, 1, 0, 0, 0, []),
  (121, .iload_n 2, 2, 0, 0, 0, []),
  (122, .isub, 0, 0, 0, 0, []),
  (123, .ireturn, 0, 0, 0, 0, []),
  (124, .iload_n 1, 1, 0, 0, 0, []),
  (125, .iload_n 2, 2, 0, 0, 0, []),
  (126, .imul, 0, 0, 0, 0, []),
  (127, .ireturn, 0, 0, 0, 0, []),
  (128, .iload_n 2, 2, 0, 0, 0, []),
  (129, .ifCond .ne 7, 136, 0, 0, 0, []),
  (132, .iconst 0, 0, 0, 0, 0, []),
  (133, .goto 16, 149, 0, 0, 0, []),
  (136, .iload_n 2, 2, 0, 0, 0, []),
  (137, .iconst (-1), 0, 0, 0, (-1), []),
  (138, .if_icmp .ne 8, 146, 0, 0, 0, []),
  (141, .iload_n 1, 1, 0, 0, 0, []),
  (142, .ineg, 0, 0, 0, 0, []),
  (143, .goto 6, 149, 0, 0, 0, []),
  (146, .iload_n 1, 1, 0, 0, 0, []),
  (147, .iload_n 2, 2, 0, 0, 0, []),
  (148, .idiv, 0, 0, 0, 0, []),
  (149, .ireturn, 0, 0, 0, 0, []),
  (150, .iload_n 1, 1, 0, 0, 0, []),
  (151, .iload_n 2, 2, 0, 0, 0, []),
  (152, .if_icmp .ge 7, 159, 0, 0, 0, []),
  (155, .iconst 1, 0, 0, 0, 1, []),
  (156, .goto 4, 160, 0, 0, 0, []),
  (159, .iconst 0, 0, 0, 0, 0, []),
  (160, .ireturn, 0, 0, 0, 0, []),
  (161, .iload_n 1, 1, 0, 0, 0, []),
  (162, .iload_n 2, 2, 0, 0, 0, []),
  (163, .if_icmp .le 7, 170, 0, 0, 0, []),
  (166, .iconst 1, 0, 0, 0, 1, []),
  (167, .goto 4, 171, 0, 0, 0, []),
  (170, .iconst 0, 0, 0, 0, 0, []),
  (171, .ireturn, 0, 0, 0, 0, []),
  (172, .iload_n 1, 1, 0, 0, 0, []),
  (173, .iload_n 2, 2, 0, 0, 0, []),
  (174, .if_icmp .ne 7, 181, 0, 0, 0, []),
  (177, .iconst 1, 0, 0, 0, 1, []),
  (178, .goto 4, 182, 0, 0, 0, []),
  (181, .iconst 0, 0, 0, 0, 0, []),
  (182, .ireturn, 0, 0, 0, 0, []),
  (183, .iload_n 1, 1, 0, 0, 0, []),
  (184, .ifCond .eq 11, 195, 0, 0, 0, []),
  (187, .iload_n 2, 2, 0, 0, 0, []),
  (188, .ifCond .eq 7, 195, 0, 0, 0, []),
  (191, .iconst 1, 0, 0, 0, 1, []),
  (192, .goto 4, 196, 0, 0, 0, []),
  (195, .iconst 0, 0, 0, 0, 0, []),
  (196, .ireturn, 0, 0, 0, 0, []),
  (197, .iload_n 1, 1, 0, 0, 0, []),
  (198, .ifCond .ne 7, 205, 0, 0, 0, []),
  (201, .iload_n 2, 2, 0, 0, 0, []),
  (202, .ifCond .eq 7, 209, 0, 0, 0, []),
  (205, .iconst 1, 0, 0, 0, 1, []),
  (206, .goto 4, 210, 0, 0, 0, []),
  (209, .iconst 0, 0, 0, 0, 0, []),
  (210, .ireturn, 0, 0, 0, 0, [])]
theorem zk181 : zchk RX7 cX7_joined 3 true (some .int) zc181 [0, 0, 0, 0, 0, 0, 0, 0, 0, 0, 0, 0, 0, 0, 0, 0, 0, 0, 0, 0, 0, 0, 0, 0, 0, 0, 0, 0, 0, 0, 0, 0, 0, 0, 0, 0, 0, 0, 0, 0, 0, 0, 0, 0, 0, 0, 0, 0, 0, 0, 0, 0, 0, 0, 0, 0, 0, 0, 0, 0, 0, 0, 0, 0, 0] = true := by decide +kernel
end
section
/-! code tables: printed by gen06.py from the bytecode -/
def zc182 : List zE := [(0, .iconst 0, 0, 0, 0, 0, []),
  (1, .istore_n 2, 2, 0, 0, 0, []),
  (2, .iconst 0, 0, 0, 0, 0, []),
  (3, .istore_n 3, 3, 0, 0, 0, []),
  (4, .iload_n 3, 3, 0, 0, 0, []),
  (5, .aload_n 0, 0, 0, 0, 0, []),
  (6, .getfield 7, 7, 0, 0, 0, []),
  (9, .aload_n 0, 0, 0, 0, 0, []),
  (10, .iload_n 1, 1, 0, 0, 0, []),
  (11, .invokevirtual 286, 112, 1, 7, 0, []),
  (14, .iconst 2, 0, 0, 0, 2, []),
  (15, .iadd, 0, 0, 0, 0, []),
  (16, .iaload, 0, 0, 0, 0, []),
  (17, .if_icmp .ge 146, 163, 0, 0, 0, []),
  (20, .aload_n 0, 0, 0, 0, 0, []),
  (21, .getfield 7, 7, 0, 0, 0, []),
  (24, .aload_n 0, 0, 0, 0, 0, []),
  (25, .iload_n 1, 1, 0, 0, 0, []),
  (26, .invokevirtual 286, 112, 1, 7, 0, []),
  (29, .iconst 4, 0, 0, 0, 4, []),
  (30, .iadd, 0, 0, 0, 0, []),
  (31, .iconst 2, 0, 0, 0, 2, []),
  (32, .iload_n 3, 3, 0, 0, 0, []),
  (33, .imul, 0, 0, 0, 0, []),
  (34, .iadd, 0, 0, 0, 0, []),
  (35, .iaload, 0, 0, 0, 0, []),
  (36, .istore 4, 4, 0, 0, 0, []),
  (38, .aload_n 0, 0, 0, 0, 0, []),
  (39, .getfield 7, 7, 0, 0, 0, []),
  (42, .aload_n 0, 0, 0, 0, 0, []),
  (43, .iload_n 1, 1, 0, 0, 0, []),
  (44, .invokevirtual 286, 112, 1, 7, 0, []),
  (47, .iconst 4, 0, 0, 0, 4, []),
  (48, .iadd, 0, 0, 0, 0, []),
  (49, .iconst 2, 0, 0, 0, 2, []),
  (50, .iload_n 3, 3, 0, 0, 0, []),
  (51, .imul, 0, 0, 0, 0, []),
  (52, .iadd, 0, 0, 0, 0, []),
  (53, .iconst 1, 0, 0, 0, 1, []),
  (54, .iadd, 0, 0, 0, 0, []),
  (55, .iaload, 0, 0, 0, 0, []),
  (56, .istore 5, 5, 0, 0, 0, []),
  (58, .iload 4, 4, 0, 0, 0, []),
  (60, .iconst 2, 0, 0, 0, 2, []),
  (61, .if_icmp .eq 32, 93, 0, 0, 0, []),
  (64, .aload_n 0, 0, 0, 0, 0, []),
  (65, .getfield 59, 7, 28, 0, 0, []),
  (68, .iload_n 2, 2, 0, 0, 0, []),
  (69, .iload 4, 4, 0, 0, 0, []),
  (71, .ifCond .ne 8, 79, 0, 0, 0, []),
  (74, .iload 5, 5, 0, 0, 0, []),
  (76, .goto 10, 86, 0, 0, 0, []),
  (79, .aload_n 0, 0, 0, 0, 0, []),
  (80, .getfield 56, 7, 27, 0, 0, []),
  (83, .iload 5, 5, 0, 0, 0, []),
  (85, .iaload, 0, 0, 0, 0, []),
  (86, .iastore, 0, 0, 0, 0, []),
  (87, .iinc 2 1, 2, 0, 0, 1, []),
  (90, .goto 67, 157, 0, 0, 0, []),
  (93, .iload 5, 5, 0, 0, 0, []),
  (95, .bipush 33, 0, 0, 0, 33, []),
  (97, .if_icmp .ne 30, 127, 0, 0, 0, []),
  (100, .aload_n 0, 0, 0, 0, 0, []),
  (101, .getfield 59, 7, 28, 0, 0, []),
  (104, .iload_n 2, 2, 0, 0, 0, []),
  (105, .iconst 1, 0, 0, 0, 1, []),
  (106, .isub, 0, 0, 0, 0, []),
  (107, .aload_n 0, 0, 0, 0, 0, []),
  (108, .getfield 59, 7, 28, 0, 0, []),
  (111, .iload_n 2, 2, 0, 0, 0, []),
  (112, .iconst 1, 0, 0, 0, 1, []),
  (113, .isub, 0, 0, 0, 0, []),
  (114, .iaload, 0, 0, 0, 0, []),
  (115, .ifCond .ne 7, 122, 0, 0, 0, []),
  (118, .iconst 1, 0, 0, 0, 1, []),
  (119, .goto 4, 123, 0, 0, 0, []),
  (122, .iconst 0, 0, 0, 0, 0, []),
  (123, .iastore, 0, 0, 0, 0, []),
  (124, .goto 33, 157, 0, 0, 0, []),
  (127, .iinc 2 (-1), 2, 0, 0, (-1), []),
  (130, .aload_n 0, 0, 0, 0, 0, []),
  (131, .getfield 59, 7, 28, 0, 0, []),
  (134, .iload_n 2, 2, 0, 0, 0, []),
  (135, .iconst 1, 0, 0, 0, 1, []),
  (136, .isub, 0, 0, 0, 0, []),
  (137, .iload 5, 5, 0, 0, 0, []),
  (139, .aload_n 0, 0, 0, 0, 0, []),
  (140, .getfield 59, 7, 28, 0, 0, []),
  (143, .iload_n 2, 2, 0, 0, 0, []),
  (144, .iconst 1, 0, 0, 0, 1, []),
  (145, .isub, 0, 0, 0, 0, []),
  (146, .iaload, 0, 0, 0, 0, []),
  (147, .aload_n 0, 0, 0, 0, 0, []),
  (148, .getfield 59, 7, 28, 0, 0, []),
  (151, .iload_n 2, 2, 0, 0, 0, []),
  (152, .iaload, 0, 0, 0, 0, []),
  (153, .invokestatic 300, 181, 3, 0, 0, []),
  (156, .iastore, 0, 0, 0, 0, []),
  (157, .iinc 3 1, 3, 0, 0, 1, []),
  (160, .goto (-156), 4, 0, 0, 0, []),
  (163, .aload_n 0, 0, 0, 0, 0, []),
  (164, .getfield 59, 7, 28, 0, 0, []),
  (167, .iconst 0, 0, 0, 0, 0, []),
  (168, .iaload, 0, 0, 0, 0, []),
  (169, .ireturn, 0, 0, 0, 0, [])]
theorem zk182 : zchk RX7 cX7_worked 6 true (some .int) zc182 [0, 0, 0, 0, 0, 0, 4065, 0, 0, 4204, 0, 0, 0, 0, 0, 4065, 0, 0, 4204, 0, 0, 0, 0, 0, 0, 0, 0, 0, 4065, 0, 0, 4204, 0, 0, 0, 0, 0, 0, 0, 0, 0, 0, 0, 0, 0, 0, 4093, 0, 0, 0, 0, 0, 0, 4092, 0, 0, 0, 0, 0, 0, 0, 0, 0, 4093, 0, 0, 0, 0, 4093, 0, 0, 0, 0, 0, 0, 0, 0, 0, 0, 0, 0, 4093, 0, 0, 0, 0, 0, 4093, 0, 0, 0, 0, 0, 4093, 0, 0, 4212, 0, 0, 0, 0, 4093, 0, 0, 0] = true := by decide +kernel
def zc183 : List zE := [(0, .iload_n 0, 0, 0, 0, 0, []),
  (1, .i2l, 0, 0, 0, 0, []),
  (2, .lconst 0, 0, 0, 0, 0, []),
  (3, .ldc2_w 128, 0, 0, 0, 3, []),
  (6, .invokestatic 72, 106, 3, 0, 0, []),
  (9, .ireturn, 0, 0, 1, 0, [])]
theorem zk183 : zchk RX7 cX7_isSheet 1 true (some .boolean) zc183 [0, 0, 0, 5010, 4170, 0] = true := by decide +kernel
def zc184 : List zE := [(0, .iload_n 1, 1, 0, 0, 0, []),
  (1, .invokestatic 303, 183, 1, 0, 0, []),
  (4, .ifCond .eq 25, 29, 0, 0, 0, []),
  (7, .iload_n 2, 2, 0, 0, 0, []),
  (8, .i2l, 0, 0, 0, 0, []),
  (9, .ldc2_w 306, 0, 0, 0, (-1), []),
  (12, .lconst 1, 0, 0, 0, 1, []),
  (13, .invokestatic 72, 106, 3, 0, 0, []),
  (16, .ifCond .eq 13, 29, 0, 0, 0, []),
  (19, .iload_n 2, 2, 0, 0, 0, []),
  (20, .ifCond .lt 12, 32, 0, 0, 0, []),
  (23, .iload_n 3, 3, 0, 0, 0, []),
  (24, .bipush 24, 0, 0, 0, 24, []),
  (26, .if_icmp .le 6, 32, 0, 0, 0, []),
  (29, .ldc 85, 0, 0, 0, (-1000000001), []),
  (31, .ireturn, 0, 0, 0, 0, []),
  (32, .iload_n 2, 2, 0, 0, 0, []),
  (33, .ifCond .lt 11, 44, 0, 0, 0, []),
  (36, .iload_n 3, 3, 0, 0, 0, []),
  (37, .ifCond .ge 7, 44, 0, 0, 0, []),
  (40, .ldc_w 308, 0, 0, 0, (-1000000014), []),
  (43, .ireturn, 0, 0, 0, 0, []),
  (44, .aload_n 0, 0, 0, 0, 0, []),
  (45, .getfield 19, 7, 4, 0, 0, []),
  (48, .iload_n 1, 1, 0, 0, 0, []),
  (49, .iload_n 2, 2, 0, 0, 0, []),
  (50, .iastore, 0, 0, 0, 0, []),
  (51, .aload_n 0, 0, 0, 0, 0, []),
  (52, .getfield 22, 7, 5, 0, 0, []),
  (55, .iload_n 1, 1, 0, 0, 0, []),
  (56, .iload_n 2, 2, 0, 0, 0, []),
  (57, .ifCond .ge 7, 64, 0, 0, 0, []),
  (60, .iconst 0, 0, 0, 0, 0, []),
  (61, .goto 4, 65, 0, 0, 0, []),
  (64, .iload_n 3, 3, 0, 0, 0, []),
  (65, .iastore, 0, 0, 0, 0, []),
  (66, .iconst 0, 0, 0, 0, 0, []),
  (67, .istore 4, 4, 0, 0, 0, []),
  (69, .iload 4, 4, 0, 0, 0, []),
  (71, .bipush 24, 0, 0, 0, 24, []),
  (73, .if_icmp .ge 22, 95, 0, 0, 0, []),
  (76, .aload_n 0, 0, 0, 0, 0, []),
  (77, .getfield 25, 7, 6, 0, 0, []),
  (80, .bipush 24, 0, 0, 0, 24, []),
  (82, .iload_n 1, 1, 0, 0, 0, []),
  (83, .imul, 0, 0, 0, 0, []),
  (84, .iload 4, 4, 0, 0, 0, []),
  (86, .iadd, 0, 0, 0, 0, []),
  (87, .iconst 0, 0, 0, 0, 0, []),
  (88, .iastore, 0, 0, 0, 0, []),
  (89, .iinc 4 1, 4, 0, 0, 1, []),
  (92, .goto (-23), 69, 0, 0, 0, []),
  (95, .aload_n 0, 0, 0, 0, 0, []),
  (96, .getfield 22, 7, 5, 0, 0, []),
  (99, .iload_n 1, 1, 0, 0, 0, []),
  (100, .iaload, 0, 0, 0, 0, []),
  (101, .ireturn, 0, 0, 0, 0, [])]
theorem zk184 : zchk RX7 cX7_sheet 5 true (some .int) zc184 [0, 6008, 0, 0, 0, 6011, 0, 4170, 0, 0, 0, 0, 0, 0, 4174, 0, 0, 0, 0, 0, 6012, 0, 0, 4069, 0, 0, 0, 0, 4070, 0, 0, 0, 0, 0, 0, 0, 0, 0, 0, 0, 0, 0, 4071, 0, 0, 0, 0, 0, 0, 0, 0, 0, 0, 4070, 0, 0, 0] = true := by decide +kernel
def zc185 : List zE := [(0, .iload_n 1, 1, 0, 0, 0, []),
  (1, .invokestatic 303, 183, 1, 0, 0, []),
  (4, .ifCond .ne 6, 10, 0, 0, 0, []),
  (7, .ldc 85, 0, 0, 0, (-1000000001), []),
  (9, .ireturn, 0, 0, 0, 0, []),
  (10, .aload_n 0, 0, 0, 0, 0, []),
  (11, .getfield 19, 7, 4, 0, 0, []),
  (14, .iload_n 1, 1, 0, 0, 0, []),
  (15, .iaload, 0, 0, 0, 0, []),
  (16, .ifCond .ge 7, 23, 0, 0, 0, []),
  (19, .ldc_w 309, 0, 0, 0, (-1000000011), []),
  (22, .ireturn, 0, 0, 0, 0, []),
  (23, .iload_n 2, 2, 0, 0, 0, []),
  (24, .i2l, 0, 0, 0, 0, []),
  (25, .lconst 0, 0, 0, 0, 0, []),
  (26, .aload_n 0, 0, 0, 0, 0, []),
  (27, .getfield 22, 7, 5, 0, 0, []),
  (30, .iload_n 1, 1, 0, 0, 0, []),
  (31, .iaload, 0, 0, 0, 0, []),
  (32, .iconst 1, 0, 0, 0, 1, []),
  (33, .isub, 0, 0, 0, 0, []),
  (34, .i2l, 0, 0, 0, 0, []),
  (35, .invokestatic 72, 106, 3, 0, 0, []),
  (38, .ifCond .ne 7, 45, 0, 0, 0, []),
  (41, .ldc_w 310, 0, 0, 0, (-1000000013), []),
  (44, .ireturn, 0, 0, 0, 0, []),
  (45, .aload_n 0, 0, 0, 0, 0, []),
  (46, .getfield 19, 7, 4, 0, 0, []),
  (49, .iload_n 1, 1, 0, 0, 0, []),
  (50, .iaload, 0, 0, 0, 0, []),
  (51, .ifCond .ne 12, 63, 0, 0, 0, []),
  (54, .iload_n 3, 3, 0, 0, 0, []),
  (55, .ldc 71, 0, 0, 0, (-1000000005), []),
  (57, .if_icmp .ne 6, 63, 0, 0, 0, []),
  (60, .ldc 124, 0, 0, 0, (-1000000012), []),
  (62, .ireturn, 0, 0, 0, 0, []),
  (63, .aload_n 0, 0, 0, 0, 0, []),
  (64, .getfield 19, 7, 4, 0, 0, []),
  (67, .iload_n 1, 1, 0, 0, 0, []),
  (68, .iaload, 0, 0, 0, 0, []),
  (69, .iconst 1, 0, 0, 0, 1, []),
  (70, .if_icmp .ne 26, 96, 0, 0, 0, []),
  (73, .iload_n 3, 3, 0, 0, 0, []),
  (74, .ldc 71, 0, 0, 0, (-1000000005), []),
  (76, .if_icmp .eq 20, 96, 0, 0, 0, []),
  (79, .iload_n 3, 3, 0, 0, 0, []),
  (80, .i2l, 0, 0, 0, 0, []),
  (81, .ldc2_w 311, 0, 0, 0, (-99999), []),
  (84, .ldc2_w 313, 0, 0, 0, 99999, []),
  (87, .invokestatic 72, 106, 3, 0, 0, []),
  (90, .ifCond .ne 6, 96, 0, 0, 0, []),
  (93, .ldc 85, 0, 0, 0, (-1000000001), []),
  (95, .ireturn, 0, 0, 0, 0, []),
  (96, .aload_n 0, 0, 0, 0, 0, []),
  (97, .getfield 25, 7, 6, 0, 0, []),
  (100, .bipush 24, 0, 0, 0, 24, []),
  (102, .iload_n 1, 1, 0, 0, 0, []),
  (103, .imul, 0, 0, 0, 0, []),
  (104, .iload_n 2, 2, 0, 0, 0, []),
  (105, .iadd, 0, 0, 0, 0, []),
  (106, .aload_n 0, 0, 0, 0, 0, []),
  (107, .getfield 19, 7, 4, 0, 0, []),
  (110, .iload_n 1, 1, 0, 0, 0, []),
  (111, .iaload, 0, 0, 0, 0, []),
  (112, .ifCond .ne 13, 125, 0, 0, 0, []),
  (115, .iload_n 3, 3, 0, 0, 0, []),
  (116, .bipush 16, 0, 0, 0, 16, []),
  (118, .ishl, 0, 0, 0, 0, []),
  (119, .bipush 16, 0, 0, 0, 16, []),
  (121, .ishr, 0, 0, 0, 0, []),
  (122, .goto 4, 126, 0, 0, 0, []),
  (125, .iload_n 3, 3, 0, 0, 0, []),
  (126, .iastore, 0, 0, 0, 0, []),
  (127, .iconst 1, 0, 0, 0, 1, []),
  (128, .ireturn, 0, 0, 0, 0, [])]
theorem zk185 : zchk RX7 cX7_mark 4 true (some .int) zc185 [0, 6008, 0, 4174, 0, 0, 4069, 0, 0, 0, 6017, 0, 0, 0, 0, 0, 4070, 0, 0, 0, 0, 0, 4170, 0, 6018, 0, 0, 4069, 0, 0, 0, 0, 5106, 0, 4237, 0, 0, 4069, 0, 0, 0, 0, 0, 5106, 0, 0, 0, 6019, 6020, 4170, 0, 4174, 0, 0, 4071, 0, 0, 0, 0, 0, 0, 4069, 0, 0, 0, 0, 0, 0, 0, 0, 0, 0, 0, 0, 0] = true := by decide +kernel
def zc186 : List zE := [(0, .iload_n 1, 1, 0, 0, 0, []),
  (1, .invokestatic 303, 183, 1, 0, 0, []),
  (4, .ifCond .ne 6, 10, 0, 0, 0, []),
  (7, .ldc 85, 0, 0, 0, (-1000000001), []),
  (9, .ireturn, 0, 0, 0, 0, []),
  (10, .aload_n 0, 0, 0, 0, 0, []),
  (11, .getfield 19, 7, 4, 0, 0, []),
  (14, .iload_n 1, 1, 0, 0, 0, []),
  (15, .iaload, 0, 0, 0, 0, []),
  (16, .ifCond .ge 7, 23, 0, 0, 0, []),
  (19, .ldc_w 309, 0, 0, 0, (-1000000011), []),
  (22, .ireturn, 0, 0, 0, 0, []),
  (23, .iconst 0, 0, 0, 0, 0, []),
  (24, .istore_n 2, 2, 0, 0, 0, []),
  (25, .iconst 0, 0, 0, 0, 0, []),
  (26, .istore_n 3, 3, 0, 0, 0, []),
  (27, .iload_n 3, 3, 0, 0, 0, []),
  (28, .aload_n 0, 0, 0, 0, 0, []),
  (29, .getfield 22, 7, 5, 0, 0, []),
  (32, .iload_n 1, 1, 0, 0, 0, []),
  (33, .iaload, 0, 0, 0, 0, []),
  (34, .if_icmp .ge 85, 119, 0, 0, 0, []),
  (37, .iload_n 3, 3, 0, 0, 0, []),
  (38, .aload_n 0, 0, 0, 0, 0, []),
  (39, .getfield 7, 7, 0, 0, 0, []),
  (42, .iconst 0, 0, 0, 0, 0, []),
  (43, .iaload, 0, 0, 0, 0, []),
  (44, .if_icmp .ge 75, 119, 0, 0, 0, []),
  (47, .aload_n 0, 0, 0, 0, 0, []),
  (48, .getfield 25, 7, 6, 0, 0, []),
  (51, .bipush 24, 0, 0, 0, 24, []),
  (53, .iload_n 1, 1, 0, 0, 0, []),
  (54, .imul, 0, 0, 0, 0, []),
  (55, .iload_n 3, 3, 0, 0, 0, []),
  (56, .iadd, 0, 0, 0, 0, []),
  (57, .iaload, 0, 0, 0, 0, []),
  (58, .istore 4, 4, 0, 0, 0, []),
  (60, .iload 4, 4, 0, 0, 0, []),
  (62, .ldc 71, 0, 0, 0, (-1000000005), []),
  (64, .if_icmp .ne 12, 76, 0, 0, 0, []),
  (67, .aload_n 0, 0, 0, 0, 0, []),
  (68, .iload_n 3, 3, 0, 0, 0, []),
  (69, .iconst 1, 0, 0, 0, 1, []),
  (70, .invokevirtual 90, 113, 2, 7, 0, []),
  (73, .goto 11, 84, 0, 0, 0, []),
  (76, .iload 4, 4, 0, 0, 0, []),
  (78, .iconst 1, 0, 0, 0, 1, []),
  (79, .bipush 99, 0, 0, 0, 99, []),
  (81, .invokestatic 101, 108, 3, 0, 0, []),
  (84, .istore 5, 5, 0, 0, 0, []),
  (86, .iload_n 2, 2, 0, 0, 0, []),
  (87, .iload 5, 5, 0, 0, 0, []),
  (89, .aload_n 0, 0, 0, 0, 0, []),
  (90, .bipush 12, 0, 0, 0, 12, []),
  (92, .iconst 5, 0, 0, 0, 5, []),
  (93, .iload_n 3, 3, 0, 0, 0, []),
  (94, .imul, 0, 0, 0, 0, []),
  (95, .iadd, 0, 0, 0, 0, []),
  (96, .iconst 1, 0, 0, 0, 1, []),
  (97, .iadd, 0, 0, 0, 0, []),
  (98, .iload 5, 5, 0, 0, 0, []),
  (100, .invokevirtual 125, 111, 2, 7, 0, []),
  (103, .if_icmp .ne 7, 110, 0, 0, 0, []),
  (106, .iconst 0, 0, 0, 0, 0, []),
  (107, .goto 4, 111, 0, 0, 0, []),
  (110, .iconst 1, 0, 0, 0, 1, []),
  (111, .iadd, 0, 0, 0, 0, []),
  (112, .istore_n 2, 2, 0, 0, 0, []),
  (113, .iinc 3 1, 3, 0, 0, 1, []),
  (116, .goto (-89), 27, 0, 0, 0, []),
  (119, .iload_n 2, 2, 0, 0, 0, []),
  (120, .ireturn, 0, 0, 0, 0, [])]
theorem zk186 : zchk RX7 cX7_pour 6 true (some .int) zc186 [0, 6008, 0, 4174, 0, 0, 4069, 0, 0, 0, 6017, 0, 0, 0, 0, 0, 0, 0, 4070, 0, 0, 0, 0, 0, 4065, 0, 0, 0, 0, 4071, 0, 0, 0, 0, 0, 0, 0, 0, 5106, 0, 0, 0, 0, 4192, 0, 0, 0, 0, 4215, 0, 0, 0, 0, 0, 0, 0, 0, 0, 0, 0, 0, 5002, 0, 0, 0, 0, 0, 0, 0, 0, 0, 0] = true := by decide +kernel
def zc187 : List zE := [(0, .iload_n 1, 1, 0, 0, 0, []),
  (1, .invokestatic 303, 183, 1, 0, 0, []),
  (4, .ifCond .ne 6, 10, 0, 0, 0, []),
  (7, .ldc 85, 0, 0, 0, (-1000000001), []),
  (9, .ireturn, 0, 0, 0, 0, []),
  (10, .aload_n 0, 0, 0, 0, 0, []),
  (11, .getfield 19, 7, 4, 0, 0, []),
  (14, .iload_n 1, 1, 0, 0, 0, []),
  (15, .iaload, 0, 0, 0, 0, []),
  (16, .ifCond .ge 7, 23, 0, 0, 0, []),
  (19, .ldc_w 309, 0, 0, 0, (-1000000011), []),
  (22, .ireturn, 0, 0, 0, 0, []),
  (23, .iconst 0, 0, 0, 0, 0, []),
  (24, .istore_n 2, 2, 0, 0, 0, []),
  (25, .iload_n 2, 2, 0, 0, 0, []),
  (26, .aload_n 0, 0, 0, 0, 0, []),
  (27, .getfield 22, 7, 5, 0, 0, []),
  (30, .iload_n 1, 1, 0, 0, 0, []),
  (31, .iaload, 0, 0, 0, 0, []),
  (32, .if_icmp .ge 49, 81, 0, 0, 0, []),
  (35, .aload_n 0, 0, 0, 0, 0, []),
  (36, .getfield 25, 7, 6, 0, 0, []),
  (39, .bipush 24, 0, 0, 0, 24, []),
  (41, .iload_n 1, 1, 0, 0, 0, []),
  (42, .imul, 0, 0, 0, 0, []),
  (43, .iload_n 2, 2, 0, 0, 0, []),
  (44, .iadd, 0, 0, 0, 0, []),
  (45, .iaload, 0, 0, 0, 0, []),
  (46, .istore_n 3, 3, 0, 0, 0, []),
  (47, .iload_n 3, 3, 0, 0, 0, []),
  (48, .ldc 71, 0, 0, 0, (-1000000005), []),
  (50, .if_icmp .eq 25, 75, 0, 0, 0, []),
  (53, .iload_n 2, 2, 0, 0, 0, []),
  (54, .aload_n 0, 0, 0, 0, 0, []),
  (55, .getfield 7, 7, 0, 0, 0, []),
  (58, .iconst 0, 0, 0, 0, 0, []),
  (59, .iaload, 0, 0, 0, 0, []),
  (60, .if_icmp .ge 13, 73, 0, 0, 0, []),
  (63, .iload_n 3, 3, 0, 0, 0, []),
  (64, .aload_n 0, 0, 0, 0, 0, []),
  (65, .iload_n 2, 2, 0, 0, 0, []),
  (66, .iconst 3, 0, 0, 0, 3, []),
  (67, .invokevirtual 90, 113, 2, 7, 0, []),
  (70, .if_icmp .eq 5, 75, 0, 0, 0, []),
  (73, .iload_n 2, 2, 0, 0, 0, []),
  (74, .ireturn, 0, 0, 0, 0, []),
  (75, .iinc 2 1, 2, 0, 0, 1, []),
  (78, .goto (-53), 25, 0, 0, 0, []),
  (81, .ldc 71, 0, 0, 0, (-1000000005), []),
  (83, .ireturn, 0, 0, 0, 0, [])]
theorem zk187 : zchk RX7 cX7_reads 4 true (some .int) zc187 [0, 6008, 0, 4174, 0, 0, 4069, 0, 0, 0, 6017, 0, 0, 0, 0, 0, 4070, 0, 0, 0, 0, 4071, 0, 0, 0, 0, 0, 0, 0, 0, 5106, 0, 0, 0, 4065, 0, 0, 0, 0, 0, 0, 0, 4192, 0, 0, 0, 0, 0, 5106, 0] = true := by decide +kernel
def zc188 : List zE := [(0, .iload_n 1, 1, 0, 0, 0, []),
  (1, .invokestatic 303, 183, 1, 0, 0, []),
  (4, .ifCond .eq 13, 17, 0, 0, 0, []),
  (7, .iload_n 2, 2, 0, 0, 0, []),
  (8, .i2l, 0, 0, 0, 0, []),
  (9, .lconst 0, 0, 0, 0, 0, []),
  (10, .lconst 1, 0, 0, 0, 1, []),
  (11, .invokestatic 72, 106, 3, 0, 0, []),
  (14, .ifCond .ne 6, 20, 0, 0, 0, []),
  (17, .ldc 85, 0, 0, 0, (-1000000001), []),
  (19, .ireturn, 0, 0, 0, 0, []),
  (20, .aload_n 0, 0, 0, 0, 0, []),
  (21, .getfield 19, 7, 4, 0, 0, []),
  (24, .iload_n 1, 1, 0, 0, 0, []),
  (25, .iaload, 0, 0, 0, 0, []),
  (26, .ifCond .ge 7, 33, 0, 0, 0, []),
  (29, .ldc_w 309, 0, 0, 0, (-1000000011), []),
  (32, .ireturn, 0, 0, 0, 0, []),
  (33, .aload_n 0, 0, 0, 0, 0, []),
  (34, .invokevirtual 188, 150, 0, 7, 0, []),
  (37, .iconst (-1), 0, 0, 0, (-1), []),
  (38, .istore_n 3, 3, 0, 0, 0, []),
  (39, .iconst 0, 0, 0, 0, 0, []),
  (40, .istore 4, 4, 0, 0, 0, []),
  (42, .iconst 0, 0, 0, 0, 0, []),
  (43, .istore 5, 5, 0, 0, 0, []),
  (45, .iload 5, 5, 0, 0, 0, []),
  (47, .bipush 60, 0, 0, 0, 60, []),
  (49, .if_icmp .gt 108, 157, 0, 0, 0, []),
  (52, .aload_n 0, 0, 0, 0, 0, []),
  (53, .getfield 7, 7, 0, 0, 0, []),
  (56, .bipush 7, 0, 0, 0, 7, []),
  (58, .iload 5, 5, 0, 0, 0, []),
  (60, .iastore, 0, 0, 0, 0, []),
  (61, .iconst 0, 0, 0, 0, 0, []),
  (62, .istore 6, 6, 0, 0, 0, []),
  (64, .iconst 0, 0, 0, 0, 0, []),
  (65, .istore 7, 7, 0, 0, 0, []),
  (67, .iload 7, 7, 0, 0, 0, []),
  (69, .aload_n 0, 0, 0, 0, 0, []),
  (70, .getfield 22, 7, 5, 0, 0, []),
  (73, .iload_n 1, 1, 0, 0, 0, []),
  (74, .iaload, 0, 0, 0, 0, []),
  (75, .if_icmp .ge 54, 129, 0, 0, 0, []),
  (78, .aload_n 0, 0, 0, 0, 0, []),
  (79, .getfield 25, 7, 6, 0, 0, []),
  (82, .bipush 24, 0, 0, 0, 24, []),
  (84, .iload_n 1, 1, 0, 0, 0, []),
  (85, .imul, 0, 0, 0, 0, []),
  (86, .iload 7, 7, 0, 0, 0, []),
  (88, .iadd, 0, 0, 0, 0, []),
  (89, .iaload, 0, 0, 0, 0, []),
  (90, .istore 8, 8, 0, 0, 0, []),
  (92, .iload 6, 6, 0, 0, 0, []),
  (94, .iload 8, 8, 0, 0, 0, []),
  (96, .ldc 71, 0, 0, 0, (-1000000005), []),
  (98, .if_icmp .ne 7, 105, 0, 0, 0, []),
  (101, .iconst 0, 0, 0, 0, 0, []),
  (102, .goto 14, 116, 0, 0, 0, []),
  (105, .iload 8, 8, 0, 0, 0, []),
  (107, .aload_n 0, 0, 0, 0, 0, []),
  (108, .getfield 7, 7, 0, 0, 0, []),
  (111, .iconst 3, 0, 0, 0, 3, []),
  (112, .iaload, 0, 0, 0, 0, []),
  (113, .invokestatic 132, 109, 2, 0, 0, []),
  (116, .iadd, 0, 0, 0, 0, []),
  (117, .istore 6, 6, 0, 0, 0, []),
  (119, .aload_n 0, 0, 0, 0, 0, []),
  (120, .invokevirtual 174, 144, 0, 7, 0, []),
  (123, .iinc 7 1, 7, 0, 0, 1, []),
  (126, .goto (-59), 67, 0, 0, 0, []),
  (129, .aload_n 0, 0, 0, 0, 0, []),
  (130, .invokevirtual 195, 151, 0, 7, 0, []),
  (133, .iload_n 3, 3, 0, 0, 0, []),
  (134, .ifCond .lt 10, 144, 0, 0, 0, []),
  (137, .iload 6, 6, 0, 0, 0, []),
  (139, .iload 4, 4, 0, 0, 0, []),
  (141, .if_icmp .ge 10, 151, 0, 0, 0, []),
  (144, .iload 5, 5, 0, 0, 0, []),
  (146, .istore_n 3, 3, 0, 0, 0, []),
  (147, .iload 6, 6, 0, 0, 0, []),
  (149, .istore 4, 4, 0, 0, 0, []),
  (151, .iinc 5 1, 5, 0, 0, 1, []),
  (154, .goto (-109), 45, 0, 0, 0, []),
  (157, .iload_n 2, 2, 0, 0, 0, []),
  (158, .ifCond .ne 7, 165, 0, 0, 0, []),
  (161, .iload_n 3, 3, 0, 0, 0, []),
  (162, .goto 5, 167, 0, 0, 0, []),
  (165, .iload 4, 4, 0, 0, 0, []),
  (167, .ireturn, 0, 0, 0, 0, [])]
theorem zk188 : zchk RX7 cX7_slanted 9 true (some .int) zc188 [0, 6008, 0, 0, 0, 0, 0, 4170, 0, 4174, 0, 0, 4069, 0, 0, 0, 6017, 0, 0, 5119, 0, 0, 0, 0, 0, 0, 0, 0, 0, 0, 4065, 0, 0, 0, 0, 0, 0, 0, 0, 0, 4070, 0, 0, 0, 0, 4071, 0, 0, 0, 0, 0, 0, 0, 0, 0, 5106, 0, 0, 0, 0, 0, 4065, 0, 0, 5021, 0, 0, 0, 5075, 0, 0, 0, 5127, 0, 0, 0, 0, 0, 0, 0, 0, 0, 0, 0, 0, 0, 0, 0, 0, 0] = true := by decide +kernel
def zc189 : List zE := [(0, .iload_n 1, 1, 0, 0, 0, []),
  (1, .invokestatic 303, 183, 1, 0, 0, []),
  (4, .ifCond .eq 10, 14, 0, 0, 0, []),
  (7, .iload_n 3, 3, 0, 0, 0, []),
  (8, .invokestatic 303, 183, 1, 0, 0, []),
  (11, .ifCond .ne 6, 17, 0, 0, 0, []),
  (14, .ldc 85, 0, 0, 0, (-1000000001), []),
  (16, .ireturn, 0, 0, 0, 0, []),
  (17, .aload_n 0, 0, 0, 0, 0, []),
  (18, .getfield 19, 7, 4, 0, 0, []),
  (21, .iload_n 1, 1, 0, 0, 0, []),
  (22, .iaload, 0, 0, 0, 0, []),
  (23, .ifCond .lt 12, 35, 0, 0, 0, []),
  (26, .aload_n 0, 0, 0, 0, 0, []),
  (27, .getfield 19, 7, 4, 0, 0, []),
  (30, .iload_n 3, 3, 0, 0, 0, []),
  (31, .iaload, 0, 0, 0, 0, []),
  (32, .ifCond .ge 7, 39, 0, 0, 0, []),
  (35, .ldc_w 309, 0, 0, 0, (-1000000011), []),
  (38, .ireturn, 0, 0, 0, 0, []),
  (39, .aload_n 0, 0, 0, 0, 0, []),
  (40, .getfield 19, 7, 4, 0, 0, []),
  (43, .iload_n 1, 1, 0, 0, 0, []),
  (44, .iaload, 0, 0, 0, 0, []),
  (45, .aload_n 0, 0, 0, 0, 0, []),
  (46, .getfield 19, 7, 4, 0, 0, []),
  (49, .iload_n 3, 3, 0, 0, 0, []),
  (50, .iaload, 0, 0, 0, 0, []),
  (51, .if_icmp .eq 6, 57, 0, 0, 0, []),
  (54, .ldc 124, 0, 0, 0, (-1000000012), []),
  (56, .ireturn, 0, 0, 0, 0, []),
  (57, .iload_n 2, 2, 0, 0, 0, []),
  (58, .ifCond .lt 48, 106, 0, 0, 0, []),
  (61, .iload 4, 4, 0, 0, 0, []),
  (63, .ifCond .lt 43, 106, 0, 0, 0, []),
  (66, .iload 5, 5, 0, 0, 0, []),
  (68, .ifCond .lt 38, 106, 0, 0, 0, []),
  (71, .iload_n 2, 2, 0, 0, 0, []),
  (72, .i2l, 0, 0, 0, 0, []),
  (73, .iload 5, 5, 0, 0, 0, []),
  (75, .i2l, 0, 0, 0, 0, []),
  (76, .ladd, 0, 0, 0, 0, []),
  (77, .aload_n 0, 0, 0, 0, 0, []),
  (78, .getfield 22, 7, 5, 0, 0, []),
  (81, .iload_n 1, 1, 0, 0, 0, []),
  (82, .iaload, 0, 0, 0, 0, []),
  (83, .i2l, 0, 0, 0, 0, []),
  (84, .lcmp, 0, 0, 0, 0, []),
  (85, .ifCond .gt 21, 106, 0, 0, 0, []),
  (88, .iload 4, 4, 0, 0, 0, []),
  (90, .i2l, 0, 0, 0, 0, []),
  (91, .iload 5, 5, 0, 0, 0, []),
  (93, .i2l, 0, 0, 0, 0, []),
  (94, .ladd, 0, 0, 0, 0, []),
  (95, .aload_n 0, 0, 0, 0, 0, []),
  (96, .getfield 22, 7, 5, 0, 0, []),
  (99, .iload_n 3, 3, 0, 0, 0, []),
  (100, .iaload, 0, 0, 0, 0, []),
  (101, .i2l, 0, 0, 0, 0, []),
  (102, .lcmp, 0, 0, 0, 0, []),
  (103, .ifCond .le 7, 110, 0, 0, 0, []),
  (106, .ldc_w 310, 0, 0, 0, (-1000000013), []),
  (109, .ireturn, 0, 0, 0, 0, []),
  (110, .iconst 0, 0, 0, 0, 0, []),
  (111, .istore 6, 6, 0, 0, 0, []),
  (113, .iload 6, 6, 0, 0, 0, []),
  (115, .iload 5, 5, 0, 0, 0, []),
  (117, .if_icmp .ge 30, 147, 0, 0, 0, []),
  (120, .aload_n 0, 0, 0, 0, 0, []),
  (121, .getfield 62, 7, 29, 0, 0, []),
  (124, .iload 6, 6, 0, 0, 0, []),
  (126, .aload_n 0, 0, 0, 0, 0, []),
  (127, .getfield 25, 7, 6, 0, 0, []),
  (130, .bipush 24, 0, 0, 0, 24, []),
  (132, .iload_n 1, 1, 0, 0, 0, []),
  (133, .imul, 0, 0, 0, 0, []),
  (134, .iload_n 2, 2, 0, 0, 0, []),
  (135, .iadd, 0, 0, 0, 0, []),
  (136, .iload 6, 6, 0, 0, 0, []),
  (138, .iadd, 0, 0, 0, 0, []),
  (139, .iaload, 0, 0, 0, 0, []),
  (140, .iastore, 0, 0, 0, 0, []),
  (141, .iinc 6 1, 6, 0, 0, 1, []),
  (144, .goto (-31), 113, 0, 0, 0, []),
  (147, .iconst 0, 0, 0, 0, 0, []),
  (148, .istore 6, 6, 0, 0, 0, []),
  (150, .iload 6, 6, 0, 0, 0, []),
  (152, .iload 5, 5, 0, 0, 0, []),
  (154, .if_icmp .ge 31, 185, 0, 0, 0, []),
  (157, .aload_n 0, 0, 0, 0, 0, []),
  (158, .getfield 25, 7, 6, 0, 0, []),
  (161, .bipush 24, 0, 0, 0, 24, []),
  (163, .iload_n 3, 3, 0, 0, 0, []),
  (164, .imul, 0, 0, 0, 0, []),
  (165, .iload 4, 4, 0, 0, 0, []),
  (167, .iadd, 0, 0, 0, 0, []),
  (168, .iload 6, 6, 0, 0, 0, []),
  (170, .iadd, 0, 0, 0, 0, []),
  (171, .aload_n 0, 0, 0, 0, 0, []),
  (172, .getfield 62, 7, 29, 0, 0, []),
  (175, .iload 6, 6, 0, 0, 0, []),
  (177, .iaload, 0, 0, 0, 0, []),
  (178, .iastore, 0, 0, 0, 0, []),
  (179, .iinc 6 1, 6, 0, 0, 1, []),
  (182, .goto (-32), 150, 0, 0, 0, []),
  (185, .iload 5, 5, 0, 0, 0, []),
  (187, .ireturn, 0, 0, 0, 0, [])]
theorem zk189 : zchk RX7 cX7_copy 7 true (some .int) zc189 [0, 6008, 0, 0, 6008, 0, 4174, 0, 0, 4069, 0, 0, 0, 0, 4069, 0, 0, 0, 6017, 0, 0, 4069, 0, 0, 0, 4069, 0, 0, 0, 4237, 0, 0, 0, 0, 0, 0, 0, 0, 0, 0, 0, 0, 0, 4070, 0, 0, 0, 0, 0, 0, 0, 0, 0, 0, 0, 4070, 0, 0, 0, 0, 0, 6018, 0, 0, 0, 0, 0, 0, 0, 4094, 0, 0, 4071, 0, 0, 0, 0, 0, 0, 0, 0, 0, 0, 0, 0, 0, 0, 0, 0, 0, 4071, 0, 0, 0, 0, 0, 0, 0, 0, 4094, 0, 0, 0, 0, 0, 0, 0] = true := by decide +kernel
def zc190 : List zE := [(0, .iload_n 0, 0, 0, 0, 0, []),
  (1, .i2l, 0, 0, 0, 0, []),
  (2, .lconst 0, 0, 0, 0, 0, []),
  (3, .ldc2_w 186, 0, 0, 0, 4, []),
  (6, .invokestatic 72, 106, 3, 0, 0, []),
  (9, .ireturn, 0, 0, 1, 0, [])]
theorem zk190 : zchk RX7 cX7_isSlot 1 true (some .boolean) zc190 [0, 0, 0, 5118, 4170, 0] = true := by decide +kernel
def zc191 : List zE := [(0, .iload_n 2, 2, 0, 0, 0, []),
  (1, .ifCond .eq 33, 34, 0, 0, 0, []),
  (4, .iload_n 2, 2, 0, 0, 0, []),
  (5, .iconst 3, 0, 0, 0, 3, []),
  (6, .if_icmp .eq 28, 34, 0, 0, 0, []),
  (9, .iload_n 2, 2, 0, 0, 0, []),
  (10, .iconst 1, 0, 0, 0, 1, []),
  (11, .if_icmp .ne 11, 22, 0, 0, 0, []),
  (14, .aload_n 0, 0, 0, 0, 0, []),
  (15, .iload_n 3, 3, 0, 0, 0, []),
  (16, .invokevirtual 104, 115, 1, 7, 0, []),
  (19, .ifCond .ne 15, 34, 0, 0, 0, []),
  (22, .iload_n 2, 2, 0, 0, 0, []),
  (23, .iconst 2, 0, 0, 0, 2, []),
  (24, .if_icmp .ne 14, 38, 0, 0, 0, []),
  (27, .iload_n 3, 3, 0, 0, 0, []),
  (28, .invokestatic 303, 183, 1, 0, 0, []),
  (31, .ifCond .eq 7, 38, 0, 0, 0, []),
  (34, .iconst 1, 0, 0, 0, 1, []),
  (35, .goto 4, 39, 0, 0, 0, []),
  (38, .iconst 0, 0, 0, 0, 0, []),
  (39, .istore 4, 4, 0, 0, 0, []),
  (41, .iload_n 1, 1, 0, 0, 0, []),
  (42, .invokestatic 315, 190, 1, 0, 0, []),
  (45, .ifCond .eq 8, 53, 0, 0, 0, []),
  (48, .iload 4, 4, 0, 0, 0, []),
  (50, .ifCond .ne 6, 56, 0, 0, 0, []),
  (53, .ldc 85, 0, 0, 0, (-1000000001), []),
  (55, .ireturn, 0, 0, 0, 0, []),
  (56, .iload_n 2, 2, 0, 0, 0, []),
  (57, .iconst 2, 0, 0, 0, 2, []),
  (58, .if_icmp .ne 16, 74, 0, 0, 0, []),
  (61, .aload_n 0, 0, 0, 0, 0, []),
  (62, .getfield 19, 7, 4, 0, 0, []),
  (65, .iload_n 3, 3, 0, 0, 0, []),
  (66, .iaload, 0, 0, 0, 0, []),
  (67, .ifCond .ge 7, 74, 0, 0, 0, []),
  (70, .ldc_w 309, 0, 0, 0, (-1000000011), []),
  (73, .ireturn, 0, 0, 0, 0, []),
  (74, .aload_n 0, 0, 0, 0, 0, []),
  (75, .getfield 28, 7, 7, 0, 0, []),
  (78, .iload_n 1, 1, 0, 0, 0, []),
  (79, .iaload, 0, 0, 0, 0, []),
  (80, .istore 5, 5, 0, 0, 0, []),
  (82, .aload_n 0, 0, 0, 0, 0, []),
  (83, .getfield 28, 7, 7, 0, 0, []),
  (86, .iload_n 1, 1, 0, 0, 0, []),
  (87, .iload_n 2, 2, 0, 0, 0, []),
  (88, .iastore, 0, 0, 0, 0, []),
  (89, .aload_n 0, 0, 0, 0, 0, []),
  (90, .getfield 31, 7, 8, 0, 0, []),
  (93, .iload_n 1, 1, 0, 0, 0, []),
  (94, .iload_n 2, 2, 0, 0, 0, []),
  (95, .iconst 1, 0, 0, 0, 1, []),
  (96, .if_icmp .ne 12, 108, 0, 0, 0, []),
  (99, .aload_n 0, 0, 0, 0, 0, []),
  (100, .iload_n 3, 3, 0, 0, 0, []),
  (101, .iconst 0, 0, 0, 0, 0, []),
  (102, .invokevirtual 90, 113, 2, 7, 0, []),
  (105, .goto 4, 109, 0, 0, 0, []),
  (108, .iload_n 3, 3, 0, 0, 0, []),
  (109, .iastore, 0, 0, 0, 0, []),
  (110, .aload_n 0, 0, 0, 0, 0, []),
  (111, .getfield 34, 7, 9, 0, 0, []),
  (114, .iload_n 1, 1, 0, 0, 0, []),
  (115, .iload_n 2, 2, 0, 0, 0, []),
  (116, .iconst 1, 0, 0, 0, 1, []),
  (117, .if_icmp .ne 11, 128, 0, 0, 0, []),
  (120, .aload_n 0, 0, 0, 0, 0, []),
  (121, .iload_n 3, 3, 0, 0, 0, []),
  (122, .invokevirtual 117, 123, 1, 7, 0, []),
  (125, .goto 4, 129, 0, 0, 0, []),
  (128, .iconst 0, 0, 0, 0, 0, []),
  (129, .iastore, 0, 0, 0, 0, []),
  (130, .iload_n 2, 2, 0, 0, 0, []),
  (131, .iconst 2, 0, 0, 0, 2, []),
  (132, .if_icmp .ne 55, 187, 0, 0, 0, []),
  (135, .aload_n 0, 0, 0, 0, 0, []),
  (136, .getfield 37, 7, 10, 0, 0, []),
  (139, .iload_n 1, 1, 0, 0, 0, []),
  (140, .aload_n 0, 0, 0, 0, 0, []),
  (141, .getfield 22, 7, 5, 0, 0, []),
  (144, .iload_n 3, 3, 0, 0, 0, []),
  (145, .iaload, 0, 0, 0, 0, []),
  (146, .iastore, 0, 0, 0, 0, []),
  (147, .iconst 0, 0, 0, 0, 0, []),
  (148, .istore 6, 6, 0, 0, 0, []),
  (150, .iload 6, 6, 0, 0, 0, []),
  (152, .bipush 24, 0, 0, 0, 24, []),
  (154, .if_icmp .ge 33, 187, 0, 0, 0, []),
  (157, .aload_n 0, 0, 0, 0, 0, []),
  (158, .getfield 40, 7, 11, 0, 0, []),
  (161, .bipush 24, 0, 0, 0, 24, []),
  (163, .iload_n 1, 1, 0, 0, 0, []),
  (164, .imul, 0, 0, 0, 0, []),
  (165, .iload 6, 6, 0, 0, 0, []),
  (167, .iadd, 0, 0, 0, 0, []),
  (168, .aload_n 0, 0, 0, 0, 0, []),
  (169, .getfield 25, 7, 6, 0, 0, []),
  (172, .bipush 24, 0, 0, 0, 24, []),
  (174, .iload_n 3, 3, 0, 0, 0, []),
  (175, .imul, 0, 0, 0, 0, []),
  (176, .iload 6, 6, 0, 0, 0, []),
  (178, .iadd, 0, 0, 0, 0, []),
  (179, .iaload, 0, 0, 0, 0, []),
  (180, .iastore, 0, 0, 0, 0, []),
  (181, .iinc 6 1, 6, 0, 0, 1, []),
  (184, .goto (-34), 150, 0, 0, 0, []),
  (187, .iload 5, 5, 0, 0, 0, []),
  (189, .ireturn, 0, 0, 0, 0, [])]
theorem zk191 : zchk RX7 cX7_lay 7 true (some .int) zc191 [0, 0, 0, 0, 0, 0, 0, 0, 0, 0, 4188, 0, 0, 0, 0, 0, 6008, 0, 0, 0, 0, 0, 0, 6041, 0, 0, 0, 4174, 0, 0, 0, 0, 0, 4069, 0, 0, 0, 6017, 0, 0, 4072, 0, 0, 0, 0, 4072, 0, 0, 0, 0, 4073, 0, 0, 0, 0, 0, 0, 0, 4192, 0, 0, 0, 0, 4074, 0, 0, 0, 0, 0, 0, 4226, 0, 0, 0, 0, 0, 0, 0, 4075, 0, 0, 4070, 0, 0, 0, 0, 0, 0, 0, 0, 0, 4076, 0, 0, 0, 0, 0, 0, 4071, 0, 0, 0, 0, 0, 0, 0, 0, 0, 0, 0] = true := by decide +kernel
def zc192 : List zE := [(0, .iload_n 1, 1, 0, 0, 0, []),
  (1, .invokestatic 315, 190, 1, 0, 0, []),
  (4, .ifCond .eq 15, 19, 0, 0, 0, []),
  (7, .iload_n 2, 2, 0, 0, 0, []),
  (8, .i2l, 0, 0, 0, 0, []),
  (9, .lconst 0, 0, 0, 0, 0, []),
  (10, .ldc2_w 81, 0, 0, 0, 5, []),
  (13, .invokestatic 72, 106, 3, 0, 0, []),
  (16, .ifCond .ne 6, 22, 0, 0, 0, []),
  (19, .ldc 85, 0, 0, 0, (-1000000001), []),
  (21, .ireturn, 0, 0, 0, 0, []),
  (22, .aload_n 0, 0, 0, 0, 0, []),
  (23, .getfield 28, 7, 7, 0, 0, []),
  (26, .iload_n 1, 1, 0, 0, 0, []),
  (27, .iaload, 0, 0, 0, 0, []),
  (28, .ifCond .ne 7, 35, 0, 0, 0, []),
  (31, .ldc_w 309, 0, 0, 0, (-1000000011), []),
  (34, .ireturn, 0, 0, 0, 0, []),
  (35, .aload_n 0, 0, 0, 0, 0, []),
  (36, .getfield 28, 7, 7, 0, 0, []),
  (39, .iload_n 1, 1, 0, 0, 0, []),
  (40, .iaload, 0, 0, 0, 0, []),
  (41, .iconst 1, 0, 0, 0, 1, []),
  (42, .if_icmp .ne 25, 67, 0, 0, 0, []),
  (45, .aload_n 0, 0, 0, 0, 0, []),
  (46, .getfield 31, 7, 8, 0, 0, []),
  (49, .iload_n 1, 1, 0, 0, 0, []),
  (50, .iaload, 0, 0, 0, 0, []),
  (51, .iload_n 2, 2, 0, 0, 0, []),
  (52, .invokestatic 120, 125, 2, 0, 0, []),
  (55, .ifCond .eq 12, 67, 0, 0, 0, []),
  (58, .aload_n 0, 0, 0, 0, 0, []),
  (59, .getfield 34, 7, 9, 0, 0, []),
  (62, .iload_n 1, 1, 0, 0, 0, []),
  (63, .iaload, 0, 0, 0, 0, []),
  (64, .goto 5, 69, 0, 0, 0, []),
  (67, .ldc 124, 0, 0, 0, (-1000000012), []),
  (69, .ireturn, 0, 0, 0, 0, [])]
theorem zk192 : zchk RX7 cX7_ask 3 true (some .int) zc192 [0, 6041, 0, 0, 0, 0, 4169, 4170, 0, 4174, 0, 0, 4072, 0, 0, 0, 6017, 0, 0, 4072, 0, 0, 0, 0, 0, 4073, 0, 0, 0, 4234, 0, 0, 4074, 0, 0, 0, 4237, 0] = true := by decide +kernel
def zc193 : List zE := [(0, .iload_n 1, 1, 0, 0, 0, []),
  (1, .invokestatic 315, 190, 1, 0, 0, []),
  (4, .ifCond .ne 6, 10, 0, 0, 0, []),
  (7, .ldc 85, 0, 0, 0, (-1000000001), []),
  (9, .ireturn, 0, 0, 0, 0, []),
  (10, .aload_n 0, 0, 0, 0, 0, []),
  (11, .getfield 28, 7, 7, 0, 0, []),
  (14, .iload_n 1, 1, 0, 0, 0, []),
  (15, .iaload, 0, 0, 0, 0, []),
  (16, .iconst 2, 0, 0, 0, 2, []),
  (17, .if_icmp .eq 21, 38, 0, 0, 0, []),
  (20, .aload_n 0, 0, 0, 0, 0, []),
  (21, .getfield 28, 7, 7, 0, 0, []),
  (24, .iload_n 1, 1, 0, 0, 0, []),
  (25, .iaload, 0, 0, 0, 0, []),
  (26, .ifCond .ne 9, 35, 0, 0, 0, []),
  (29, .ldc_w 309, 0, 0, 0, (-1000000011), []),
  (32, .goto 5, 37, 0, 0, 0, []),
  (35, .ldc 124, 0, 0, 0, (-1000000012), []),
  (37, .ireturn, 0, 0, 0, 0, []),
  (38, .iload_n 2, 2, 0, 0, 0, []),
  (39, .i2l, 0, 0, 0, 0, []),
  (40, .lconst 0, 0, 0, 0, 0, []),
  (41, .aload_n 0, 0, 0, 0, 0, []),
  (42, .getfield 37, 7, 10, 0, 0, []),
  (45, .iload_n 1, 1, 0, 0, 0, []),
  (46, .iaload, 0, 0, 0, 0, []),
  (47, .iconst 1, 0, 0, 0, 1, []),
  (48, .isub, 0, 0, 0, 0, []),
  (49, .i2l, 0, 0, 0, 0, []),
  (50, .invokestatic 72, 106, 3, 0, 0, []),
  (53, .ifCond .ne 7, 60, 0, 0, 0, []),
  (56, .ldc_w 310, 0, 0, 0, (-1000000013), []),
  (59, .ireturn, 0, 0, 0, 0, []),
  (60, .aload_n 0, 0, 0, 0, 0, []),
  (61, .getfield 40, 7, 11, 0, 0, []),
  (64, .bipush 24, 0, 0, 0, 24, []),
  (66, .iload_n 1, 1, 0, 0, 0, []),
  (67, .imul, 0, 0, 0, 0, []),
  (68, .iload_n 2, 2, 0, 0, 0, []),
  (69, .iadd, 0, 0, 0, 0, []),
  (70, .iaload, 0, 0, 0, 0, []),
  (71, .istore_n 3, 3, 0, 0, 0, []),
  (72, .iload_n 3, 3, 0, 0, 0, []),
  (73, .ldc 71, 0, 0, 0, (-1000000005), []),
  (75, .if_icmp .ne 8, 83, 0, 0, 0, []),
  (78, .ldc 124, 0, 0, 0, (-1000000012), []),
  (80, .goto 4, 84, 0, 0, 0, []),
  (83, .iload_n 3, 3, 0, 0, 0, []),
  (84, .ireturn, 0, 0, 0, 0, [])]
theorem zk193 : zchk RX7 cX7_item 4 true (some .int) zc193 [0, 6041, 0, 4174, 0, 0, 4072, 0, 0, 0, 0, 0, 4072, 0, 0, 0, 6017, 0, 4237, 0, 0, 0, 0, 0, 4075, 0, 0, 0, 0, 0, 4170, 0, 6018, 0, 0, 4076, 0, 0, 0, 0, 0, 0, 0, 0, 5106, 0, 4237, 0, 0, 0] = true := by decide +kernel
def zc194 : List zE := [(0, .iload_n 1, 1, 0, 0, 0, []),
  (1, .invokestatic 315, 190, 1, 0, 0, []),
  (4, .ifCond .ne 6, 10, 0, 0, 0, []),
  (7, .ldc 85, 0, 0, 0, (-1000000001), []),
  (9, .ireturn, 0, 0, 0, 0, []),
  (10, .aload_n 0, 0, 0, 0, 0, []),
  (11, .getfield 28, 7, 7, 0, 0, []),
  (14, .iload_n 1, 1, 0, 0, 0, []),
  (15, .iaload, 0, 0, 0, 0, []),
  (16, .iconst 3, 0, 0, 0, 3, []),
  (17, .if_icmp .eq 21, 38, 0, 0, 0, []),
  (20, .aload_n 0, 0, 0, 0, 0, []),
  (21, .getfield 28, 7, 7, 0, 0, []),
  (24, .iload_n 1, 1, 0, 0, 0, []),
  (25, .iaload, 0, 0, 0, 0, []),
  (26, .ifCond .ne 9, 35, 0, 0, 0, []),
  (29, .ldc_w 309, 0, 0, 0, (-1000000011), []),
  (32, .goto 5, 37, 0, 0, 0, []),
  (35, .ldc 124, 0, 0, 0, (-1000000012), []),
  (37, .ireturn, 0, 0, 0, 0, []),
  (38, .iload_n 2, 2, 0, 0, 0, []),
  (39, .ifCond .ne 9, 48, 0, 0, 0, []),
  (42, .ldc_w 318, 0, 0, 0, (-1000000002), []),
  (45, .goto 11, 56, 0, 0, 0, []),
  (48, .aload_n 0, 0, 0, 0, 0, []),
  (49, .getfield 31, 7, 8, 0, 0, []),
  (52, .iload_n 1, 1, 0, 0, 0, []),
  (53, .iaload, 0, 0, 0, 0, []),
  (54, .iload_n 2, 2, 0, 0, 0, []),
  (55, .irem, 0, 0, 0, 0, []),
  (56, .ireturn, 0, 0, 0, 0, [])]
theorem zk194 : zchk RX7 cX7_rest 3 true (some .int) zc194 [0, 6041, 0, 4174, 0, 0, 4072, 0, 0, 0, 0, 0, 4072, 0, 0, 0, 6017, 0, 4237, 0, 0, 0, 6056, 0, 0, 4073, 0, 0, 0, 0, 0] = true := by decide +kernel
def zc195 : List zE := [(0, .aload_n 0, 0, 0, 0, 0, []),
  (1, .getfield 319, 7, 31, 0, 0, []),
  (4, .bipush 60, 0, 0, 0, 60, []),
  (6, .if_icmp .ne 6, 12, 0, 0, 0, []),
  (9, .ldc 86, 0, 0, 0, (-1000000003), []),
  (11, .ireturn, 0, 0, 0, 0, []),
  (12, .aload_n 0, 0, 0, 0, 0, []),
  (13, .getfield 65, 7, 30, 0, 0, []),
  (16, .aload_n 0, 0, 0, 0, 0, []),
  (17, .getfield 319, 7, 31, 0, 0, []),
  (20, .iload_n 1, 1, 0, 0, 0, []),
  (21, .iastore, 0, 0, 0, 0, []),
  (22, .aload_n 0, 0, 0, 0, 0, []),
  (23, .dup, 0, 0, 0, 0, []),
  (24, .getfield 319, 7, 31, 0, 0, []),
  (27, .iconst 1, 0, 0, 0, 1, []),
  (28, .iadd, 0, 0, 0, 0, []),
  (29, .putfield 319, 7, 31, 0, 0, []),
  (32, .aload_n 0, 0, 0, 0, 0, []),
  (33, .getfield 319, 7, 31, 0, 0, []),
  (36, .ireturn, 0, 0, 0, 0, [])]
theorem zk195 : zchk RX7 cX7_tell 2 true (some .int) zc195 [0, 4096, 0, 0, 4175, 0, 0, 4095, 0, 4096, 0, 0, 0, 0, 4096, 0, 0, 4096, 0, 4096, 0] = true := by decide +kernel
def zc196 : List zE := [(0, .iconst 0, 0, 0, 0, 0, []),
  (1, .istore_n 3, 3, 0, 0, 0, []),
  (2, .iload_n 3, 3, 0, 0, 0, []),
  (3, .sipush 2862, 0, 0, 0, 2862, []),
  (6, .if_icmp .ge 15, 21, 0, 0, 0, []),
  (9, .aload_n 2, 2, 0, 0, 0, []),
  (10, .iload_n 3, 3, 0, 0, 0, []),
  (11, .aload_n 1, 1, 0, 0, 0, []),
  (12, .iload_n 3, 3, 0, 0, 0, []),
  (13, .iaload, 0, 0, 0, 0, []),
  (14, .iastore, 0, 0, 0, 0, []),
  (15, .iinc 3 1, 3, 0, 0, 1, []),
  (18, .goto (-16), 2, 0, 0, 0, []),
  (21, .return_, 0, 0, 0, 0, [])]
theorem zk196 : zchk RX7 cX7_setAside 4 true none zc196 [0, 0, 0, 0, 0, 0, 0, 0, 0, 0, 0, 0, 0, 0] = true := by decide +kernel
end
section
/-! code tables: printed by gen06.py from the bytecode -/
def zc197 : List zE := [(0, .aload_n 0, 0, 0, 0, 0, []),
  (1, .getfield 319, 7, 31, 0, 0, []),
  (4, .istore_n 2, 2, 0, 0, 0, []),
  (5, .aload_n 0, 0, 0, 0, 0, []),
  (6, .iconst 0, 0, 0, 0, 0, []),
  (7, .putfield 319, 7, 31, 0, 0, []),
  (10, .iload_n 1, 1, 0, 0, 0, []),
  (11, .i2l, 0, 0, 0, 0, []),
  (12, .lconst 1, 0, 0, 0, 1, []),
  (13, .ldc2_w 322, 0, 0, 0, 30, []),
  (16, .invokestatic 72, 106, 3, 0, 0, []),
  (19, .ifCond .ne 6, 25, 0, 0, 0, []),
  (22, .ldc 85, 0, 0, 0, (-1000000001), []),
  (24, .ireturn, 0, 0, 0, 0, []),
  (25, .aload_n 0, 0, 0, 0, 0, []),
  (26, .getfield 324, 7, 3, 0, 0, []),
  (29, .ifCond .ne 7, 36, 0, 0, 0, []),
  (32, .ldc_w 318, 0, 0, 0, (-1000000002), []),
  (35, .ireturn, 0, 0, 0, 0, []),
  (36, .aload_n 0, 0, 0, 0, 0, []),
  (37, .aload_n 0, 0, 0, 0, 0, []),
  (38, .getfield 7, 7, 0, 0, 0, []),
  (41, .aload_n 0, 0, 0, 0, 0, []),
  (42, .getfield 16, 7, 2, 0, 0, []),
  (45, .invokevirtual 328, 196, 2, 7, 0, []),
  (48, .aload_n 0, 0, 0, 0, 0, []),
  (49, .aload_n 0, 0, 0, 0, 0, []),
  (50, .getfield 13, 7, 1, 0, 0, []),
  (53, .aload_n 0, 0, 0, 0, 0, []),
  (54, .getfield 7, 7, 0, 0, 0, []),
  (57, .invokevirtual 328, 196, 2, 7, 0, []),
  (60, .iconst 0, 0, 0, 0, 0, []),
  (61, .istore_n 3, 3, 0, 0, 0, []),
  (62, .iconst 0, 0, 0, 0, 0, []),
  (63, .istore 4, 4, 0, 0, 0, []),
  (65, .iload 4, 4, 0, 0, 0, []),
  (67, .iload_n 1, 1, 0, 0, 0, []),
  (68, .if_icmp .ge 54, 122, 0, 0, 0, []),
  (71, .aload_n 0, 0, 0, 0, 0, []),
  (72, .getfield 7, 7, 0, 0, 0, []),
  (75, .iconst 2, 0, 0, 0, 2, []),
  (76, .iaload, 0, 0, 0, 0, []),
  (77, .sipush 9999, 0, 0, 0, 9999, []),
  (80, .if_icmp .ge 42, 122, 0, 0, 0, []),
  (83, .aload_n 0, 0, 0, 0, 0, []),
  (84, .invokevirtual 174, 144, 0, 7, 0, []),
  (87, .aload_n 0, 0, 0, 0, 0, []),
  (88, .getfield 68, 7, 32, 0, 0, []),
  (91, .iload_n 3, 3, 0, 0, 0, []),
  (92, .aload_n 0, 0, 0, 0, 0, []),
  (93, .getfield 7, 7, 0, 0, 0, []),
  (96, .iconst 3, 0, 0, 0, 3, []),
  (97, .iaload, 0, 0, 0, 0, []),
  (98, .iastore, 0, 0, 0, 0, []),
  (99, .aload_n 0, 0, 0, 0, 0, []),
  (100, .getfield 68, 7, 32, 0, 0, []),
  (103, .iload_n 3, 3, 0, 0, 0, []),
  (104, .iconst 1, 0, 0, 0, 1, []),
  (105, .iadd, 0, 0, 0, 0, []),
  (106, .aload_n 0, 0, 0, 0, 0, []),
  (107, .getfield 7, 7, 0, 0, 0, []),
  (110, .iconst 4, 0, 0, 0, 4, []),
  (111, .iaload, 0, 0, 0, 0, []),
  (112, .iastore, 0, 0, 0, 0, []),
  (113, .iinc 3 2, 3, 0, 0, 2, []),
  (116, .iinc 4 1, 4, 0, 0, 1, []),
  (119, .goto (-54), 65, 0, 0, 0, []),
  (122, .aload_n 0, 0, 0, 0, 0, []),
  (123, .aload_n 0, 0, 0, 0, 0, []),
  (124, .getfield 16, 7, 2, 0, 0, []),
  (127, .aload_n 0, 0, 0, 0, 0, []),
  (128, .getfield 7, 7, 0, 0, 0, []),
  (131, .invokevirtual 328, 196, 2, 7, 0, []),
  (134, .iconst 0, 0, 0, 0, 0, []),
  (135, .istore 4, 4, 0, 0, 0, []),
  (137, .iload 4, 4, 0, 0, 0, []),
  (139, .iload_n 2, 2, 0, 0, 0, []),
  (140, .if_icmp .ge 32, 172, 0, 0, 0, []),
  (143, .iload 4, 4, 0, 0, 0, []),
  (145, .iload_n 3, 3, 0, 0, 0, []),
  (146, .if_icmp .ge 26, 172, 0, 0, 0, []),
  (149, .aload_n 0, 0, 0, 0, 0, []),
  (150, .getfield 65, 7, 30, 0, 0, []),
  (153, .iload 4, 4, 0, 0, 0, []),
  (155, .iaload, 0, 0, 0, 0, []),
  (156, .aload_n 0, 0, 0, 0, 0, []),
  (157, .getfield 68, 7, 32, 0, 0, []),
  (160, .iload 4, 4, 0, 0, 0, []),
  (162, .iaload, 0, 0, 0, 0, []),
  (163, .if_icmp .ne 9, 172, 0, 0, 0, []),
  (166, .iinc 4 1, 4, 0, 0, 1, []),
  (169, .goto (-32), 137, 0, 0, 0, []),
  (172, .iload 4, 4, 0, 0, 0, []),
  (174, .iload_n 2, 2, 0, 0, 0, []),
  (175, .if_icmp .ne 13, 188, 0, 0, 0, []),
  (178, .iload 4, 4, 0, 0, 0, []),
  (180, .iload_n 3, 3, 0, 0, 0, []),
  (181, .if_icmp .ne 7, 188, 0, 0, 0, []),
  (184, .iconst 0, 0, 0, 0, 0, []),
  (185, .goto 7, 192, 0, 0, 0, []),
  (188, .iconst 1, 0, 0, 0, 1, []),
  (189, .iload 4, 4, 0, 0, 0, []),
  (191, .iadd, 0, 0, 0, 0, []),
  (192, .ireturn, 0, 0, 0, 0, [])]
theorem zk197 : zchk RX7 cX7_check 5 true (some .int) zc197 [0, 4096, 0, 0, 0, 4096, 0, 0, 0, 6065, 4170, 0, 4174, 0, 0, 4068, 0, 6056, 0, 0, 0, 4065, 0, 4067, 6066, 0, 0, 4066, 0, 4065, 6066, 0, 0, 0, 0, 0, 0, 0, 0, 4065, 0, 0, 0, 0, 0, 5075, 0, 4097, 0, 0, 4065, 0, 0, 0, 0, 4097, 0, 0, 0, 0, 4065, 0, 0, 0, 0, 0, 0, 0, 0, 4067, 0, 4065, 6066, 0, 0, 0, 0, 0, 0, 0, 0, 0, 4095, 0, 0, 0, 4097, 0, 0, 0, 0, 0, 0, 0, 0, 0, 0, 0, 0, 0, 0, 0, 0, 0] = true := by decide +kernel
def zc198 : List zE := [(0, .aload_n 0, 0, 0, 0, 0, []),
  (1, .iconst 1, 0, 0, 0, 1, []),
  (2, .putfield 324, 7, 3, 1, 0, []),
  (5, .aload_n 0, 0, 0, 0, 0, []),
  (6, .aload_n 0, 0, 0, 0, 0, []),
  (7, .getfield 7, 7, 0, 0, 0, []),
  (10, .aload_n 0, 0, 0, 0, 0, []),
  (11, .getfield 13, 7, 1, 0, 0, []),
  (14, .invokevirtual 328, 196, 2, 7, 0, []),
  (17, .aload_n 0, 0, 0, 0, 0, []),
  (18, .getfield 7, 7, 0, 0, 0, []),
  (21, .iconst 0, 0, 0, 0, 0, []),
  (22, .iaload, 0, 0, 0, 0, []),
  (23, .ireturn, 0, 0, 0, 0, [])]
theorem zk198 : zchk RX7 cX7_keep 1 true (some .int) zc198 [0, 0, 4068, 0, 0, 4065, 0, 4066, 6066, 0, 4065, 0, 0, 0] = true := by decide +kernel
def zc199 : List zE := [(0, .aload_n 0, 0, 0, 0, 0, []),
  (1, .getfield 324, 7, 3, 0, 0, []),
  (4, .ifCond .ne 7, 11, 0, 0, 0, []),
  (7, .ldc_w 318, 0, 0, 0, (-1000000002), []),
  (10, .ireturn, 0, 0, 0, 0, []),
  (11, .aload_n 0, 0, 0, 0, 0, []),
  (12, .aload_n 0, 0, 0, 0, 0, []),
  (13, .getfield 13, 7, 1, 0, 0, []),
  (16, .aload_n 0, 0, 0, 0, 0, []),
  (17, .getfield 7, 7, 0, 0, 0, []),
  (20, .invokevirtual 328, 196, 2, 7, 0, []),
  (23, .aload_n 0, 0, 0, 0, 0, []),
  (24, .getfield 7, 7, 0, 0, 0, []),
  (27, .iconst 0, 0, 0, 0, 0, []),
  (28, .iaload, 0, 0, 0, 0, []),
  (29, .ireturn, 0, 0, 0, 0, [])]
theorem zk199 : zchk RX7 cX7_back 1 true (some .int) zc199 [0, 4068, 0, 6056, 0, 0, 0, 4066, 0, 4065, 6066, 0, 4065, 0, 0, 0] = true := by decide +kernel
def zc200 : List zE := [(0, .iload_n 1, 1, 0, 0, 0, []),
  (1, .tableswitch 103 0 7 #[47, 54, 61, 67, 79, 86, 91, 96], 104, 47, 0, 0, [(0, 48), (1, 55), (2, 62), (3, 68), (4, 80), (5, 87), (6, 92), (7, 97)]),
  (48, .aload_n 0, 0, 0, 0, 0, []),
  (49, .getfield 7, 7, 0, 0, 0, []),
  (52, .iconst 0, 0, 0, 0, 0, []),
  (53, .iaload, 0, 0, 0, 0, []),
  (54, .ireturn, 0, 0, 0, 0, []),
  (55, .aload_n 0, 0, 0, 0, 0, []),
  (56, .getfield 7, 7, 0, 0, 0, []),
  (59, .iconst 2, 0, 0, 0, 2, []),
  (60, .iaload, 0, 0, 0, 0, []),
  (61, .ireturn, 0, 0, 0, 0, []),
  (62, .aload_n 0, 0, 0, 0, 0, []),
  (63, .iconst 0, 0, 0, 0, 0, []),
  (64, .invokevirtual 163, 141, 1, 7, 0, []),
  (67, .ireturn, 0, 0, 0, 0, []),
  (68, .aload_n 0, 0, 0, 0, 0, []),
  (69, .aload_n 0, 0, 0, 0, 0, []),
  (70, .getfield 7, 7, 0, 0, 0, []),
  (73, .bipush 6, 0, 0, 0, 6, []),
  (75, .iaload, 0, 0, 0, 0, []),
  (76, .invokevirtual 163, 141, 1, 7, 0, []),
  (79, .ireturn, 0, 0, 0, 0, []),
  (80, .aload_n 0, 0, 0, 0, 0, []),
  (81, .getfield 7, 7, 0, 0, 0, []),
  (84, .iconst 1, 0, 0, 0, 1, []),
  (85, .iaload, 0, 0, 0, 0, []),
  (86, .ireturn, 0, 0, 0, 0, []),
  (87, .aload_n 0, 0, 0, 0, 0, []),
  (88, .getfield 319, 7, 31, 0, 0, []),
  (91, .ireturn, 0, 0, 0, 0, []),
  (92, .aload_n 0, 0, 0, 0, 0, []),
  (93, .getfield 204, 7, 16, 0, 0, []),
  (96, .ireturn, 0, 0, 0, 0, []),
  (97, .aload_n 0, 0, 0, 0, 0, []),
  (98, .getfield 7, 7, 0, 0, 0, []),
  (101, .iconst 5, 0, 0, 0, 5, []),
  (102, .iaload, 0, 0, 0, 0, []),
  (103, .ireturn, 0, 0, 0, 0, []),
  (104, .ldc 85, 0, 0, 0, (-1000000001), []),
  (106, .ireturn, 0, 0, 0, 0, [])]
theorem zk200 : zchk RX7 cX7_count 2 true (some .int) zc200 [0, 0, 0, 4065, 0, 0, 0, 0, 4065, 0, 0, 0, 0, 0, 5083, 0, 0, 0, 4065, 0, 0, 5083, 0, 0, 4065, 0, 0, 0, 0, 4096, 0, 0, 4081, 0, 0, 4065, 0, 0, 0, 4174, 0] = true := by decide +kernel
def zc201 : List zE := [(0, .iload_n 0, 0, 0, 0, 0, []),
  (1, .iload_n 0, 0, 0, 0, 0, []),
  (2, .iconst 1, 0, 0, 0, 1, []),
  (3, .iushr, 0, 0, 0, 0, []),
  (4, .ldc_w 265, 0, 0, 0, 1431655765, []),
  (7, .iand, 0, 0, 0, 0, []),
  (8, .isub, 0, 0, 0, 0, []),
  (9, .istore_n 0, 0, 0, 0, 0, []),
  (10, .iload_n 0, 0, 0, 0, 0, []),
  (11, .ldc_w 266, 0, 0, 0, 858993459, []),
  (14, .iand, 0, 0, 0, 0, []),
  (15, .iload_n 0, 0, 0, 0, 0, []),
  (16, .iconst 2, 0, 0, 0, 2, []),
  (17, .iushr, 0, 0, 0, 0, []),
  (18, .ldc_w 266, 0, 0, 0, 858993459, []),
  (21, .iand, 0, 0, 0, 0, []),
  (22, .iadd, 0, 0, 0, 0, []),
  (23, .istore_n 0, 0, 0, 0, 0, []),
  (24, .iload_n 0, 0, 0, 0, 0, []),
  (25, .iload_n 0, 0, 0, 0, 0, []),
  (26, .iconst 4, 0, 0, 0, 4, []),
  (27, .iushr, 0, 0, 0, 0, []),
  (28, .iadd, 0, 0, 0, 0, []),
  (29, .ldc_w 267, 0, 0, 0, 252645135, []),
  (32, .iand, 0, 0, 0, 0, []),
  (33, .istore_n 0, 0, 0, 0, 0, []),
  (34, .iload_n 0, 0, 0, 0, 0, []),
  (35, .iload_n 0, 0, 0, 0, 0, []),
  (36, .bipush 8, 0, 0, 0, 8, []),
  (38, .iushr, 0, 0, 0, 0, []),
  (39, .iadd, 0, 0, 0, 0, []),
  (40, .istore_n 0, 0, 0, 0, 0, []),
  (41, .iload_n 0, 0, 0, 0, 0, []),
  (42, .iload_n 0, 0, 0, 0, 0, []),
  (43, .bipush 16, 0, 0, 0, 16, []),
  (45, .iushr, 0, 0, 0, 0, []),
  (46, .iadd, 0, 0, 0, 0, []),
  (47, .istore_n 0, 0, 0, 0, 0, []),
  (48, .iload_n 0, 0, 0, 0, 0, []),
  (49, .bipush 63, 0, 0, 0, 63, []),
  (51, .iand, 0, 0, 0, 0, []),
  (52, .ireturn, 0, 0, 0, 0, [])]
theorem zk201 : zchk RJ6 cJ6_bitCount_0f7a4 1 true (some .int) zc201 [0, 0, 0, 0, 2217, 0, 0, 0, 0, 2218, 0, 0, 0, 0, 2218, 0, 0, 0, 0, 0, 0, 0, 0, 2219, 0, 0, 0, 0, 0, 0, 0, 0, 0, 0, 0, 0, 0, 0, 0, 0, 0, 0] = true := by decide +kernel
end
section
/-! code tables: printed by gen06.py from the bytecode -/
def zc300_0 : List zE := [(16, .iconst 0, 0, 0, 0, 0, []),
  (17, .istore_n 3, 3, 0, 0, 0, []),
  (18, .iload_n 3, 3, 0, 0, 0, []),
  (19, .aload_n 0, 0, 0, 0, 0, []),
  (20, .arraylength, 0, 0, 0, 0, []),
  (21, .bipush 6, 0, 0, 0, 6, []),
  (23, .isub, 0, 0, 0, 0, []),
  (24, .if_icmp .gt 1357, 1381, 0, 0, 0, []),
  (27, .aload_n 0, 0, 0, 0, 0, []),
  (28, .iload_n 3, 3, 0, 0, 0, []),
  (29, .iaload, 0, 0, 0, 0, []),
  (30, .bipush 63, 0, 0, 0, 63, []),
  (32, .iand, 0, 0, 0, 0, []),
  (33, .tableswitch 1342 0 40 #[179, 222, 255, 288, 321, 364, 387, 420, 443, 456, 479, 502, 525, 548, 561, 584, 617, 650, 683, 716, 729, 762, 775, 818, 841, 854, 887, 910, 953, 996, 1019, 1042, 1105, 1148, 1181, 1214, 1247, 1270, 1293, 1306, 1319], 1375, 179, 0, 0, [(0, 212), (1, 255), (2, 288), (3, 321), (4, 354), (5, 397), (6, 420), (7, 453), (8, 476), (9, 489), (10, 512), (11, 535), (12, 558), (13, 581), (14, 594), (15, 617), (16, 650), (17, 683), (18, 716), (19, 749), (20, 762), (21, 795), (22, 808), (23, 851), (24, 874), (25, 887), (26, 920), (27, 943), (28, 986), (29, 1029), (30, 1052), (31, 1075), (32, 1138), (33, 1181), (34, 1214), (35, 1247), (36, 1280), (37, 1303), (38, 1326), (39, 1339), (40, 1352)]),
  (212, .aload_n 1, 1, 0, 0, 0, []),
  (213, .aload_n 0, 0, 0, 0, 0, []),
  (214, .iload_n 3, 3, 0, 0, 0, []),
  (215, .iconst 1, 0, 0, 0, 1, []),
  (216, .iadd, 0, 0, 0, 0, []),
  (217, .iaload, 0, 0, 0, 0, []),
  (218, .aload_n 0, 0, 0, 0, 0, []),
  (219, .iload_n 3, 3, 0, 0, 0, []),
  (220, .iconst 2, 0, 0, 0, 2, []),
  (221, .iadd, 0, 0, 0, 0, []),
  (222, .iaload, 0, 0, 0, 0, []),
  (223, .aload_n 0, 0, 0, 0, 0, []),
  (224, .iload_n 3, 3, 0, 0, 0, []),
  (225, .iconst 3, 0, 0, 0, 3, []),
  (226, .iadd, 0, 0, 0, 0, []),
  (227, .iaload, 0, 0, 0, 0, []),
  (228, .invokevirtual 13, 58, 3, 6, 0, []),
  (231, .aload_n 2, 2, 0, 0, 0, []),
  (232, .aload_n 0, 0, 0, 0, 0, []),
  (233, .iload_n 3, 3, 0, 0, 0, []),
  (234, .iconst 1, 0, 0, 0, 1, []),
  (235, .iadd, 0, 0, 0, 0, []),
  (236, .iaload, 0, 0, 0, 0, []),
  (237, .aload_n 0, 0, 0, 0, 0, []),
  (238, .iload_n 3, 3, 0, 0, 0, []),
  (239, .iconst 2, 0, 0, 0, 2, []),
  (240, .iadd, 0, 0, 0, 0, []),
  (241, .iaload, 0, 0, 0, 0, []),
  (242, .aload_n 0, 0, 0, 0, 0, []),
  (243, .iload_n 3, 3, 0, 0, 0, []),
  (244, .iconst 3, 0, 0, 0, 3, []),
  (245, .iadd, 0, 0, 0, 0, []),
  (246, .iaload, 0, 0, 0, 0, []),
  (247, .invokevirtual 17, 119, 3, 7, 0, []),
  (250, .if_icmp .eq 1125, 1375, 0, 0, 0, []),
  (253, .iconst 0, 0, 0, 0, 0, []),
  (254, .ireturn, 0, 0, 1, 0, []),
  (255, .aload_n 1, 1, 0, 0, 0, []),
  (256, .aload_n 0, 0, 0, 0, 0, []),
  (257, .iload_n 3, 3, 0, 0, 0, []),
  (258, .iconst 1, 0, 0, 0, 1, []),
  (259, .iadd, 0, 0, 0, 0, []),
  (260, .iaload, 0, 0, 0, 0, []),
  (261, .aload_n 0, 0, 0, 0, 0, []),
  (262, .iload_n 3, 3, 0, 0, 0, []),
  (263, .iconst 2, 0, 0, 0, 2, [])]
theorem zk300_0 : zchk RL cL_law 4 true (some .boolean) zc300_0 [0, 0, 0, 0, 0, 0, 0, 0, 0, 0, 0, 0, 0, 0, 0, 0, 0, 0, 0, 0, 0, 0, 0, 0, 0, 0, 0, 0, 0, 0, 2002, 0, 0, 0, 0, 0, 0, 0, 0, 0, 0, 0, 0, 0, 0, 0, 0, 4165, 0, 0, 0, 0, 0, 0, 0, 0, 0, 0, 0, 0] = true := by decide +kernel
def zc300_1 : List zE := [(264, .iadd, 0, 0, 0, 0, []),
  (265, .iaload, 0, 0, 0, 0, []),
  (266, .invokevirtual 18, 59, 2, 6, 0, []),
  (269, .aload_n 2, 2, 0, 0, 0, []),
  (270, .aload_n 0, 0, 0, 0, 0, []),
  (271, .iload_n 3, 3, 0, 0, 0, []),
  (272, .iconst 1, 0, 0, 0, 1, []),
  (273, .iadd, 0, 0, 0, 0, []),
  (274, .iaload, 0, 0, 0, 0, []),
  (275, .aload_n 0, 0, 0, 0, 0, []),
  (276, .iload_n 3, 3, 0, 0, 0, []),
  (277, .iconst 2, 0, 0, 0, 2, []),
  (278, .iadd, 0, 0, 0, 0, []),
  (279, .iaload, 0, 0, 0, 0, []),
  (280, .invokevirtual 22, 124, 2, 7, 0, []),
  (283, .if_icmp .eq 1092, 1375, 0, 0, 0, []),
  (286, .iconst 0, 0, 0, 0, 0, []),
  (287, .ireturn, 0, 0, 1, 0, []),
  (288, .aload_n 1, 1, 0, 0, 0, []),
  (289, .aload_n 0, 0, 0, 0, 0, []),
  (290, .iload_n 3, 3, 0, 0, 0, []),
  (291, .iconst 1, 0, 0, 0, 1, []),
  (292, .iadd, 0, 0, 0, 0, []),
  (293, .iaload, 0, 0, 0, 0, []),
  (294, .aload_n 0, 0, 0, 0, 0, []),
  (295, .iload_n 3, 3, 0, 0, 0, []),
  (296, .iconst 2, 0, 0, 0, 2, []),
  (297, .iadd, 0, 0, 0, 0, []),
  (298, .iaload, 0, 0, 0, 0, []),
  (299, .invokevirtual 23, 60, 2, 6, 0, []),
  (302, .aload_n 2, 2, 0, 0, 0, []),
  (303, .aload_n 0, 0, 0, 0, 0, []),
  (304, .iload_n 3, 3, 0, 0, 0, []),
  (305, .iconst 1, 0, 0, 0, 1, []),
  (306, .iadd, 0, 0, 0, 0, []),
  (307, .iaload, 0, 0, 0, 0, []),
  (308, .aload_n 0, 0, 0, 0, 0, []),
  (309, .iload_n 3, 3, 0, 0, 0, []),
  (310, .iconst 2, 0, 0, 0, 2, []),
  (311, .iadd, 0, 0, 0, 0, []),
  (312, .iaload, 0, 0, 0, 0, []),
  (313, .invokevirtual 26, 126, 2, 7, 0, []),
  (316, .if_icmp .eq 1059, 1375, 0, 0, 0, []),
  (319, .iconst 0, 0, 0, 0, 0, []),
  (320, .ireturn, 0, 0, 1, 0, []),
  (321, .aload_n 1, 1, 0, 0, 0, []),
  (322, .aload_n 0, 0, 0, 0, 0, []),
  (323, .iload_n 3, 3, 0, 0, 0, []),
  (324, .iconst 1, 0, 0, 0, 1, []),
  (325, .iadd, 0, 0, 0, 0, []),
  (326, .iaload, 0, 0, 0, 0, []),
  (327, .aload_n 0, 0, 0, 0, 0, []),
  (328, .iload_n 3, 3, 0, 0, 0, []),
  (329, .iconst 2, 0, 0, 0, 2, []),
  (330, .iadd, 0, 0, 0, 0, []),
  (331, .iaload, 0, 0, 0, 0, []),
  (332, .invokevirtual 27, 61, 2, 6, 0, []),
  (335, .aload_n 2, 2, 0, 0, 0, []),
  (336, .aload_n 0, 0, 0, 0, 0, []),
  (337, .iload_n 3, 3, 0, 0, 0, [])]
theorem zk300_1 : zchk RL cL_law 4 true (some .boolean) zc300_1 [0, 0, 2021, 0, 0, 0, 0, 0, 0, 0, 0, 0, 0, 0, 4184, 0, 0, 0, 0, 0, 0, 0, 0, 0, 0, 0, 0, 0, 0, 2064, 0, 0, 0, 0, 0, 0, 0, 0, 0, 0, 0, 4230, 0, 0, 0, 0, 0, 0, 0, 0, 0, 0, 0, 0, 0, 0, 2075, 0, 0, 0] = true := by decide +kernel
def zc300_2 : List zE := [(338, .iconst 1, 0, 0, 0, 1, []),
  (339, .iadd, 0, 0, 0, 0, []),
  (340, .iaload, 0, 0, 0, 0, []),
  (341, .aload_n 0, 0, 0, 0, 0, []),
  (342, .iload_n 3, 3, 0, 0, 0, []),
  (343, .iconst 2, 0, 0, 0, 2, []),
  (344, .iadd, 0, 0, 0, 0, []),
  (345, .iaload, 0, 0, 0, 0, []),
  (346, .invokevirtual 30, 127, 2, 7, 0, []),
  (349, .if_icmp .eq 1026, 1375, 0, 0, 0, []),
  (352, .iconst 0, 0, 0, 0, 0, []),
  (353, .ireturn, 0, 0, 1, 0, []),
  (354, .aload_n 1, 1, 0, 0, 0, []),
  (355, .aload_n 0, 0, 0, 0, 0, []),
  (356, .iload_n 3, 3, 0, 0, 0, []),
  (357, .iconst 1, 0, 0, 0, 1, []),
  (358, .iadd, 0, 0, 0, 0, []),
  (359, .iaload, 0, 0, 0, 0, []),
  (360, .aload_n 0, 0, 0, 0, 0, []),
  (361, .iload_n 3, 3, 0, 0, 0, []),
  (362, .iconst 2, 0, 0, 0, 2, []),
  (363, .iadd, 0, 0, 0, 0, []),
  (364, .iaload, 0, 0, 0, 0, []),
  (365, .aload_n 0, 0, 0, 0, 0, []),
  (366, .iload_n 3, 3, 0, 0, 0, []),
  (367, .iconst 3, 0, 0, 0, 3, []),
  (368, .iadd, 0, 0, 0, 0, []),
  (369, .iaload, 0, 0, 0, 0, []),
  (370, .invokevirtual 31, 62, 3, 6, 0, []),
  (373, .aload_n 2, 2, 0, 0, 0, []),
  (374, .aload_n 0, 0, 0, 0, 0, []),
  (375, .iload_n 3, 3, 0, 0, 0, []),
  (376, .iconst 1, 0, 0, 0, 1, []),
  (377, .iadd, 0, 0, 0, 0, []),
  (378, .iaload, 0, 0, 0, 0, []),
  (379, .aload_n 0, 0, 0, 0, 0, []),
  (380, .iload_n 3, 3, 0, 0, 0, []),
  (381, .iconst 2, 0, 0, 0, 2, []),
  (382, .iadd, 0, 0, 0, 0, []),
  (383, .iaload, 0, 0, 0, 0, []),
  (384, .aload_n 0, 0, 0, 0, 0, []),
  (385, .iload_n 3, 3, 0, 0, 0, []),
  (386, .iconst 3, 0, 0, 0, 3, []),
  (387, .iadd, 0, 0, 0, 0, []),
  (388, .iaload, 0, 0, 0, 0, []),
  (389, .invokevirtual 34, 128, 3, 7, 0, []),
  (392, .if_icmp .eq 983, 1375, 0, 0, 0, []),
  (395, .iconst 0, 0, 0, 0, 0, []),
  (396, .ireturn, 0, 0, 1, 0, []),
  (397, .aload_n 1, 1, 0, 0, 0, []),
  (398, .aload_n 0, 0, 0, 0, 0, []),
  (399, .iload_n 3, 3, 0, 0, 0, []),
  (400, .iconst 1, 0, 0, 0, 1, []),
  (401, .iadd, 0, 0, 0, 0, []),
  (402, .iaload, 0, 0, 0, 0, []),
  (403, .invokevirtual 35, 63, 1, 6, 0, []),
  (406, .aload_n 2, 2, 0, 0, 0, []),
  (407, .aload_n 0, 0, 0, 0, 0, []),
  (408, .iload_n 3, 3, 0, 0, 0, []),
  (409, .iconst 1, 0, 0, 0, 1, [])]
theorem zk300_2 : zchk RL cL_law 4 true (some .boolean) zc300_2 [0, 0, 0, 0, 0, 0, 0, 0, 4238, 0, 0, 0, 0, 0, 0, 0, 0, 0, 0, 0, 0, 0, 0, 0, 0, 0, 0, 0, 2082, 0, 0, 0, 0, 0, 0, 0, 0, 0, 0, 0, 0, 0, 0, 0, 0, 5006, 0, 0, 0, 0, 0, 0, 0, 0, 0, 2086, 0, 0, 0, 0] = true := by decide +kernel
def zc300_3 : List zE := [(410, .iadd, 0, 0, 0, 0, []),
  (411, .iaload, 0, 0, 0, 0, []),
  (412, .invokevirtual 39, 131, 1, 7, 0, []),
  (415, .if_icmp .eq 960, 1375, 0, 0, 0, []),
  (418, .iconst 0, 0, 0, 0, 0, []),
  (419, .ireturn, 0, 0, 1, 0, []),
  (420, .aload_n 1, 1, 0, 0, 0, []),
  (421, .aload_n 0, 0, 0, 0, 0, []),
  (422, .iload_n 3, 3, 0, 0, 0, []),
  (423, .iconst 1, 0, 0, 0, 1, []),
  (424, .iadd, 0, 0, 0, 0, []),
  (425, .iaload, 0, 0, 0, 0, []),
  (426, .aload_n 0, 0, 0, 0, 0, []),
  (427, .iload_n 3, 3, 0, 0, 0, []),
  (428, .iconst 2, 0, 0, 0, 2, []),
  (429, .iadd, 0, 0, 0, 0, []),
  (430, .iaload, 0, 0, 0, 0, []),
  (431, .invokevirtual 40, 64, 2, 6, 0, []),
  (434, .aload_n 2, 2, 0, 0, 0, []),
  (435, .aload_n 0, 0, 0, 0, 0, []),
  (436, .iload_n 3, 3, 0, 0, 0, []),
  (437, .iconst 1, 0, 0, 0, 1, []),
  (438, .iadd, 0, 0, 0, 0, []),
  (439, .iaload, 0, 0, 0, 0, []),
  (440, .aload_n 0, 0, 0, 0, 0, []),
  (441, .iload_n 3, 3, 0, 0, 0, []),
  (442, .iconst 2, 0, 0, 0, 2, []),
  (443, .iadd, 0, 0, 0, 0, []),
  (444, .iaload, 0, 0, 0, 0, []),
  (445, .invokevirtual 43, 133, 2, 7, 0, []),
  (448, .if_icmp .eq 927, 1375, 0, 0, 0, []),
  (451, .iconst 0, 0, 0, 0, 0, []),
  (452, .ireturn, 0, 0, 1, 0, []),
  (453, .aload_n 1, 1, 0, 0, 0, []),
  (454, .aload_n 0, 0, 0, 0, 0, []),
  (455, .iload_n 3, 3, 0, 0, 0, []),
  (456, .iconst 1, 0, 0, 0, 1, []),
  (457, .iadd, 0, 0, 0, 0, []),
  (458, .iaload, 0, 0, 0, 0, []),
  (459, .invokevirtual 44, 65, 1, 6, 0, []),
  (462, .aload_n 2, 2, 0, 0, 0, []),
  (463, .aload_n 0, 0, 0, 0, 0, []),
  (464, .iload_n 3, 3, 0, 0, 0, []),
  (465, .iconst 1, 0, 0, 0, 1, []),
  (466, .iadd, 0, 0, 0, 0, []),
  (467, .iaload, 0, 0, 0, 0, []),
  (468, .invokevirtual 47, 135, 1, 7, 0, []),
  (471, .if_icmp .eq 904, 1375, 0, 0, 0, []),
  (474, .iconst 0, 0, 0, 0, 0, []),
  (475, .ireturn, 0, 0, 1, 0, []),
  (476, .aload_n 1, 1, 0, 0, 0, []),
  (477, .invokevirtual 48, 66, 0, 6, 0, []),
  (480, .aload_n 2, 2, 0, 0, 0, []),
  (481, .invokevirtual 52, 138, 0, 7, 0, []),
  (484, .if_icmp .eq 891, 1375, 0, 0, 0, []),
  (487, .iconst 0, 0, 0, 0, 0, []),
  (488, .ireturn, 0, 0, 1, 0, []),
  (489, .aload_n 1, 1, 0, 0, 0, []),
  (490, .aload_n 0, 0, 0, 0, 0, []),
  (491, .iload_n 3, 3, 0, 0, 0, [])]
theorem zk300_3 : zchk RL cL_law 4 true (some .boolean) zc300_3 [0, 0, 5012, 0, 0, 0, 0, 0, 0, 0, 0, 0, 0, 0, 0, 0, 0, 2104, 0, 0, 0, 0, 0, 0, 0, 0, 0, 0, 0, 5028, 0, 0, 0, 0, 0, 0, 0, 0, 0, 2112, 0, 0, 0, 0, 0, 0, 5035, 0, 0, 0, 0, 2120, 0, 5044, 0, 0, 0, 0, 0, 0] = true := by decide +kernel
def zc300_4 : List zE := [(492, .iconst 1, 0, 0, 0, 1, []),
  (493, .iadd, 0, 0, 0, 0, []),
  (494, .iaload, 0, 0, 0, 0, []),
  (495, .invokevirtual 53, 67, 1, 6, 0, []),
  (498, .aload_n 2, 2, 0, 0, 0, []),
  (499, .aload_n 0, 0, 0, 0, 0, []),
  (500, .iload_n 3, 3, 0, 0, 0, []),
  (501, .iconst 1, 0, 0, 0, 1, []),
  (502, .iadd, 0, 0, 0, 0, []),
  (503, .iaload, 0, 0, 0, 0, []),
  (504, .invokevirtual 56, 139, 1, 7, 0, []),
  (507, .if_icmp .eq 868, 1375, 0, 0, 0, []),
  (510, .iconst 0, 0, 0, 0, 0, []),
  (511, .ireturn, 0, 0, 1, 0, []),
  (512, .aload_n 1, 1, 0, 0, 0, []),
  (513, .aload_n 0, 0, 0, 0, 0, []),
  (514, .iload_n 3, 3, 0, 0, 0, []),
  (515, .iconst 1, 0, 0, 0, 1, []),
  (516, .iadd, 0, 0, 0, 0, []),
  (517, .iaload, 0, 0, 0, 0, []),
  (518, .invokevirtual 57, 68, 1, 6, 0, []),
  (521, .aload_n 2, 2, 0, 0, 0, []),
  (522, .aload_n 0, 0, 0, 0, 0, []),
  (523, .iload_n 3, 3, 0, 0, 0, []),
  (524, .iconst 1, 0, 0, 0, 1, []),
  (525, .iadd, 0, 0, 0, 0, []),
  (526, .iaload, 0, 0, 0, 0, []),
  (527, .invokevirtual 60, 140, 1, 7, 0, []),
  (530, .if_icmp .eq 845, 1375, 0, 0, 0, []),
  (533, .iconst 0, 0, 0, 0, 0, []),
  (534, .ireturn, 0, 0, 1, 0, []),
  (535, .aload_n 1, 1, 0, 0, 0, []),
  (536, .aload_n 0, 0, 0, 0, 0, []),
  (537, .iload_n 3, 3, 0, 0, 0, []),
  (538, .iconst 1, 0, 0, 0, 1, []),
  (539, .iadd, 0, 0, 0, 0, []),
  (540, .iaload, 0, 0, 0, 0, []),
  (541, .invokevirtual 61, 69, 1, 6, 0, []),
  (544, .aload_n 2, 2, 0, 0, 0, []),
  (545, .aload_n 0, 0, 0, 0, 0, []),
  (546, .iload_n 3, 3, 0, 0, 0, []),
  (547, .iconst 1, 0, 0, 0, 1, []),
  (548, .iadd, 0, 0, 0, 0, []),
  (549, .iaload, 0, 0, 0, 0, []),
  (550, .invokevirtual 64, 145, 1, 7, 0, []),
  (553, .if_icmp .eq 822, 1375, 0, 0, 0, []),
  (556, .iconst 0, 0, 0, 0, 0, []),
  (557, .ireturn, 0, 0, 1, 0, []),
  (558, .aload_n 1, 1, 0, 0, 0, []),
  (559, .aload_n 0, 0, 0, 0, 0, []),
  (560, .iload_n 3, 3, 0, 0, 0, []),
  (561, .iconst 1, 0, 0, 0, 1, []),
  (562, .iadd, 0, 0, 0, 0, []),
  (563, .iaload, 0, 0, 0, 0, []),
  (564, .invokevirtual 65, 70, 1, 6, 0, []),
  (567, .aload_n 2, 2, 0, 0, 0, []),
  (568, .aload_n 0, 0, 0, 0, 0, []),
  (569, .iload_n 3, 3, 0, 0, 0, []),
  (570, .iconst 1, 0, 0, 0, 1, []),
  (571, .iadd, 0, 0, 0, 0, [])]
theorem zk300_4 : zchk RL cL_law 4 true (some .boolean) zc300_4 [0, 0, 0, 2135, 0, 0, 0, 0, 0, 0, 5056, 0, 0, 0, 0, 0, 0, 0, 0, 0, 2144, 0, 0, 0, 0, 0, 0, 5066, 0, 0, 0, 0, 0, 0, 0, 0, 0, 2148, 0, 0, 0, 0, 0, 0, 5070, 0, 0, 0, 0, 0, 0, 0, 0, 0, 2185, 0, 0, 0, 0, 0] = true := by decide +kernel
def zc300_5 : List zE := [(572, .iaload, 0, 0, 0, 0, []),
  (573, .invokevirtual 68, 147, 1, 7, 0, []),
  (576, .if_icmp .eq 799, 1375, 0, 0, 0, []),
  (579, .iconst 0, 0, 0, 0, 0, []),
  (580, .ireturn, 0, 0, 1, 0, []),
  (581, .aload_n 1, 1, 0, 0, 0, []),
  (582, .invokevirtual 69, 71, 0, 6, 0, []),
  (585, .aload_n 2, 2, 0, 0, 0, []),
  (586, .invokevirtual 72, 148, 0, 7, 0, []),
  (589, .if_icmp .eq 786, 1375, 0, 0, 0, []),
  (592, .iconst 0, 0, 0, 0, 0, []),
  (593, .ireturn, 0, 0, 1, 0, []),
  (594, .aload_n 1, 1, 0, 0, 0, []),
  (595, .aload_n 0, 0, 0, 0, 0, []),
  (596, .iload_n 3, 3, 0, 0, 0, []),
  (597, .iconst 1, 0, 0, 0, 1, []),
  (598, .iadd, 0, 0, 0, 0, []),
  (599, .iaload, 0, 0, 0, 0, []),
  (600, .invokevirtual 73, 72, 1, 6, 0, []),
  (603, .aload_n 2, 2, 0, 0, 0, []),
  (604, .aload_n 0, 0, 0, 0, 0, []),
  (605, .iload_n 3, 3, 0, 0, 0, []),
  (606, .iconst 1, 0, 0, 0, 1, []),
  (607, .iadd, 0, 0, 0, 0, []),
  (608, .iaload, 0, 0, 0, 0, []),
  (609, .invokevirtual 76, 149, 1, 7, 0, []),
  (612, .if_icmp .eq 763, 1375, 0, 0, 0, []),
  (615, .iconst 0, 0, 0, 0, 0, []),
  (616, .ireturn, 0, 0, 1, 0, []),
  (617, .aload_n 1, 1, 0, 0, 0, []),
  (618, .aload_n 0, 0, 0, 0, 0, []),
  (619, .iload_n 3, 3, 0, 0, 0, []),
  (620, .iconst 1, 0, 0, 0, 1, []),
  (621, .iadd, 0, 0, 0, 0, []),
  (622, .iaload, 0, 0, 0, 0, []),
  (623, .aload_n 0, 0, 0, 0, 0, []),
  (624, .iload_n 3, 3, 0, 0, 0, []),
  (625, .iconst 2, 0, 0, 0, 2, []),
  (626, .iadd, 0, 0, 0, 0, []),
  (627, .iaload, 0, 0, 0, 0, []),
  (628, .invokevirtual 77, 73, 2, 6, 0, []),
  (631, .aload_n 2, 2, 0, 0, 0, []),
  (632, .aload_n 0, 0, 0, 0, 0, []),
  (633, .iload_n 3, 3, 0, 0, 0, []),
  (634, .iconst 1, 0, 0, 0, 1, []),
  (635, .iadd, 0, 0, 0, 0, []),
  (636, .iaload, 0, 0, 0, 0, []),
  (637, .aload_n 0, 0, 0, 0, 0, []),
  (638, .iload_n 3, 3, 0, 0, 0, []),
  (639, .iconst 2, 0, 0, 0, 2, []),
  (640, .iadd, 0, 0, 0, 0, []),
  (641, .iaload, 0, 0, 0, 0, []),
  (642, .invokevirtual 80, 153, 2, 7, 0, []),
  (645, .if_icmp .eq 730, 1375, 0, 0, 0, []),
  (648, .iconst 0, 0, 0, 0, 0, []),
  (649, .ireturn, 0, 0, 1, 0, []),
  (650, .aload_n 1, 1, 0, 0, 0, []),
  (651, .aload_n 0, 0, 0, 0, 0, []),
  (652, .iload_n 3, 3, 0, 0, 0, []),
  (653, .iconst 1, 0, 0, 0, 1, [])]
theorem zk300_5 : zchk RL cL_law 4 true (some .boolean) zc300_5 [0, 5091, 0, 0, 0, 0, 2193, 0, 5099, 0, 0, 0, 0, 0, 0, 0, 0, 0, 2198, 0, 0, 0, 0, 0, 0, 5107, 0, 0, 0, 0, 0, 0, 0, 0, 0, 0, 0, 0, 0, 0, 2221, 0, 0, 0, 0, 0, 0, 0, 0, 0, 0, 0, 5114, 0, 0, 0, 0, 0, 0, 0] = true := by decide +kernel
def zc300_6 : List zE := [(654, .iadd, 0, 0, 0, 0, []),
  (655, .iaload, 0, 0, 0, 0, []),
  (656, .aload_n 0, 0, 0, 0, 0, []),
  (657, .iload_n 3, 3, 0, 0, 0, []),
  (658, .iconst 2, 0, 0, 0, 2, []),
  (659, .iadd, 0, 0, 0, 0, []),
  (660, .iaload, 0, 0, 0, 0, []),
  (661, .invokevirtual 81, 74, 2, 6, 0, []),
  (664, .aload_n 2, 2, 0, 0, 0, []),
  (665, .aload_n 0, 0, 0, 0, 0, []),
  (666, .iload_n 3, 3, 0, 0, 0, []),
  (667, .iconst 1, 0, 0, 0, 1, []),
  (668, .iadd, 0, 0, 0, 0, []),
  (669, .iaload, 0, 0, 0, 0, []),
  (670, .aload_n 0, 0, 0, 0, 0, []),
  (671, .iload_n 3, 3, 0, 0, 0, []),
  (672, .iconst 2, 0, 0, 0, 2, []),
  (673, .iadd, 0, 0, 0, 0, []),
  (674, .iaload, 0, 0, 0, 0, []),
  (675, .invokevirtual 84, 154, 2, 7, 0, []),
  (678, .if_icmp .eq 697, 1375, 0, 0, 0, []),
  (681, .iconst 0, 0, 0, 0, 0, []),
  (682, .ireturn, 0, 0, 1, 0, []),
  (683, .aload_n 1, 1, 0, 0, 0, []),
  (684, .aload_n 0, 0, 0, 0, 0, []),
  (685, .iload_n 3, 3, 0, 0, 0, []),
  (686, .iconst 1, 0, 0, 0, 1, []),
  (687, .iadd, 0, 0, 0, 0, []),
  (688, .iaload, 0, 0, 0, 0, []),
  (689, .aload_n 0, 0, 0, 0, 0, []),
  (690, .iload_n 3, 3, 0, 0, 0, []),
  (691, .iconst 2, 0, 0, 0, 2, []),
  (692, .iadd, 0, 0, 0, 0, []),
  (693, .iaload, 0, 0, 0, 0, []),
  (694, .invokevirtual 85, 75, 2, 6, 0, []),
  (697, .aload_n 2, 2, 0, 0, 0, []),
  (698, .aload_n 0, 0, 0, 0, 0, []),
  (699, .iload_n 3, 3, 0, 0, 0, []),
  (700, .iconst 1, 0, 0, 0, 1, []),
  (701, .iadd, 0, 0, 0, 0, []),
  (702, .iaload, 0, 0, 0, 0, []),
  (703, .aload_n 0, 0, 0, 0, 0, []),
  (704, .iload_n 3, 3, 0, 0, 0, []),
  (705, .iconst 2, 0, 0, 0, 2, []),
  (706, .iadd, 0, 0, 0, 0, []),
  (707, .iaload, 0, 0, 0, 0, []),
  (708, .invokevirtual 88, 155, 2, 7, 0, []),
  (711, .if_icmp .eq 664, 1375, 0, 0, 0, []),
  (714, .iconst 0, 0, 0, 0, 0, []),
  (715, .ireturn, 0, 0, 1, 0, []),
  (716, .aload_n 1, 1, 0, 0, 0, []),
  (717, .aload_n 0, 0, 0, 0, 0, []),
  (718, .iload_n 3, 3, 0, 0, 0, []),
  (719, .iconst 1, 0, 0, 0, 1, []),
  (720, .iadd, 0, 0, 0, 0, []),
  (721, .iaload, 0, 0, 0, 0, []),
  (722, .aload_n 0, 0, 0, 0, 0, []),
  (723, .iload_n 3, 3, 0, 0, 0, []),
  (724, .iconst 2, 0, 0, 0, 2, []),
  (725, .iadd, 0, 0, 0, 0, [])]
theorem zk300_6 : zchk RL cL_law 4 true (some .boolean) zc300_6 [0, 0, 0, 0, 0, 0, 0, 2232, 0, 0, 0, 0, 0, 0, 0, 0, 0, 0, 0, 5131, 0, 0, 0, 0, 0, 0, 0, 0, 0, 0, 0, 0, 0, 0, 2236, 0, 0, 0, 0, 0, 0, 0, 0, 0, 0, 0, 5136, 0, 0, 0, 0, 0, 0, 0, 0, 0, 0, 0, 0, 0] = true := by decide +kernel
def zc300_7 : List zE := [(726, .iaload, 0, 0, 0, 0, []),
  (727, .invokevirtual 89, 76, 2, 6, 0, []),
  (730, .aload_n 2, 2, 0, 0, 0, []),
  (731, .aload_n 0, 0, 0, 0, 0, []),
  (732, .iload_n 3, 3, 0, 0, 0, []),
  (733, .iconst 1, 0, 0, 0, 1, []),
  (734, .iadd, 0, 0, 0, 0, []),
  (735, .iaload, 0, 0, 0, 0, []),
  (736, .aload_n 0, 0, 0, 0, 0, []),
  (737, .iload_n 3, 3, 0, 0, 0, []),
  (738, .iconst 2, 0, 0, 0, 2, []),
  (739, .iadd, 0, 0, 0, 0, []),
  (740, .iaload, 0, 0, 0, 0, []),
  (741, .invokevirtual 92, 156, 2, 7, 0, []),
  (744, .if_icmp .eq 631, 1375, 0, 0, 0, []),
  (747, .iconst 0, 0, 0, 0, 0, []),
  (748, .ireturn, 0, 0, 1, 0, []),
  (749, .aload_n 1, 1, 0, 0, 0, []),
  (750, .invokevirtual 93, 77, 0, 6, 0, []),
  (753, .aload_n 2, 2, 0, 0, 0, []),
  (754, .invokevirtual 96, 158, 0, 7, 0, []),
  (757, .if_icmp .eq 618, 1375, 0, 0, 0, []),
  (760, .iconst 0, 0, 0, 0, 0, []),
  (761, .ireturn, 0, 0, 1, 0, []),
  (762, .aload_n 1, 1, 0, 0, 0, []),
  (763, .aload_n 0, 0, 0, 0, 0, []),
  (764, .iload_n 3, 3, 0, 0, 0, []),
  (765, .iconst 1, 0, 0, 0, 1, []),
  (766, .iadd, 0, 0, 0, 0, []),
  (767, .iaload, 0, 0, 0, 0, []),
  (768, .aload_n 0, 0, 0, 0, 0, []),
  (769, .iload_n 3, 3, 0, 0, 0, []),
  (770, .iconst 2, 0, 0, 0, 2, []),
  (771, .iadd, 0, 0, 0, 0, []),
  (772, .iaload, 0, 0, 0, 0, []),
  (773, .invokevirtual 97, 78, 2, 6, 0, []),
  (776, .aload_n 2, 2, 0, 0, 0, []),
  (777, .aload_n 0, 0, 0, 0, 0, []),
  (778, .iload_n 3, 3, 0, 0, 0, []),
  (779, .iconst 1, 0, 0, 0, 1, []),
  (780, .iadd, 0, 0, 0, 0, []),
  (781, .iaload, 0, 0, 0, 0, []),
  (782, .aload_n 0, 0, 0, 0, 0, []),
  (783, .iload_n 3, 3, 0, 0, 0, []),
  (784, .iconst 2, 0, 0, 0, 2, []),
  (785, .iadd, 0, 0, 0, 0, []),
  (786, .iaload, 0, 0, 0, 0, []),
  (787, .invokevirtual 100, 188, 2, 7, 0, []),
  (790, .if_icmp .eq 585, 1375, 0, 0, 0, []),
  (793, .iconst 0, 0, 0, 0, 0, []),
  (794, .ireturn, 0, 0, 1, 0, []),
  (795, .aload_n 1, 1, 0, 0, 0, []),
  (796, .invokevirtual 101, 80, 0, 6, 0, []),
  (799, .aload_n 2, 2, 0, 0, 0, []),
  (800, .invokevirtual 104, 159, 0, 7, 0, []),
  (803, .if_icmp .eq 572, 1375, 0, 0, 0, []),
  (806, .iconst 0, 0, 0, 0, 0, []),
  (807, .ireturn, 0, 0, 1, 0, []),
  (808, .aload_n 1, 1, 0, 0, 0, []),
  (809, .aload_n 0, 0, 0, 0, 0, [])]
theorem zk300_7 : zchk RL cL_law 4 true (some .boolean) zc300_7 [0, 3000, 0, 0, 0, 0, 0, 0, 0, 0, 0, 0, 0, 5140, 0, 0, 0, 0, 3004, 0, 5144, 0, 0, 0, 0, 0, 0, 0, 0, 0, 0, 0, 0, 0, 0, 3013, 0, 0, 0, 0, 0, 0, 0, 0, 0, 0, 0, 6029, 0, 0, 0, 0, 3041, 0, 5152, 0, 0, 0, 0, 0] = true := by decide +kernel
def zc300_8 : List zE := [(810, .iload_n 3, 3, 0, 0, 0, []),
  (811, .iconst 1, 0, 0, 0, 1, []),
  (812, .iadd, 0, 0, 0, 0, []),
  (813, .iaload, 0, 0, 0, 0, []),
  (814, .aload_n 0, 0, 0, 0, 0, []),
  (815, .iload_n 3, 3, 0, 0, 0, []),
  (816, .iconst 2, 0, 0, 0, 2, []),
  (817, .iadd, 0, 0, 0, 0, []),
  (818, .iaload, 0, 0, 0, 0, []),
  (819, .aload_n 0, 0, 0, 0, 0, []),
  (820, .iload_n 3, 3, 0, 0, 0, []),
  (821, .iconst 3, 0, 0, 0, 3, []),
  (822, .iadd, 0, 0, 0, 0, []),
  (823, .iaload, 0, 0, 0, 0, []),
  (824, .invokevirtual 105, 81, 3, 6, 0, []),
  (827, .aload_n 2, 2, 0, 0, 0, []),
  (828, .aload_n 0, 0, 0, 0, 0, []),
  (829, .iload_n 3, 3, 0, 0, 0, []),
  (830, .iconst 1, 0, 0, 0, 1, []),
  (831, .iadd, 0, 0, 0, 0, []),
  (832, .iaload, 0, 0, 0, 0, []),
  (833, .aload_n 0, 0, 0, 0, 0, []),
  (834, .iload_n 3, 3, 0, 0, 0, []),
  (835, .iconst 2, 0, 0, 0, 2, []),
  (836, .iadd, 0, 0, 0, 0, []),
  (837, .iaload, 0, 0, 0, 0, []),
  (838, .aload_n 0, 0, 0, 0, 0, []),
  (839, .iload_n 3, 3, 0, 0, 0, []),
  (840, .iconst 3, 0, 0, 0, 3, []),
  (841, .iadd, 0, 0, 0, 0, []),
  (842, .iaload, 0, 0, 0, 0, []),
  (843, .invokevirtual 108, 160, 3, 7, 0, []),
  (846, .if_icmp .eq 529, 1375, 0, 0, 0, []),
  (849, .iconst 0, 0, 0, 0, 0, []),
  (850, .ireturn, 0, 0, 1, 0, []),
  (851, .aload_n 1, 1, 0, 0, 0, []),
  (852, .aload_n 0, 0, 0, 0, 0, []),
  (853, .iload_n 3, 3, 0, 0, 0, []),
  (854, .iconst 1, 0, 0, 0, 1, []),
  (855, .iadd, 0, 0, 0, 0, []),
  (856, .iaload, 0, 0, 0, 0, []),
  (857, .invokevirtual 109, 82, 1, 6, 0, []),
  (860, .aload_n 2, 2, 0, 0, 0, []),
  (861, .aload_n 0, 0, 0, 0, 0, []),
  (862, .iload_n 3, 3, 0, 0, 0, []),
  (863, .iconst 1, 0, 0, 0, 1, []),
  (864, .iadd, 0, 0, 0, 0, []),
  (865, .iaload, 0, 0, 0, 0, []),
  (866, .invokevirtual 112, 161, 1, 7, 0, []),
  (869, .if_icmp .eq 506, 1375, 0, 0, 0, []),
  (872, .iconst 0, 0, 0, 0, 0, []),
  (873, .ireturn, 0, 0, 1, 0, []),
  (874, .aload_n 1, 1, 0, 0, 0, []),
  (875, .invokevirtual 113, 83, 0, 6, 0, []),
  (878, .aload_n 2, 2, 0, 0, 0, []),
  (879, .invokevirtual 116, 177, 0, 7, 0, []),
  (882, .if_icmp .eq 493, 1375, 0, 0, 0, []),
  (885, .iconst 0, 0, 0, 0, 0, []),
  (886, .ireturn, 0, 0, 1, 0, []),
  (887, .aload_n 1, 1, 0, 0, 0, [])]
theorem zk300_8 : zchk RL cL_law 4 true (some .boolean) zc300_8 [0, 0, 0, 0, 0, 0, 0, 0, 0, 0, 0, 0, 0, 0, 3046, 0, 0, 0, 0, 0, 0, 0, 0, 0, 0, 0, 0, 0, 0, 0, 0, 5156, 0, 0, 0, 0, 0, 0, 0, 0, 0, 3054, 0, 0, 0, 0, 0, 0, 5160, 0, 0, 0, 0, 3058, 0, 5164, 0, 0, 0, 0] = true := by decide +kernel
def zc300_9 : List zE := [(888, .aload_n 0, 0, 0, 0, 0, []),
  (889, .iload_n 3, 3, 0, 0, 0, []),
  (890, .iconst 1, 0, 0, 0, 1, []),
  (891, .iadd, 0, 0, 0, 0, []),
  (892, .iaload, 0, 0, 0, 0, []),
  (893, .aload_n 0, 0, 0, 0, 0, []),
  (894, .iload_n 3, 3, 0, 0, 0, []),
  (895, .iconst 2, 0, 0, 0, 2, []),
  (896, .iadd, 0, 0, 0, 0, []),
  (897, .iaload, 0, 0, 0, 0, []),
  (898, .invokevirtual 117, 84, 2, 6, 0, []),
  (901, .aload_n 2, 2, 0, 0, 0, []),
  (902, .aload_n 0, 0, 0, 0, 0, []),
  (903, .iload_n 3, 3, 0, 0, 0, []),
  (904, .iconst 1, 0, 0, 0, 1, []),
  (905, .iadd, 0, 0, 0, 0, []),
  (906, .iaload, 0, 0, 0, 0, []),
  (907, .aload_n 0, 0, 0, 0, 0, []),
  (908, .iload_n 3, 3, 0, 0, 0, []),
  (909, .iconst 2, 0, 0, 0, 2, []),
  (910, .iadd, 0, 0, 0, 0, []),
  (911, .iaload, 0, 0, 0, 0, []),
  (912, .invokevirtual 120, 178, 2, 7, 0, []),
  (915, .if_icmp .eq 460, 1375, 0, 0, 0, []),
  (918, .iconst 0, 0, 0, 0, 0, []),
  (919, .ireturn, 0, 0, 1, 0, []),
  (920, .aload_n 1, 1, 0, 0, 0, []),
  (921, .aload_n 0, 0, 0, 0, 0, []),
  (922, .iload_n 3, 3, 0, 0, 0, []),
  (923, .iconst 1, 0, 0, 0, 1, []),
  (924, .iadd, 0, 0, 0, 0, []),
  (925, .iaload, 0, 0, 0, 0, []),
  (926, .invokevirtual 121, 85, 1, 6, 0, []),
  (929, .aload_n 2, 2, 0, 0, 0, []),
  (930, .aload_n 0, 0, 0, 0, 0, []),
  (931, .iload_n 3, 3, 0, 0, 0, []),
  (932, .iconst 1, 0, 0, 0, 1, []),
  (933, .iadd, 0, 0, 0, 0, []),
  (934, .iaload, 0, 0, 0, 0, []),
  (935, .invokevirtual 124, 180, 1, 7, 0, []),
  (938, .if_icmp .eq 437, 1375, 0, 0, 0, []),
  (941, .iconst 0, 0, 0, 0, 0, []),
  (942, .ireturn, 0, 0, 1, 0, []),
  (943, .aload_n 1, 1, 0, 0, 0, []),
  (944, .aload_n 0, 0, 0, 0, 0, []),
  (945, .iload_n 3, 3, 0, 0, 0, []),
  (946, .iconst 1, 0, 0, 0, 1, []),
  (947, .iadd, 0, 0, 0, 0, []),
  (948, .iaload, 0, 0, 0, 0, []),
  (949, .aload_n 0, 0, 0, 0, 0, []),
  (950, .iload_n 3, 3, 0, 0, 0, []),
  (951, .iconst 2, 0, 0, 0, 2, []),
  (952, .iadd, 0, 0, 0, 0, []),
  (953, .iaload, 0, 0, 0, 0, []),
  (954, .aload_n 0, 0, 0, 0, 0, []),
  (955, .iload_n 3, 3, 0, 0, 0, []),
  (956, .iconst 3, 0, 0, 0, 3, []),
  (957, .iadd, 0, 0, 0, 0, []),
  (958, .iaload, 0, 0, 0, 0, []),
  (959, .invokevirtual 125, 86, 3, 6, 0, [])]
theorem zk300_9 : zchk RL cL_law 4 true (some .boolean) zc300_9 [0, 0, 0, 0, 0, 0, 0, 0, 0, 0, 3203, 0, 0, 0, 0, 0, 0, 0, 0, 0, 0, 0, 5231, 0, 0, 0, 0, 0, 0, 0, 0, 0, 3207, 0, 0, 0, 0, 0, 0, 5239, 0, 0, 0, 0, 0, 0, 0, 0, 0, 0, 0, 0, 0, 0, 0, 0, 0, 0, 0, 3211] = true := by decide +kernel
def zc300_10 : List zE := [(962, .aload_n 2, 2, 0, 0, 0, []),
  (963, .aload_n 0, 0, 0, 0, 0, []),
  (964, .iload_n 3, 3, 0, 0, 0, []),
  (965, .iconst 1, 0, 0, 0, 1, []),
  (966, .iadd, 0, 0, 0, 0, []),
  (967, .iaload, 0, 0, 0, 0, []),
  (968, .aload_n 0, 0, 0, 0, 0, []),
  (969, .iload_n 3, 3, 0, 0, 0, []),
  (970, .iconst 2, 0, 0, 0, 2, []),
  (971, .iadd, 0, 0, 0, 0, []),
  (972, .iaload, 0, 0, 0, 0, []),
  (973, .aload_n 0, 0, 0, 0, 0, []),
  (974, .iload_n 3, 3, 0, 0, 0, []),
  (975, .iconst 3, 0, 0, 0, 3, []),
  (976, .iadd, 0, 0, 0, 0, []),
  (977, .iaload, 0, 0, 0, 0, []),
  (978, .invokevirtual 128, 184, 3, 7, 0, []),
  (981, .if_icmp .eq 394, 1375, 0, 0, 0, []),
  (984, .iconst 0, 0, 0, 0, 0, []),
  (985, .ireturn, 0, 0, 1, 0, []),
  (986, .aload_n 1, 1, 0, 0, 0, []),
  (987, .aload_n 0, 0, 0, 0, 0, []),
  (988, .iload_n 3, 3, 0, 0, 0, []),
  (989, .iconst 1, 0, 0, 0, 1, []),
  (990, .iadd, 0, 0, 0, 0, []),
  (991, .iaload, 0, 0, 0, 0, []),
  (992, .aload_n 0, 0, 0, 0, 0, []),
  (993, .iload_n 3, 3, 0, 0, 0, []),
  (994, .iconst 2, 0, 0, 0, 2, []),
  (995, .iadd, 0, 0, 0, 0, []),
  (996, .iaload, 0, 0, 0, 0, []),
  (997, .aload_n 0, 0, 0, 0, 0, []),
  (998, .iload_n 3, 3, 0, 0, 0, []),
  (999, .iconst 3, 0, 0, 0, 3, []),
  (1000, .iadd, 0, 0, 0, 0, []),
  (1001, .iaload, 0, 0, 0, 0, []),
  (1002, .invokevirtual 129, 87, 3, 6, 0, []),
  (1005, .aload_n 2, 2, 0, 0, 0, []),
  (1006, .aload_n 0, 0, 0, 0, 0, []),
  (1007, .iload_n 3, 3, 0, 0, 0, []),
  (1008, .iconst 1, 0, 0, 0, 1, []),
  (1009, .iadd, 0, 0, 0, 0, []),
  (1010, .iaload, 0, 0, 0, 0, []),
  (1011, .aload_n 0, 0, 0, 0, 0, []),
  (1012, .iload_n 3, 3, 0, 0, 0, []),
  (1013, .iconst 2, 0, 0, 0, 2, []),
  (1014, .iadd, 0, 0, 0, 0, []),
  (1015, .iaload, 0, 0, 0, 0, []),
  (1016, .aload_n 0, 0, 0, 0, 0, []),
  (1017, .iload_n 3, 3, 0, 0, 0, []),
  (1018, .iconst 3, 0, 0, 0, 3, []),
  (1019, .iadd, 0, 0, 0, 0, []),
  (1020, .iaload, 0, 0, 0, 0, []),
  (1021, .invokevirtual 132, 185, 3, 7, 0, []),
  (1024, .if_icmp .eq 351, 1375, 0, 0, 0, []),
  (1027, .iconst 0, 0, 0, 0, 0, []),
  (1028, .ireturn, 0, 0, 1, 0, []),
  (1029, .aload_n 1, 1, 0, 0, 0, []),
  (1030, .aload_n 0, 0, 0, 0, 0, []),
  (1031, .iload_n 3, 3, 0, 0, 0, [])]
theorem zk300_10 : zchk RL cL_law 4 true (some .boolean) zc300_10 [0, 0, 0, 0, 0, 0, 0, 0, 0, 0, 0, 0, 0, 0, 0, 0, 6004, 0, 0, 0, 0, 0, 0, 0, 0, 0, 0, 0, 0, 0, 0, 0, 0, 0, 0, 0, 3221, 0, 0, 0, 0, 0, 0, 0, 0, 0, 0, 0, 0, 0, 0, 0, 0, 6013, 0, 0, 0, 0, 0, 0] = true := by decide +kernel
def zc300_11 : List zE := [(1032, .iconst 1, 0, 0, 0, 1, []),
  (1033, .iadd, 0, 0, 0, 0, []),
  (1034, .iaload, 0, 0, 0, 0, []),
  (1035, .invokevirtual 133, 88, 1, 6, 0, []),
  (1038, .aload_n 2, 2, 0, 0, 0, []),
  (1039, .aload_n 0, 0, 0, 0, 0, []),
  (1040, .iload_n 3, 3, 0, 0, 0, []),
  (1041, .iconst 1, 0, 0, 0, 1, []),
  (1042, .iadd, 0, 0, 0, 0, []),
  (1043, .iaload, 0, 0, 0, 0, []),
  (1044, .invokevirtual 136, 186, 1, 7, 0, []),
  (1047, .if_icmp .eq 328, 1375, 0, 0, 0, []),
  (1050, .iconst 0, 0, 0, 0, 0, []),
  (1051, .ireturn, 0, 0, 1, 0, []),
  (1052, .aload_n 1, 1, 0, 0, 0, []),
  (1053, .aload_n 0, 0, 0, 0, 0, []),
  (1054, .iload_n 3, 3, 0, 0, 0, []),
  (1055, .iconst 1, 0, 0, 0, 1, []),
  (1056, .iadd, 0, 0, 0, 0, []),
  (1057, .iaload, 0, 0, 0, 0, []),
  (1058, .invokevirtual 137, 89, 1, 6, 0, []),
  (1061, .aload_n 2, 2, 0, 0, 0, []),
  (1062, .aload_n 0, 0, 0, 0, 0, []),
  (1063, .iload_n 3, 3, 0, 0, 0, []),
  (1064, .iconst 1, 0, 0, 0, 1, []),
  (1065, .iadd, 0, 0, 0, 0, []),
  (1066, .iaload, 0, 0, 0, 0, []),
  (1067, .invokevirtual 140, 187, 1, 7, 0, []),
  (1070, .if_icmp .eq 305, 1375, 0, 0, 0, []),
  (1073, .iconst 0, 0, 0, 0, 0, []),
  (1074, .ireturn, 0, 0, 1, 0, []),
  (1075, .aload_n 1, 1, 0, 0, 0, []),
  (1076, .aload_n 0, 0, 0, 0, 0, []),
  (1077, .iload_n 3, 3, 0, 0, 0, []),
  (1078, .iconst 1, 0, 0, 0, 1, []),
  (1079, .iadd, 0, 0, 0, 0, []),
  (1080, .iaload, 0, 0, 0, 0, []),
  (1081, .aload_n 0, 0, 0, 0, 0, []),
  (1082, .iload_n 3, 3, 0, 0, 0, []),
  (1083, .iconst 2, 0, 0, 0, 2, []),
  (1084, .iadd, 0, 0, 0, 0, []),
  (1085, .iaload, 0, 0, 0, 0, []),
  (1086, .aload_n 0, 0, 0, 0, 0, []),
  (1087, .iload_n 3, 3, 0, 0, 0, []),
  (1088, .iconst 3, 0, 0, 0, 3, []),
  (1089, .iadd, 0, 0, 0, 0, []),
  (1090, .iaload, 0, 0, 0, 0, []),
  (1091, .aload_n 0, 0, 0, 0, 0, []),
  (1092, .iload_n 3, 3, 0, 0, 0, []),
  (1093, .iconst 4, 0, 0, 0, 4, []),
  (1094, .iadd, 0, 0, 0, 0, []),
  (1095, .iaload, 0, 0, 0, 0, []),
  (1096, .aload_n 0, 0, 0, 0, 0, []),
  (1097, .iload_n 3, 3, 0, 0, 0, []),
  (1098, .iconst 5, 0, 0, 0, 5, []),
  (1099, .iadd, 0, 0, 0, 0, []),
  (1100, .iaload, 0, 0, 0, 0, []),
  (1101, .invokevirtual 141, 90, 5, 6, 0, []),
  (1104, .aload_n 2, 2, 0, 0, 0, []),
  (1105, .aload_n 0, 0, 0, 0, 0, [])]
theorem zk300_11 : zchk RL cL_law 4 true (some .boolean) zc300_11 [0, 0, 0, 3230, 0, 0, 0, 0, 0, 0, 6021, 0, 0, 0, 0, 0, 0, 0, 0, 0, 3235, 0, 0, 0, 0, 0, 0, 6025, 0, 0, 0, 0, 0, 0, 0, 0, 0, 0, 0, 0, 0, 0, 0, 0, 0, 0, 0, 0, 0, 0, 0, 0, 0, 0, 0, 0, 0, 3239, 0, 0] = true := by decide +kernel
def zc300_12 : List zE := [(1106, .iload_n 3, 3, 0, 0, 0, []),
  (1107, .iconst 1, 0, 0, 0, 1, []),
  (1108, .iadd, 0, 0, 0, 0, []),
  (1109, .iaload, 0, 0, 0, 0, []),
  (1110, .aload_n 0, 0, 0, 0, 0, []),
  (1111, .iload_n 3, 3, 0, 0, 0, []),
  (1112, .iconst 2, 0, 0, 0, 2, []),
  (1113, .iadd, 0, 0, 0, 0, []),
  (1114, .iaload, 0, 0, 0, 0, []),
  (1115, .aload_n 0, 0, 0, 0, 0, []),
  (1116, .iload_n 3, 3, 0, 0, 0, []),
  (1117, .iconst 3, 0, 0, 0, 3, []),
  (1118, .iadd, 0, 0, 0, 0, []),
  (1119, .iaload, 0, 0, 0, 0, []),
  (1120, .aload_n 0, 0, 0, 0, 0, []),
  (1121, .iload_n 3, 3, 0, 0, 0, []),
  (1122, .iconst 4, 0, 0, 0, 4, []),
  (1123, .iadd, 0, 0, 0, 0, []),
  (1124, .iaload, 0, 0, 0, 0, []),
  (1125, .aload_n 0, 0, 0, 0, 0, []),
  (1126, .iload_n 3, 3, 0, 0, 0, []),
  (1127, .iconst 5, 0, 0, 0, 5, []),
  (1128, .iadd, 0, 0, 0, 0, []),
  (1129, .iaload, 0, 0, 0, 0, []),
  (1130, .invokevirtual 145, 189, 5, 7, 0, []),
  (1133, .if_icmp .eq 242, 1375, 0, 0, 0, []),
  (1136, .iconst 0, 0, 0, 0, 0, []),
  (1137, .ireturn, 0, 0, 1, 0, []),
  (1138, .aload_n 1, 1, 0, 0, 0, []),
  (1139, .aload_n 0, 0, 0, 0, 0, []),
  (1140, .iload_n 3, 3, 0, 0, 0, []),
  (1141, .iconst 1, 0, 0, 0, 1, []),
  (1142, .iadd, 0, 0, 0, 0, []),
  (1143, .iaload, 0, 0, 0, 0, []),
  (1144, .aload_n 0, 0, 0, 0, 0, []),
  (1145, .iload_n 3, 3, 0, 0, 0, []),
  (1146, .iconst 2, 0, 0, 0, 2, []),
  (1147, .iadd, 0, 0, 0, 0, []),
  (1148, .iaload, 0, 0, 0, 0, []),
  (1149, .aload_n 0, 0, 0, 0, 0, []),
  (1150, .iload_n 3, 3, 0, 0, 0, []),
  (1151, .iconst 3, 0, 0, 0, 3, []),
  (1152, .iadd, 0, 0, 0, 0, []),
  (1153, .iaload, 0, 0, 0, 0, []),
  (1154, .invokevirtual 146, 91, 3, 6, 0, []),
  (1157, .aload_n 2, 2, 0, 0, 0, []),
  (1158, .aload_n 0, 0, 0, 0, 0, []),
  (1159, .iload_n 3, 3, 0, 0, 0, []),
  (1160, .iconst 1, 0, 0, 0, 1, []),
  (1161, .iadd, 0, 0, 0, 0, []),
  (1162, .iaload, 0, 0, 0, 0, []),
  (1163, .aload_n 0, 0, 0, 0, 0, []),
  (1164, .iload_n 3, 3, 0, 0, 0, []),
  (1165, .iconst 2, 0, 0, 0, 2, []),
  (1166, .iadd, 0, 0, 0, 0, []),
  (1167, .iaload, 0, 0, 0, 0, []),
  (1168, .aload_n 0, 0, 0, 0, 0, []),
  (1169, .iload_n 3, 3, 0, 0, 0, []),
  (1170, .iconst 3, 0, 0, 0, 3, []),
  (1171, .iadd, 0, 0, 0, 0, [])]
theorem zk300_12 : zchk RL cL_law 4 true (some .boolean) zc300_12 [0, 0, 0, 0, 0, 0, 0, 0, 0, 0, 0, 0, 0, 0, 0, 0, 0, 0, 0, 0, 0, 0, 0, 0, 6033, 0, 0, 0, 0, 0, 0, 0, 0, 0, 0, 0, 0, 0, 0, 0, 0, 0, 0, 0, 4008, 0, 0, 0, 0, 0, 0, 0, 0, 0, 0, 0, 0, 0, 0, 0] = true := by decide +kernel
def zc300_13 : List zE := [(1172, .iaload, 0, 0, 0, 0, []),
  (1173, .invokevirtual 149, 191, 3, 7, 0, []),
  (1176, .if_icmp .eq 199, 1375, 0, 0, 0, []),
  (1179, .iconst 0, 0, 0, 0, 0, []),
  (1180, .ireturn, 0, 0, 1, 0, []),
  (1181, .aload_n 1, 1, 0, 0, 0, []),
  (1182, .aload_n 0, 0, 0, 0, 0, []),
  (1183, .iload_n 3, 3, 0, 0, 0, []),
  (1184, .iconst 1, 0, 0, 0, 1, []),
  (1185, .iadd, 0, 0, 0, 0, []),
  (1186, .iaload, 0, 0, 0, 0, []),
  (1187, .aload_n 0, 0, 0, 0, 0, []),
  (1188, .iload_n 3, 3, 0, 0, 0, []),
  (1189, .iconst 2, 0, 0, 0, 2, []),
  (1190, .iadd, 0, 0, 0, 0, []),
  (1191, .iaload, 0, 0, 0, 0, []),
  (1192, .invokevirtual 150, 92, 2, 6, 0, []),
  (1195, .aload_n 2, 2, 0, 0, 0, []),
  (1196, .aload_n 0, 0, 0, 0, 0, []),
  (1197, .iload_n 3, 3, 0, 0, 0, []),
  (1198, .iconst 1, 0, 0, 0, 1, []),
  (1199, .iadd, 0, 0, 0, 0, []),
  (1200, .iaload, 0, 0, 0, 0, []),
  (1201, .aload_n 0, 0, 0, 0, 0, []),
  (1202, .iload_n 3, 3, 0, 0, 0, []),
  (1203, .iconst 2, 0, 0, 0, 2, []),
  (1204, .iadd, 0, 0, 0, 0, []),
  (1205, .iaload, 0, 0, 0, 0, []),
  (1206, .invokevirtual 153, 192, 2, 7, 0, []),
  (1209, .if_icmp .eq 166, 1375, 0, 0, 0, []),
  (1212, .iconst 0, 0, 0, 0, 0, []),
  (1213, .ireturn, 0, 0, 1, 0, []),
  (1214, .aload_n 1, 1, 0, 0, 0, []),
  (1215, .aload_n 0, 0, 0, 0, 0, []),
  (1216, .iload_n 3, 3, 0, 0, 0, []),
  (1217, .iconst 1, 0, 0, 0, 1, []),
  (1218, .iadd, 0, 0, 0, 0, []),
  (1219, .iaload, 0, 0, 0, 0, []),
  (1220, .aload_n 0, 0, 0, 0, 0, []),
  (1221, .iload_n 3, 3, 0, 0, 0, []),
  (1222, .iconst 2, 0, 0, 0, 2, []),
  (1223, .iadd, 0, 0, 0, 0, []),
  (1224, .iaload, 0, 0, 0, 0, []),
  (1225, .invokevirtual 154, 93, 2, 6, 0, []),
  (1228, .aload_n 2, 2, 0, 0, 0, []),
  (1229, .aload_n 0, 0, 0, 0, 0, []),
  (1230, .iload_n 3, 3, 0, 0, 0, []),
  (1231, .iconst 1, 0, 0, 0, 1, []),
  (1232, .iadd, 0, 0, 0, 0, []),
  (1233, .iaload, 0, 0, 0, 0, []),
  (1234, .aload_n 0, 0, 0, 0, 0, []),
  (1235, .iload_n 3, 3, 0, 0, 0, []),
  (1236, .iconst 2, 0, 0, 0, 2, []),
  (1237, .iadd, 0, 0, 0, 0, []),
  (1238, .iaload, 0, 0, 0, 0, []),
  (1239, .invokevirtual 157, 193, 2, 7, 0, []),
  (1242, .if_icmp .eq 133, 1375, 0, 0, 0, []),
  (1245, .iconst 0, 0, 0, 0, 0, []),
  (1246, .ireturn, 0, 0, 1, 0, []),
  (1247, .aload_n 1, 1, 0, 0, 0, [])]
theorem zk300_13 : zchk RL cL_law 4 true (some .boolean) zc300_13 [0, 6037, 0, 0, 0, 0, 0, 0, 0, 0, 0, 0, 0, 0, 0, 0, 4021, 0, 0, 0, 0, 0, 0, 0, 0, 0, 0, 0, 6044, 0, 0, 0, 0, 0, 0, 0, 0, 0, 0, 0, 0, 0, 0, 4025, 0, 0, 0, 0, 0, 0, 0, 0, 0, 0, 0, 6048, 0, 0, 0, 0] = true := by decide +kernel
def zc300_14 : List zE := [(1248, .aload_n 0, 0, 0, 0, 0, []),
  (1249, .iload_n 3, 3, 0, 0, 0, []),
  (1250, .iconst 1, 0, 0, 0, 1, []),
  (1251, .iadd, 0, 0, 0, 0, []),
  (1252, .iaload, 0, 0, 0, 0, []),
  (1253, .aload_n 0, 0, 0, 0, 0, []),
  (1254, .iload_n 3, 3, 0, 0, 0, []),
  (1255, .iconst 2, 0, 0, 0, 2, []),
  (1256, .iadd, 0, 0, 0, 0, []),
  (1257, .iaload, 0, 0, 0, 0, []),
  (1258, .invokevirtual 158, 94, 2, 6, 0, []),
  (1261, .aload_n 2, 2, 0, 0, 0, []),
  (1262, .aload_n 0, 0, 0, 0, 0, []),
  (1263, .iload_n 3, 3, 0, 0, 0, []),
  (1264, .iconst 1, 0, 0, 0, 1, []),
  (1265, .iadd, 0, 0, 0, 0, []),
  (1266, .iaload, 0, 0, 0, 0, []),
  (1267, .aload_n 0, 0, 0, 0, 0, []),
  (1268, .iload_n 3, 3, 0, 0, 0, []),
  (1269, .iconst 2, 0, 0, 0, 2, []),
  (1270, .iadd, 0, 0, 0, 0, []),
  (1271, .iaload, 0, 0, 0, 0, []),
  (1272, .invokevirtual 161, 194, 2, 7, 0, []),
  (1275, .if_icmp .eq 100, 1375, 0, 0, 0, []),
  (1278, .iconst 0, 0, 0, 0, 0, []),
  (1279, .ireturn, 0, 0, 1, 0, []),
  (1280, .aload_n 1, 1, 0, 0, 0, []),
  (1281, .aload_n 0, 0, 0, 0, 0, []),
  (1282, .iload_n 3, 3, 0, 0, 0, []),
  (1283, .iconst 1, 0, 0, 0, 1, []),
  (1284, .iadd, 0, 0, 0, 0, []),
  (1285, .iaload, 0, 0, 0, 0, []),
  (1286, .invokevirtual 162, 97, 1, 6, 0, []),
  (1289, .aload_n 2, 2, 0, 0, 0, []),
  (1290, .aload_n 0, 0, 0, 0, 0, []),
  (1291, .iload_n 3, 3, 0, 0, 0, []),
  (1292, .iconst 1, 0, 0, 0, 1, []),
  (1293, .iadd, 0, 0, 0, 0, []),
  (1294, .iaload, 0, 0, 0, 0, []),
  (1295, .invokevirtual 165, 195, 1, 7, 0, []),
  (1298, .if_icmp .eq 77, 1375, 0, 0, 0, []),
  (1301, .iconst 0, 0, 0, 0, 0, []),
  (1302, .ireturn, 0, 0, 1, 0, []),
  (1303, .aload_n 1, 1, 0, 0, 0, []),
  (1304, .aload_n 0, 0, 0, 0, 0, []),
  (1305, .iload_n 3, 3, 0, 0, 0, []),
  (1306, .iconst 1, 0, 0, 0, 1, []),
  (1307, .iadd, 0, 0, 0, 0, []),
  (1308, .iaload, 0, 0, 0, 0, []),
  (1309, .invokevirtual 166, 98, 1, 6, 0, []),
  (1312, .aload_n 2, 2, 0, 0, 0, []),
  (1313, .aload_n 0, 0, 0, 0, 0, []),
  (1314, .iload_n 3, 3, 0, 0, 0, []),
  (1315, .iconst 1, 0, 0, 0, 1, []),
  (1316, .iadd, 0, 0, 0, 0, []),
  (1317, .iaload, 0, 0, 0, 0, []),
  (1318, .invokevirtual 169, 197, 1, 7, 0, []),
  (1321, .if_icmp .eq 54, 1375, 0, 0, 0, []),
  (1324, .iconst 0, 0, 0, 0, 0, []),
  (1325, .ireturn, 0, 0, 1, 0, [])]
theorem zk300_14 : zchk RL cL_law 4 true (some .boolean) zc300_14 [0, 0, 0, 0, 0, 0, 0, 0, 0, 0, 4029, 0, 0, 0, 0, 0, 0, 0, 0, 0, 0, 0, 6052, 0, 0, 0, 0, 0, 0, 0, 0, 0, 4034, 0, 0, 0, 0, 0, 0, 6057, 0, 0, 0, 0, 0, 0, 0, 0, 0, 4038, 0, 0, 0, 0, 0, 0, 6061, 0, 0, 0] = true := by decide +kernel
def zc300_15 : List zE := [(1326, .aload_n 1, 1, 0, 0, 0, []),
  (1327, .invokevirtual 170, 100, 0, 6, 0, []),
  (1330, .aload_n 2, 2, 0, 0, 0, []),
  (1331, .invokevirtual 173, 198, 0, 7, 0, []),
  (1334, .if_icmp .eq 41, 1375, 0, 0, 0, []),
  (1337, .iconst 0, 0, 0, 0, 0, []),
  (1338, .ireturn, 0, 0, 1, 0, []),
  (1339, .aload_n 1, 1, 0, 0, 0, []),
  (1340, .invokevirtual 174, 101, 0, 6, 0, []),
  (1343, .aload_n 2, 2, 0, 0, 0, []),
  (1344, .invokevirtual 177, 199, 0, 7, 0, []),
  (1347, .if_icmp .eq 28, 1375, 0, 0, 0, []),
  (1350, .iconst 0, 0, 0, 0, 0, []),
  (1351, .ireturn, 0, 0, 1, 0, []),
  (1352, .aload_n 1, 1, 0, 0, 0, []),
  (1353, .aload_n 0, 0, 0, 0, 0, []),
  (1354, .iload_n 3, 3, 0, 0, 0, []),
  (1355, .iconst 1, 0, 0, 0, 1, []),
  (1356, .iadd, 0, 0, 0, 0, []),
  (1357, .iaload, 0, 0, 0, 0, []),
  (1358, .invokevirtual 178, 102, 1, 6, 0, []),
  (1361, .aload_n 2, 2, 0, 0, 0, []),
  (1362, .aload_n 0, 0, 0, 0, 0, []),
  (1363, .iload_n 3, 3, 0, 0, 0, []),
  (1364, .iconst 1, 0, 0, 0, 1, []),
  (1365, .iadd, 0, 0, 0, 0, []),
  (1366, .iaload, 0, 0, 0, 0, []),
  (1367, .invokevirtual 181, 200, 1, 7, 0, []),
  (1370, .if_icmp .eq 5, 1375, 0, 0, 0, []),
  (1373, .iconst 0, 0, 0, 0, 0, []),
  (1374, .ireturn, 0, 0, 1, 0, []),
  (1375, .iinc 3 6, 3, 0, 0, 6, []),
  (1378, .goto (-1360), 18, 0, 0, 0, []),
  (1381, .iconst 1, 0, 0, 0, 1, []),
  (1382, .ireturn, 0, 0, 1, 0, [])]
theorem zk300_15 : zchk RL cL_law 4 true (some .boolean) zc300_15 [0, 4046, 0, 6070, 0, 0, 0, 0, 4050, 0, 6074, 0, 0, 0, 0, 0, 0, 0, 0, 0, 4054, 0, 0, 0, 0, 0, 0, 6078, 0, 0, 0, 0, 0, 0, 0] = true := by decide +kernel
def zc300 : List zE := zc300_0 ++ (zc300_1 ++ (zc300_2 ++ (zc300_3 ++ (zc300_4 ++ (zc300_5 ++ (zc300_6 ++ (zc300_7 ++ (zc300_8 ++ (zc300_9 ++ (zc300_10 ++ (zc300_11 ++ (zc300_12 ++ (zc300_13 ++ (zc300_14 ++ (zc300_15)))))))))))))))
end
section
/-! all code tables in one; methods by number (300: the law) -/
def zcA0 : List (List zE) := [zc0, zc1, zc2, zc3, zc4, zc5, zc6, zc7, zc8, zc9, zc10, zc11, zc12, zc13, zc14, zc15, zc16, zc17, zc18, zc19]
def zcA1 : List (List zE) := [zc20, zc21, zc22, zc23, zc24, zc25, zc26, zc27, zc28, zc29, zc30, zc31, zc32, zc33, zc34, zc35, zc36, zc37, zc38, zc39]
def zcA2 : List (List zE) := [zc40, zc41, zc42, zc43, zc44, zc45, zc46, zc47, zc48, zc49, zc50, zc51, zc52, zc53, zc54, zc55, zc56, zc57, zc58, zc59]
def zcA3 : List (List zE) := [zc60, zc61, zc62, zc63, zc64, zc65, zc66, zc67, zc68, zc69, zc70, zc71, zc72, zc73, zc74, zc75, zc76, zc77, zc78, zc79]
def zcA4 : List (List zE) := [zc80, zc81, zc82, zc83, zc84, zc85, zc86, zc87, zc88, zc89, zc90, zc91, zc92, zc93, zc94, zc95, zc96, zc97, zc98, zc99]
def zcA5 : List (List zE) := [zc100, zc101, zc102, zc103, zc104, zc105, zc106, zc107, zc108, zc109, zc110, zc111, zc112, zc113, zc114, zc115, zc116, zc117, zc118, zc119]
def zcA6 : List (List zE) := [zc120, zc121, zc122, zc123, zc124, zc125, zc126, zc127, zc128, zc129, zc130, zc131, zc132, zc133, zc134, zc135, zc136, zc137, zc138, zc139]
def zcA7 : List (List zE) := [zc140, zc141, zc142, zc143, zc144, zc145, zc146, zc147, zc148, zc149, zc150, zc151, zc152, zc153, zc154, zc155, zc156, zc157, zc158, zc159]
def zcA8 : List (List zE) := [zc160, zc161, zc162, zc163, zc164, zc165, zc166, zc167, zc168, zc169, zc170, zc171, zc172, zc173, zc174, zc175, zc176, zc177, zc178, zc179]
def zcA9 : List (List zE) := [zc180, zc181, zc182, zc183, zc184, zc185, zc186, zc187, zc188, zc189, zc190, zc191, zc192, zc193, zc194, zc195, zc196, zc197, zc198, zc199]
def zcA10 : List (List zE) := [zc200, zc201]
def zcq (y : Nat) : List zE := (([zcA0, zcA1, zcA2, zcA3, zcA4, zcA5, zcA6, zcA7, zcA8, zcA9, zcA10] : List (List (List zE))).getD (y / 20) []).getD (y % 20) []
/-- looking an entry up -/
def zfind (pc : Nat) : List zE → Option zE
  | [] => none
  | e :: l => if Nat.beq e.1 pc = true then some e else zfind pc l
def zcod (y pc : Nat) : Option zE := if Nat.beq y 300 = true then zfind pc zc300 else zfind pc (zcq y)
theorem zyT_len : zyT.length = 202 := by decide +kernel
theorem zfind_in {pc : Nat} {e : zE} : ∀ {l : List zE}, zfind pc l = some e → e ∈ l ∧ e.1 = pc
  | [], h => by cases h
  | a :: l, h => by
    unfold zfind at h
    split at h
    · rename_i q; cases h; exact ⟨List.mem_cons_self, Nat.eq_of_beq_eq_true q⟩
    · obtain ⟨h1, h2⟩ := zfind_in h; exact ⟨List.mem_cons_of_mem _ h1, h2⟩
theorem zchk_at {own : String} {cc : ByteArray} {nL : Nat} {nol : Bool} {rk : Option FieldType} : ∀ {l : List zE} {us : List Nat}, zchk own cc nL nol rk l us = true → ∀ e ∈ l, decode cc e.1 = .ok (e.2.1, zlen e.2.1 e.2.2.2.1) ∧ ∃ u, zlk own nL nol rk u e = true
  | [], _, _, e, he => by cases he
  | a :: l, [], h, e, he => by cases h
  | a :: l, u :: us, h, e, he => by
    simp only [zchk, Bool.and_eq_true, decide_eq_true_eq] at h
    rcases List.mem_cons.mp he with rfl | he
    · exact ⟨h.1.1, u, h.1.2⟩
    · exact zchk_at h.2 e he
theorem zmoks_at : ∀ {us : List (Nat × Nat × Nat × Nat)} {l : List (MethodName × ByteArray × Nat × Option FieldType × Nat × Bool)}, zmoks us l = true → ∀ q ∈ l, ∃ u, zmok u q = true
  | _, [], _, q, hq => by cases hq
  | [], _ :: _, h, q, hq => by cases h
  | u :: us, a :: l, h, q, hq => by
    simp only [zmoks, Bool.and_eq_true] at h
    rcases List.mem_cons.mp hq with rfl | hq
    · exact ⟨u, h.1⟩
    · exact zmoks_at h.2 q hq
theorem zmok_all : ∀ q ∈ zyT, ∃ u, zmok u q = true := by
  intro q hq
  unfold zyT at hq
  simp only [List.mem_append] at hq
  rcases hq with ((((((h | h) | h) | h) | h) | h) | h) | h
  · exact zmoks_at zmok_0 q h
  · exact zmoks_at zmok_1 q h
  · exact zmoks_at zmok_2 q h
  · exact zmoks_at zmok_3 q h
  · exact zmoks_at zmok_4 q h
  · exact zmoks_at zmok_5 q h
  · exact zmoks_at zmok_6 q h
  · exact zmoks_at zmok_7 q h
/-- the table of a method fits the method: its own class, bytes, locals, long arguments or none, result -/
def zfit0 (own : String) (cc : ByteArray) (nL : Nat) (nol : Bool) (rk : Option FieldType) (l : List zE) : Prop := ∀ e ∈ l, decode cc e.1 = .ok (e.2.1, zlen e.2.1 e.2.2.2.1) ∧ ∃ u, zlk own nL nol rk u e = true
theorem zfit0_app {own : String} {cc : ByteArray} {nL : Nat} {nol : Bool} {rk : Option FieldType} {l1 l2 : List zE} (h1 : zfit0 own cc nL nol rk l1) (h2 : zfit0 own cc nL nol rk l2) : zfit0 own cc nL nol rk (l1 ++ l2) := fun e he => (List.mem_append.mp he).elim (h1 e) (h2 e)
def zfit (y : Nat) (l : List zE) : Prop := ∃ nol : Bool, (nol = true → y ≠ 106) ∧ zfit0 (zyN y).cls (zyB y) (zyL y) nol (zyQ y) l
theorem zft0 : ∀ i, i < 20 → zfit (0 + i) (zcA0.getD i []) := by
  intro i hi
  match i, hi with
  | 0, _ => exact ⟨true, (fun _ => by decide), fun e he => zchk_at zk0 e he⟩
  | 1, _ => exact ⟨true, (fun _ => by decide), fun e he => zchk_at zk1 e he⟩
  | 2, _ => exact ⟨true, (fun _ => by decide), fun e he => zchk_at zk2 e he⟩
  | 3, _ => exact ⟨true, (fun _ => by decide), fun e he => zchk_at zk3 e he⟩
  | 4, _ => exact ⟨true, (fun _ => by decide), fun e he => zchk_at zk4 e he⟩
  | 5, _ => exact ⟨true, (fun _ => by decide), fun e he => zchk_at zk5 e he⟩
  | 6, _ => exact ⟨true, (fun _ => by decide), fun e he => zchk_at zk6 e he⟩
  | 7, _ => exact ⟨true, (fun _ => by decide), fun e he => zchk_at zk7 e he⟩
  | 8, _ => exact ⟨true, (fun _ => by decide), fun e he => zchk_at zk8 e he⟩
  | 9, _ => exact ⟨true, (fun _ => by decide), fun e he => zchk_at zk9 e he⟩
  | 10, _ => exact ⟨true, (fun _ => by decide), fun e he => zchk_at zk10 e he⟩
  | 11, _ => exact ⟨true, (fun _ => by decide), fun e he => zchk_at zk11 e he⟩
  | 12, _ => exact ⟨true, (fun _ => by decide), fun e he => zchk_at zk12 e he⟩
  | 13, _ => exact ⟨true, (fun _ => by decide), fun e he => zchk_at zk13 e he⟩
  | 14, _ => exact ⟨true, (fun _ => by decide), fun e he => zchk_at zk14 e he⟩
  | 15, _ => exact ⟨true, (fun _ => by decide), fun e he => zchk_at zk15 e he⟩
  | 16, _ => exact ⟨true, (fun _ => by decide), fun e he => zchk_at zk16 e he⟩
  | 17, _ => exact ⟨true, (fun _ => by decide), fun e he => zchk_at zk17 e he⟩
  | 18, _ => exact ⟨true, (fun _ => by decide), fun e he => zchk_at zk18 e he⟩
  | 19, _ => exact ⟨true, (fun _ => by decide), fun e he => zchk_at zk19 e he⟩
  | k + 20, hi => exact absurd hi (by omega)
theorem zft1 : ∀ i, i < 20 → zfit (20 + i) (zcA1.getD i []) := by
  intro i hi
  match i, hi with
  | 0, _ => exact ⟨true, (fun _ => by decide), fun e he => zchk_at zk20 e he⟩
  | 1, _ => exact ⟨true, (fun _ => by decide), fun e he => zchk_at zk21 e he⟩
  | 2, _ => exact ⟨true, (fun _ => by decide), fun e he => zchk_at zk22 e he⟩
  | 3, _ => exact ⟨true, (fun _ => by decide), fun e he => zchk_at zk23 e he⟩
  | 4, _ => exact ⟨true, (fun _ => by decide), fun e he => zchk_at zk24 e he⟩
  | 5, _ => exact ⟨true, (fun _ => by decide), fun e he => zchk_at zk25 e he⟩
  | 6, _ => exact ⟨true, (fun _ => by decide), fun e he => zchk_at zk26 e he⟩
  | 7, _ => exact ⟨true, (fun _ => by decide), fun e he => zchk_at zk27 e he⟩
  | 8, _ => exact ⟨true, (fun _ => by decide), fun e he => zchk_at zk28 e he⟩
  | 9, _ => exact ⟨true, (fun _ => by decide), fun e he => zchk_at zk29 e he⟩
  | 10, _ => exact ⟨true, (fun _ => by decide), fun e he => zchk_at zk30 e he⟩
  | 11, _ => exact ⟨true, (fun _ => by decide), fun e he => zchk_at zk31 e he⟩
  | 12, _ => exact ⟨true, (fun _ => by decide), fun e he => zchk_at zk32 e he⟩
  | 13, _ => exact ⟨true, (fun _ => by decide), fun e he => zchk_at zk33 e he⟩
  | 14, _ => exact ⟨true, (fun _ => by decide), fun e he => zchk_at zk34 e he⟩
  | 15, _ => exact ⟨true, (fun _ => by decide), fun e he => zchk_at zk35 e he⟩
  | 16, _ => exact ⟨true, (fun _ => by decide), fun e he => zchk_at zk36 e he⟩
  | 17, _ => exact ⟨true, (fun _ => by decide), fun e he => zchk_at zk37 e he⟩
  | 18, _ => exact ⟨true, (fun _ => by decide), fun e he => zchk_at zk38 e he⟩
  | 19, _ => exact ⟨true, (fun _ => by decide), fun e he => zchk_at zk39 e he⟩
  | k + 20, hi => exact absurd hi (by omega)
theorem zft2 : ∀ i, i < 20 → zfit (40 + i) (zcA2.getD i []) := by
  intro i hi
  match i, hi with
  | 0, _ => exact ⟨true, (fun _ => by decide), fun e he => zchk_at zk40 e he⟩
  | 1, _ => exact ⟨true, (fun _ => by decide), fun e he => zchk_at zk41 e he⟩
  | 2, _ => exact ⟨true, (fun _ => by decide), fun e he => zchk_at zk42 e he⟩
  | 3, _ => exact ⟨true, (fun _ => by decide), fun e he => zchk_at zk43 e he⟩
  | 4, _ => exact ⟨true, (fun _ => by decide), fun e he => zchk_at zk44 e he⟩
  | 5, _ => exact ⟨true, (fun _ => by decide), fun e he => zchk_at zk45 e he⟩
  | 6, _ => exact ⟨true, (fun _ => by decide), fun e he => zchk_at zk46 e he⟩
  | 7, _ => exact ⟨true, (fun _ => by decide), fun e he => zchk_at zk47 e he⟩
  | 8, _ => exact ⟨true, (fun _ => by decide), fun e he => zchk_at zk48 e he⟩
  | 9, _ => exact ⟨true, (fun _ => by decide), fun e he => zchk_at zk49 e he⟩
  | 10, _ => exact ⟨true, (fun _ => by decide), fun e he => zchk_at zk50 e he⟩
  | 11, _ => exact ⟨true, (fun _ => by decide), fun e he => zchk_at zk51 e he⟩
  | 12, _ => exact ⟨true, (fun _ => by decide), fun e he => zchk_at zk52 e he⟩
  | 13, _ => exact ⟨true, (fun _ => by decide), fun e he => zchk_at zk53 e he⟩
  | 14, _ => exact ⟨true, (fun _ => by decide), fun e he => zchk_at zk54 e he⟩
  | 15, _ => exact ⟨true, (fun _ => by decide), fun e he => zchk_at zk55 e he⟩
  | 16, _ => exact ⟨true, (fun _ => by decide), fun e he => zchk_at zk56 e he⟩
  | 17, _ => exact ⟨true, (fun _ => by decide), fun e he => zchk_at zk57 e he⟩
  | 18, _ => exact ⟨true, (fun _ => by decide), fun e he => zchk_at zk58 e he⟩
  | 19, _ => exact ⟨true, (fun _ => by decide), fun e he => zchk_at zk59 e he⟩
  | k + 20, hi => exact absurd hi (by omega)
theorem zft3 : ∀ i, i < 20 → zfit (60 + i) (zcA3.getD i []) := by
  intro i hi
  match i, hi with
  | 0, _ => exact ⟨true, (fun _ => by decide), fun e he => zchk_at zk60 e he⟩
  | 1, _ => exact ⟨true, (fun _ => by decide), fun e he => zchk_at zk61 e he⟩
  | 2, _ => exact ⟨true, (fun _ => by decide), fun e he => zchk_at zk62 e he⟩
  | 3, _ => exact ⟨true, (fun _ => by decide), fun e he => zchk_at zk63 e he⟩
  | 4, _ => exact ⟨true, (fun _ => by decide), fun e he => zchk_at zk64 e he⟩
  | 5, _ => exact ⟨true, (fun _ => by decide), fun e he => zchk_at zk65 e he⟩
  | 6, _ => exact ⟨true, (fun _ => by decide), fun e he => zchk_at zk66 e he⟩
  | 7, _ => exact ⟨true, (fun _ => by decide), fun e he => zchk_at zk67 e he⟩
  | 8, _ => exact ⟨true, (fun _ => by decide), fun e he => zchk_at zk68 e he⟩
  | 9, _ => exact ⟨true, (fun _ => by decide), fun e he => zchk_at zk69 e he⟩
  | 10, _ => exact ⟨true, (fun _ => by decide), fun e he => zchk_at zk70 e he⟩
  | 11, _ => exact ⟨true, (fun _ => by decide), fun e he => zchk_at zk71 e he⟩
  | 12, _ => exact ⟨true, (fun _ => by decide), fun e he => zchk_at zk72 e he⟩
  | 13, _ => exact ⟨true, (fun _ => by decide), fun e he => zchk_at zk73 e he⟩
  | 14, _ => exact ⟨true, (fun _ => by decide), fun e he => zchk_at zk74 e he⟩
  | 15, _ => exact ⟨true, (fun _ => by decide), fun e he => zchk_at zk75 e he⟩
  | 16, _ => exact ⟨true, (fun _ => by decide), fun e he => zchk_at zk76 e he⟩
  | 17, _ => exact ⟨true, (fun _ => by decide), fun e he => zchk_at zk77 e he⟩
  | 18, _ => exact ⟨true, (fun _ => by decide), fun e he => zchk_at zk78 e he⟩
  | 19, _ => exact ⟨true, (fun _ => by decide), fun e he => zchk_at zk79 e he⟩
  | k + 20, hi => exact absurd hi (by omega)
theorem zft4 : ∀ i, i < 20 → zfit (80 + i) (zcA4.getD i []) := by
  intro i hi
  match i, hi with
  | 0, _ => exact ⟨true, (fun _ => by decide), fun e he => zchk_at zk80 e he⟩
  | 1, _ => exact ⟨true, (fun _ => by decide), fun e he => zchk_at zk81 e he⟩
  | 2, _ => exact ⟨true, (fun _ => by decide), fun e he => zchk_at zk82 e he⟩
  | 3, _ => exact ⟨true, (fun _ => by decide), fun e he => zchk_at zk83 e he⟩
  | 4, _ => exact ⟨true, (fun _ => by decide), fun e he => zchk_at zk84 e he⟩
  | 5, _ => exact ⟨true, (fun _ => by decide), fun e he => zchk_at zk85 e he⟩
  | 6, _ => exact ⟨true, (fun _ => by decide), fun e he => zchk_at zk86 e he⟩
  | 7, _ => exact ⟨true, (fun _ => by decide), fun e he => zchk_at zk87 e he⟩
  | 8, _ => exact ⟨true, (fun _ => by decide), fun e he => zchk_at zk88 e he⟩
  | 9, _ => exact ⟨true, (fun _ => by decide), fun e he => zchk_at zk89 e he⟩
  | 10, _ => exact ⟨true, (fun _ => by decide), fun e he => zchk_at zk90 e he⟩
  | 11, _ => exact ⟨true, (fun _ => by decide), fun e he => zchk_at zk91 e he⟩
  | 12, _ => exact ⟨true, (fun _ => by decide), fun e he => zchk_at zk92 e he⟩
  | 13, _ => exact ⟨true, (fun _ => by decide), fun e he => zchk_at zk93 e he⟩
  | 14, _ => exact ⟨true, (fun _ => by decide), fun e he => zchk_at zk94 e he⟩
  | 15, _ => exact ⟨true, (fun _ => by decide), fun e he => zchk_at zk95 e he⟩
  | 16, _ => exact ⟨true, (fun _ => by decide), fun e he => zchk_at zk96 e he⟩
  | 17, _ => exact ⟨true, (fun _ => by decide), fun e he => zchk_at zk97 e he⟩
  | 18, _ => exact ⟨true, (fun _ => by decide), fun e he => zchk_at zk98 e he⟩
  | 19, _ => exact ⟨true, (fun _ => by decide), fun e he => zchk_at zk99 e he⟩
  | k + 20, hi => exact absurd hi (by omega)
theorem zft5 : ∀ i, i < 20 → zfit (100 + i) (zcA5.getD i []) := by
  intro i hi
  match i, hi with
  | 0, _ => exact ⟨true, (fun _ => by decide), fun e he => zchk_at zk100 e he⟩
  | 1, _ => exact ⟨true, (fun _ => by decide), fun e he => zchk_at zk101 e he⟩
  | 2, _ => exact ⟨true, (fun _ => by decide), fun e he => zchk_at zk102 e he⟩
  | 3, _ => exact ⟨true, (fun _ => by decide), fun e he => zchk_at zk103 e he⟩
  | 4, _ => exact ⟨true, (fun _ => by decide), fun e he => zchk_at zk104 e he⟩
  | 5, _ => exact ⟨true, (fun _ => by decide), fun e he => zchk_at zk105 e he⟩
  | 6, _ => exact ⟨false, (fun h => by cases h), fun e he => zchk_at zk106 e he⟩
  | 7, _ => exact ⟨true, (fun _ => by decide), fun e he => zchk_at zk107 e he⟩
  | 8, _ => exact ⟨true, (fun _ => by decide), fun e he => zchk_at zk108 e he⟩
  | 9, _ => exact ⟨true, (fun _ => by decide), fun e he => zchk_at zk109 e he⟩
  | 10, _ => exact ⟨true, (fun _ => by decide), fun e he => zchk_at zk110 e he⟩
  | 11, _ => exact ⟨true, (fun _ => by decide), fun e he => zchk_at zk111 e he⟩
  | 12, _ => exact ⟨true, (fun _ => by decide), fun e he => zchk_at zk112 e he⟩
  | 13, _ => exact ⟨true, (fun _ => by decide), fun e he => zchk_at zk113 e he⟩
  | 14, _ => exact ⟨true, (fun _ => by decide), fun e he => zchk_at zk114 e he⟩
  | 15, _ => exact ⟨true, (fun _ => by decide), fun e he => zchk_at zk115 e he⟩
  | 16, _ => exact ⟨true, (fun _ => by decide), fun e he => zchk_at zk116 e he⟩
  | 17, _ => exact ⟨true, (fun _ => by decide), fun e he => zchk_at zk117 e he⟩
  | 18, _ => exact ⟨true, (fun _ => by decide), fun e he => zchk_at zk118 e he⟩
  | 19, _ => exact ⟨true, (fun _ => by decide), fun e he => zchk_at zk119 e he⟩
  | k + 20, hi => exact absurd hi (by omega)
theorem zft6 : ∀ i, i < 20 → zfit (120 + i) (zcA6.getD i []) := by
  intro i hi
  match i, hi with
  | 0, _ => exact ⟨true, (fun _ => by decide), fun e he => zchk_at zk120 e he⟩
  | 1, _ => exact ⟨true, (fun _ => by decide), fun e he => zchk_at zk121 e he⟩
  | 2, _ => exact ⟨true, (fun _ => by decide), fun e he => zchk_at zk122 e he⟩
  | 3, _ => exact ⟨true, (fun _ => by decide), fun e he => zchk_at zk123 e he⟩
  | 4, _ => exact ⟨true, (fun _ => by decide), fun e he => zchk_at zk124 e he⟩
  | 5, _ => exact ⟨true, (fun _ => by decide), fun e he => zchk_at zk125 e he⟩
  | 6, _ => exact ⟨true, (fun _ => by decide), fun e he => zchk_at zk126 e he⟩
  | 7, _ => exact ⟨true, (fun _ => by decide), fun e he => zchk_at zk127 e he⟩
  | 8, _ => exact ⟨true, (fun _ => by decide), fun e he => zchk_at zk128 e he⟩
  | 9, _ => exact ⟨true, (fun _ => by decide), fun e he => zchk_at zk129 e he⟩
  | 10, _ => exact ⟨true, (fun _ => by decide), fun e he => zchk_at zk130 e he⟩
  | 11, _ => exact ⟨true, (fun _ => by decide), fun e he => zchk_at zk131 e he⟩
  | 12, _ => exact ⟨true, (fun _ => by decide), fun e he => zchk_at zk132 e he⟩
  | 13, _ => exact ⟨true, (fun _ => by decide), fun e he => zchk_at zk133 e he⟩
  | 14, _ => exact ⟨true, (fun _ => by decide), fun e he => zchk_at zk134 e he⟩
  | 15, _ => exact ⟨true, (fun _ => by decide), fun e he => zchk_at zk135 e he⟩
  | 16, _ => exact ⟨true, (fun _ => by decide), fun e he => zchk_at zk136 e he⟩
  | 17, _ => exact ⟨true, (fun _ => by decide), fun e he => zchk_at zk137 e he⟩
  | 18, _ => exact ⟨true, (fun _ => by decide), fun e he => zchk_at zk138 e he⟩
  | 19, _ => exact ⟨true, (fun _ => by decide), fun e he => zchk_at zk139 e he⟩
  | k + 20, hi => exact absurd hi (by omega)
theorem zft7 : ∀ i, i < 20 → zfit (140 + i) (zcA7.getD i []) := by
  intro i hi
  match i, hi with
  | 0, _ => exact ⟨true, (fun _ => by decide), fun e he => zchk_at zk140 e he⟩
  | 1, _ => exact ⟨true, (fun _ => by decide), fun e he => zchk_at zk141 e he⟩
  | 2, _ => exact ⟨true, (fun _ => by decide), fun e he => zchk_at zk142 e he⟩
  | 3, _ => exact ⟨true, (fun _ => by decide), fun e he => zchk_at zk143 e he⟩
  | 4, _ => exact ⟨true, (fun _ => by decide), fun e he => zchk_at zk144 e he⟩
  | 5, _ => exact ⟨true, (fun _ => by decide), fun e he => zchk_at zk145 e he⟩
  | 6, _ => exact ⟨true, (fun _ => by decide), fun e he => zchk_at zk146 e he⟩
  | 7, _ => exact ⟨true, (fun _ => by decide), fun e he => zchk_at zk147 e he⟩
  | 8, _ => exact ⟨true, (fun _ => by decide), fun e he => zchk_at zk148 e he⟩
  | 9, _ => exact ⟨true, (fun _ => by decide), fun e he => zchk_at zk149 e he⟩
  | 10, _ => exact ⟨true, (fun _ => by decide), fun e he => zchk_at zk150 e he⟩
  | 11, _ => exact ⟨true, (fun _ => by decide), fun e he => zchk_at zk151 e he⟩
  | 12, _ => exact ⟨true, (fun _ => by decide), fun e he => zchk_at zk152 e he⟩
  | 13, _ => exact ⟨true, (fun _ => by decide), fun e he => zchk_at zk153 e he⟩
  | 14, _ => exact ⟨true, (fun _ => by decide), fun e he => zchk_at zk154 e he⟩
  | 15, _ => exact ⟨true, (fun _ => by decide), fun e he => zchk_at zk155 e he⟩
  | 16, _ => exact ⟨true, (fun _ => by decide), fun e he => zchk_at zk156 e he⟩
  | 17, _ => exact ⟨true, (fun _ => by decide), fun e he => zchk_at zk157 e he⟩
  | 18, _ => exact ⟨true, (fun _ => by decide), fun e he => zchk_at zk158 e he⟩
  | 19, _ => exact ⟨true, (fun _ => by decide), fun e he => zchk_at zk159 e he⟩
  | k + 20, hi => exact absurd hi (by omega)
theorem zft8 : ∀ i, i < 20 → zfit (160 + i) (zcA8.getD i []) := by
  intro i hi
  match i, hi with
  | 0, _ => exact ⟨true, (fun _ => by decide), fun e he => zchk_at zk160 e he⟩
  | 1, _ => exact ⟨true, (fun _ => by decide), fun e he => zchk_at zk161 e he⟩
  | 2, _ => exact ⟨true, (fun _ => by decide), fun e he => zchk_at zk162 e he⟩
  | 3, _ => exact ⟨true, (fun _ => by decide), fun e he => zchk_at zk163 e he⟩
  | 4, _ => exact ⟨true, (fun _ => by decide), fun e he => zchk_at zk164 e he⟩
  | 5, _ => exact ⟨true, (fun _ => by decide), fun e he => zchk_at zk165 e he⟩
  | 6, _ => exact ⟨true, (fun _ => by decide), fun e he => zchk_at zk166 e he⟩
  | 7, _ => exact ⟨true, (fun _ => by decide), fun e he => zchk_at zk167 e he⟩
  | 8, _ => exact ⟨true, (fun _ => by decide), fun e he => zchk_at zk168 e he⟩
  | 9, _ => exact ⟨true, (fun _ => by decide), fun e he => zchk_at zk169 e he⟩
  | 10, _ => exact ⟨true, (fun _ => by decide), fun e he => zchk_at zk170 e he⟩
  | 11, _ => exact ⟨true, (fun _ => by decide), fun e he => zchk_at zk171 e he⟩
  | 12, _ => exact ⟨true, (fun _ => by decide), fun e he => zchk_at zk172 e he⟩
  | 13, _ => exact ⟨true, (fun _ => by decide), fun e he => zchk_at zk173 e he⟩
  | 14, _ => exact ⟨true, (fun _ => by decide), fun e he => zchk_at zk174 e he⟩
  | 15, _ => exact ⟨true, (fun _ => by decide), fun e he => zchk_at zk175 e he⟩
  | 16, _ => exact ⟨true, (fun _ => by decide), fun e he => zchk_at zk176 e he⟩
  | 17, _ => exact ⟨true, (fun _ => by decide), fun e he => zchk_at zk177 e he⟩
  | 18, _ => exact ⟨true, (fun _ => by decide), fun e he => zchk_at zk178 e he⟩
  | 19, _ => exact ⟨true, (fun _ => by decide), fun e he => zchk_at zk179 e he⟩
  | k + 20, hi => exact absurd hi (by omega)
theorem zft9 : ∀ i, i < 20 → zfit (180 + i) (zcA9.getD i []) := by
  intro i hi
  match i, hi with
  | 0, _ => exact ⟨true, (fun _ => by decide), fun e he => zchk_at zk180 e he⟩
  | 1, _ => exact ⟨true, (fun _ => by decide), fun e he => zchk_at zk181 e he⟩
  | 2, _ => exact ⟨true, (fun _ => by decide), fun e he => zchk_at zk182 e he⟩
  | 3, _ => exact ⟨true, (fun _ => by decide), fun e he => zchk_at zk183 e he⟩
  | 4, _ => exact ⟨true, (fun _ => by decide), fun e he => zchk_at zk184 e he⟩
  | 5, _ => exact ⟨true, (fun _ => by decide), fun e he => zchk_at zk185 e he⟩
  | 6, _ => exact ⟨true, (fun _ => by decide), fun e he => zchk_at zk186 e he⟩
  | 7, _ => exact ⟨true, (fun _ => by decide), fun e he => zchk_at zk187 e he⟩
  | 8, _ => exact ⟨true, (fun _ => by decide), fun e he => zchk_at zk188 e he⟩
  | 9, _ => exact ⟨true, (fun _ => by decide), fun e he => zchk_at zk189 e he⟩
  | 10, _ => exact ⟨true, (fun _ => by decide), fun e he => zchk_at zk190 e he⟩
  | 11, _ => exact ⟨true, (fun _ => by decide), fun e he => zchk_at zk191 e he⟩
  | 12, _ => exact ⟨true, (fun _ => by decide), fun e he => zchk_at zk192 e he⟩
  | 13, _ => exact ⟨true, (fun _ => by decide), fun e he => zchk_at zk193 e he⟩
  | 14, _ => exact ⟨true, (fun _ => by decide), fun e he => zchk_at zk194 e he⟩
  | 15, _ => exact ⟨true, (fun _ => by decide), fun e he => zchk_at zk195 e he⟩
  | 16, _ => exact ⟨true, (fun _ => by decide), fun e he => zchk_at zk196 e he⟩
  | 17, _ => exact ⟨true, (fun _ => by decide), fun e he => zchk_at zk197 e he⟩
  | 18, _ => exact ⟨true, (fun _ => by decide), fun e he => zchk_at zk198 e he⟩
  | 19, _ => exact ⟨true, (fun _ => by decide), fun e he => zchk_at zk199 e he⟩
  | k + 20, hi => exact absurd hi (by omega)
theorem zft10 : ∀ i, i < 2 → zfit (200 + i) (zcA10.getD i []) := by
  intro i hi
  match i, hi with
  | 0, _ => exact ⟨true, (fun _ => by decide), fun e he => zchk_at zk200 e he⟩
  | 1, _ => exact ⟨true, (fun _ => by decide), fun e he => zchk_at zk201 e he⟩
  | k + 2, hi => exact absurd hi (by omega)
theorem zfit_law : zfit0 RL cL_law 4 true (some .boolean) zc300 := by
  unfold zc300
  exact zfit0_app (fun e he => zchk_at zk300_0 e he) (zfit0_app (fun e he => zchk_at zk300_1 e he) (zfit0_app (fun e he => zchk_at zk300_2 e he) (zfit0_app (fun e he => zchk_at zk300_3 e he) (zfit0_app (fun e he => zchk_at zk300_4 e he) (zfit0_app (fun e he => zchk_at zk300_5 e he) (zfit0_app (fun e he => zchk_at zk300_6 e he) (zfit0_app (fun e he => zchk_at zk300_7 e he) (zfit0_app (fun e he => zchk_at zk300_8 e he) (zfit0_app (fun e he => zchk_at zk300_9 e he) (zfit0_app (fun e he => zchk_at zk300_10 e he) (zfit0_app (fun e he => zchk_at zk300_11 e he) (zfit0_app (fun e he => zchk_at zk300_12 e he) (zfit0_app (fun e he => zchk_at zk300_13 e he) (zfit0_app (fun e he => zchk_at zk300_14 e he) (fun e he => zchk_at zk300_15 e he)))))))))))))))
theorem zfit_all {y : Nat} (h : y < 202) : zfit y (zcq y) := by
  unfold zcq
  have e : y = 20 * (y / 20) + y % 20 := by omega
  have hr : y % 20 < 20 := Nat.mod_lt _ (by omega)
  have hq : y / 20 ≤ 10 := by omega
  generalize y / 20 = a at e hq ⊢
  generalize y % 20 = b at e hr ⊢
  subst e
  match a, hq with
  | 0, _ => exact zft0 b hr
  | 1, _ => exact zft1 b hr
  | 2, _ => exact zft2 b hr
  | 3, _ => exact zft3 b hr
  | 4, _ => exact zft4 b hr
  | 5, _ => exact zft5 b hr
  | 6, _ => exact zft6 b hr
  | 7, _ => exact zft7 b hr
  | 8, _ => exact zft8 b hr
  | 9, _ => exact zft9 b hr
  | 10, _ => exact zft10 b (by omega)
end
section
/-! the world of our machine in the real one, and that its steps are the real ones' -/
abbrev zty (ca : Nat → ClassId) : List (ClassId × FieldType) := [(ca 0, .int), (ca 1, .object RX3), (ca 2, .object RX4)]
def zfld (ad : Nat → Nat) (h : zH) (ci c k : Nat) : Value := match zrfo ci k c with
  | some r => .ref (ad r)
  | none => .int (h c k)
def zenc (ad : Nat → Nat) (ca : Nat → ClassId) (h : zH) (c : Nat) : va_E :=
  if zcls c = 10 then .inl (ca 0, zaln c, .inl (h c))
  else if zcls c = 11 then .inl (ca 1, 4, .inr (.inr (.inr (.inr (fun i => some (ad (35 + 2 * i)))))))
  else if zcls c = 12 then .inl (ca 2, 5, .inr (.inr (.inr (.inr (fun i => some (ad (44 + 3 * i)))))))
  else .inr (zcls c, (List.range (znf (zcls c))).map (zfld ad h (zcls c) c))
def zwl (ad : Nat → Nat) (ca : Nat → ClassId) (h : zH) : va_W := (List.range 80).map (fun c => (ad c, zenc ad ca h c))
def ztr (ad : Nat → Nat) : Value → Value
  | .ref c => .ref (ad c)
  | v => v
theorem zwl_get {ad : Nat → Nat} {ca : Nat → ClassId} {h : zH} {c : Nat} (hc : c < 80) : (zwl ad ca h)[c]? = some (ad c, zenc ad ca h c) := by
  simp [zwl, hc]
theorem zenc_cong {ad : Nat → Nat} {ca : Nat → ClassId} {h h' : zH} {c : Nat} (e : h c = h' c) : zenc ad ca h c = zenc ad ca h' c := by
  unfold zenc
  rw [e]
  have e2 : zfld ad h (zcls c) c = zfld ad h' (zcls c) c := by
    funext k
    unfold zfld
    rw [e]
  rw [e2]
theorem zwl_set {ad : Nat → Nat} {ca : Nat → ClassId} {h h' : zH} {c : Nat} {e : va_E} (hc : c < 80) (ho : ∀ c', c' ≠ c → h' c' = h c') (he : e = zenc ad ca h' c) : (zwl ad ca h).set c (ad c, e) = zwl ad ca h' := by
  subst he
  apply List.ext_getElem?
  intro i
  by_cases hi : i < 80
  · by_cases hic : i = c
    · subst hic
      rw [List.getElem?_set_self (by simp [zwl]; omega), zwl_get hi]
    · rw [List.getElem?_set_ne (Ne.symm hic), zwl_get hi, zwl_get hi, zenc_cong (ho i hic)]
  · rw [List.getElem?_eq_none (by simp [zwl]; omega), List.getElem?_eq_none (by simp [zwl]; omega)]
theorem zcls_lt {c : Nat} (h : zcls c ≤ 12) : c < 80 := by
  by_cases h1 : c < 80
  · exact h1
  · by_cases h2 : c < 89
    · have key : ∀ k : Fin 9, ¬ zcls (80 + k.val) ≤ 12 := by decide
      have := key ⟨c - 80, by omega⟩
      simp only [show 80 + (c - 80) = c by omega] at this
      exact absurd h this
    · exfalso
      have : zcls c = 99 := by
        unfold zcls
        rw [List.getD_eq_getElem?_getD, List.getElem?_eq_none (by simp [zShA]; omega)]; rfl
      omega
theorem zenc_obj {ad : Nat → Nat} {ca : Nat → ClassId} {h : zH} {c a : Nat} (hc : zcls c = a) (ha : a < 8) : zenc ad ca h c = .inr (a, (List.range (znf a)).map (zfld ad h a c)) := by
  unfold zenc
  rw [hc, if_neg (by omega), if_neg (by omega), if_neg (by omega)]
theorem zenc_arr {ad : Nat → Nat} {ca : Nat → ClassId} {h : zH} {c : Nat} (hc : zcls c = 10) : zenc ad ca h c = .inl (ca 0, zaln c, .inl (h c)) := by
  unfold zenc
  rw [if_pos hc]
theorem zhr_same (h : zH) (c : Nat) (r : Nat → Int32) : zhr h c r c = r := by simp [zhr]
theorem zhr_ne (h : zH) {c c' : Nat} (r : Nat → Int32) (n : c' ≠ c) : zhr h c r c' = h c' := by simp [zhr, n]
/-! locals -/
def zlvl (ad : Nat → Nat) (lv : zL) : List (Nat × Value) := lv.zipIdx.filterMap (fun q => q.1.map (fun v => (q.2, ztr ad v)))
theorem zlvl_mem {ad : Nat → Nat} {lv : zL} {q : Nat × Value} : q ∈ zlvl ad lv ↔ ∃ v, lv[q.1]? = some (some v) ∧ q.2 = ztr ad v := by
  obtain ⟨i, w⟩ := q
  simp only [zlvl, List.mem_filterMap]
  constructor
  · rintro ⟨⟨o, j⟩, h1, h2⟩
    rw [List.mem_zipIdx_iff_getElem?] at h1
    cases o with
    | none => cases h2
    | some v =>
      simp only [Option.map_some, Option.some.injEq, Prod.mk.injEq] at h2
      obtain ⟨rfl, rfl⟩ := h2
      exact ⟨v, h1, rfl⟩
  · rintro ⟨v, h1, h2⟩
    refine ⟨(some v, i), by rw [List.mem_zipIdx_iff_getElem?]; exact h1, ?_⟩
    have h3 : w = ztr ad v := h2
    rw [h3]; rfl
theorem ztr_cat (ad : Nat → Nat) (v : Value) : (ztr ad v).category = v.category := by
  cases v <;> rfl
def zlv (ad : Nat → Nat) (nol : Bool) (ls : Array Slot) (nL : Nat) (lv : zL) : Prop := lv_has ls nL (zlvl ad lv) ∧ lv.length = nL ∧ (nol = true → ∀ (i : Nat) (v : Value), lv[i]? = some (some v) → v.category = 1)
theorem zlv_get {ad : Nat → Nat} {nol : Bool} {ls : Array Slot} {nL : Nat} {lv : zL} (h : zlv ad nol ls nL lv) {i : Nat} {v : Value} (hi : lv[i]? = some (some v)) : ls[i]? = some (.val (ztr ad v)) := h.1.2.2 (i, ztr ad v) (zlvl_mem.mpr ⟨v, hi, rfl⟩)
theorem zlv_set {ad : Nat → Nat} {ls ls' : Array Slot} {nL a : Nat} {lv : zL} {x : Value} (h : zlv ad true ls nL lv) (ha : a < nL) (hx : x.category = 1) (h' : lv_has ls' nL ((a, ztr ad x) :: (zlvl ad lv).filter (fun q => !(q.1 == a) && !(q.1 + 1 == a && q.2.category == 2)))) : zlv ad true ls' nL (lv.set a (some x)) := by
  obtain ⟨h1, h2, h3⟩ := h
  refine ⟨⟨h'.1, h'.2.1, fun q hq => ?_⟩, by simp [h2], fun _ i v hi => ?_⟩
  · obtain ⟨v, e1, e2⟩ := zlvl_mem.mp hq
    by_cases hqa : q.1 = a
    · rw [hqa, List.getElem?_set_self (by omega)] at e1
      cases e1
      refine h'.2.2 q (List.mem_cons.mpr (Or.inl ?_))
      rw [← hqa, ← e2]
    · rw [List.getElem?_set_ne (Ne.symm hqa)] at e1
      refine h'.2.2 q (List.mem_cons_of_mem _ (List.mem_filter.mpr ⟨zlvl_mem.mpr ⟨v, e1, e2⟩, ?_⟩))
      have hc := h3 rfl q.1 v e1
      rw [← ztr_cat ad v, ← e2] at hc
      simp [hqa, hc]
  · by_cases hia : i = a
    · rw [hia, List.getElem?_set_self (by omega)] at hi
      cases hi
      exact hx
    · rw [List.getElem?_set_ne (Ne.symm hia)] at hi
      exact h3 rfl i v hi
theorem zlv_args_cat : ∀ (vs : List Value) (i : Nat) (q : Nat × Value), q ∈ lv_args i vs → q.2 ∈ vs
  | [], _, _, h => by cases h
  | v :: vs, i, q, h => by
    rcases List.mem_cons.mp h with rfl | h
    · exact List.mem_cons_self
    · exact List.mem_cons_of_mem _ (zlv_args_cat vs _ q h)
def zent1 (args : List Value) : zL := args.flatMap (fun v => if v.category = 2 then [some v, none] else [some v])
theorem zent1_mem (ad : Nat → Nat) : ∀ (vs : List Value) (k i : Nat) (v : Value), (zent1 vs)[i]? = some (some v) → (k + i, ztr ad v) ∈ lv_args k (vs.map (ztr ad)) ∧ v ∈ vs
  | [], _, i, v, h => by simp [zent1] at h
  | a :: vs, k, i, v, h => by
    simp only [zent1, List.flatMap_cons] at h
    simp only [List.map_cons, lv_args, ztr_cat]
    by_cases hc : a.category = 2
    · rw [if_pos hc] at h ⊢
      match i, h with
      | 0, h => cases h; exact ⟨List.mem_cons_self, List.mem_cons_self⟩
      | 1, h => cases h
      | j + 2, h =>
        have := zent1_mem ad vs (k + 2) j v (by simpa [zent1] using h)
        rw [show k + (j + 2) = k + 2 + j by omega]
        exact ⟨List.mem_cons_of_mem _ this.1, List.mem_cons_of_mem _ this.2⟩
    · rw [if_neg hc] at h ⊢
      match i, h with
      | 0, h => cases h; exact ⟨List.mem_cons_self, List.mem_cons_self⟩
      | j + 1, h =>
        have := zent1_mem ad vs (k + 1) j v (by simpa [zent1] using h)
        rw [show k + (j + 1) = k + 1 + j by omega]
        exact ⟨List.mem_cons_of_mem _ this.1, List.mem_cons_of_mem _ this.2⟩
theorem zent1_len (ad : Nat → Nat) : ∀ (vs : List Value), (zent1 vs).length = (lg_sl (vs.map (ztr ad))).length
  | [] => rfl
  | a :: vs => by
    simp only [zent1, List.flatMap_cons, lg_sl, List.map_cons, List.length_append, ztr_cat]
    have := zent1_len ad vs
    simp only [zent1, lg_sl] at this
    rw [this]
    by_cases hc : a.category = 2
    · rw [if_pos hc, if_pos hc]; rfl
    · rw [if_neg hc, if_neg hc]; rfl
theorem zlv_entry (ad : Nat → Nat) {nol : Bool} (vs : List Value) {n : Nat} (hn : (zent1 vs).length ≤ n) (hno : nol = true → ∀ v ∈ vs, v.category = 1) : zlv ad nol ((lg_sl (vs.map (ztr ad)) ++ List.replicate (n - (lg_sl (vs.map (ztr ad))).length) Slot.unset).toArray) n (zent vs n) := by
  have h := lv_entry (vs.map (ztr ad)) (n := n) (by rw [← zent1_len]; exact hn)
  have e : zent vs n = zent1 vs ++ List.replicate (n - (zent1 vs).length) none := rfl
  have get : ∀ (i : Nat) (v : Value), (zent vs n)[i]? = some (some v) → (zent1 vs)[i]? = some (some v) := by
    intro i v hi
    rw [e] at hi
    by_cases hl : i < (zent1 vs).length
    · rw [List.getElem?_append_left hl] at hi
      exact hi
    · rw [List.getElem?_append_right (by omega), List.getElem?_replicate] at hi
      split at hi <;> cases hi
  refine ⟨⟨h.1, h.2.1, fun q hq => ?_⟩, by rw [e]; simp; omega, fun hq i v hi => ?_⟩
  · obtain ⟨v, e1, e2⟩ := zlvl_mem.mp hq
    have := (zent1_mem ad vs 0 q.1 v (get _ _ e1)).1
    rw [Nat.zero_add, ← e2] at this
    exact h.2.2 q this
  · exact hno hq v (zent1_mem ad vs 0 i v (get i v hi)).2
/-! the constants of the world -/
def zlitB : List (List Int32) := [[116,111,108,108],[112,117,108,108],[102,105,110,101]]
def zcn (ad adV : Nat → Nat) (A : Nat → Prop) (h : zH) (U : State) (H : Heap) : Prop :=
  (∀ q ∈ zstc, va_Z q.1 q.2.1 q.2.2.1 (.ref (ad q.2.2.2.2)) A U H ∧ va_T q.2.2.2.1 (ad q.2.2.2.2) (zaln q.2.2.2.2) (fun j => .int (zkon q.2.2.2.2 j)) A U H)
  ∧ (∀ q ∈ zlit, vk_R RX2 q.1 q.2.1 (ad q.2.2) U)
  ∧ vk_S 3 [4, 4, 4] zlitB (fun i => ad (86 + i)) adV A U H
  ∧ va_Z "java/lang/String" "COMPACT_STRINGS" "Z" (.int 1) A U H
  ∧ (va_X (ad 84) (zix (h 85 0)) (h 84) U H ∧ Int32.ofNat (zix (h 85 0)) = h 85 0 ∧ ad 84 < H.size ∧ ¬ A (ad 84))
  ∧ ∀ w ∈ lw_tbl, zNest w = true → va_Nw w U
theorem zcn_move {ad adV : Nat → Nat} {A : Nat → Prop} {h h' : zH} {s U : State} {H H1 : Heap} (hW : s.WarmedH U.vm) (hz : H.size ≤ H1.size) (hk : ∀ a : Nat, a < H.size → ¬ A a → H1[a]? = H[a]?) (e : h' 84 = h 84 ∧ h' 85 = h 85) (hC : zcn ad adV A h s H) : zcn ad adV A h' U H1 := by
  obtain ⟨h1, h2, h3, h4, ⟨h5, h6, h7, h8⟩, h9⟩ := hC
  refine ⟨fun q hq => ⟨va_Z.moved hW.alike ((h1 q hq).1.kept hk), va_T.moved hW.alike ((h1 q hq).2.kept hk)⟩, fun q hq => (h2 q hq).warm hW, vk_S.moved hW.alike (h3.kept hk), va_Z.moved hW.alike (h4.kept hk), ?_, fun w hw hn => ?_⟩
  · rw [e.1, e.2]
    exact ⟨va_X.moved hW.alike (h5.kept (hk _ h7 h8)), h6, Nat.lt_of_lt_of_le h7 hz, h8⟩
  · have := h9 w hw hn
    match w, hn, this with
    | .fieldLinkNest a i b n d g, _, this => exact va_Nw.warmF hW this
    | .methodLinkNest a i x g, _, this => exact va_Nw.warmM hW this
end
section
/-! class rows of the tables -/
def zgt : List Jvm.Cond := lw_tbl.filter goodWord
theorem zgt_of {w : Jvm.Cond} (h : w ∈ lw_tbl) (g : goodWord w = true) : w ∈ zgt := List.mem_filter.mpr ⟨h, g⟩
theorem zgt_good {w : Jvm.Cond} (h : w ∈ zgt) : w ∈ lw_tbl ∧ goodWord w = true := List.mem_filter.mp h
theorem zG_gt {u : Nat} {w : Jvm.Cond} (h : zG u w = true) : w ∈ zgt := zgt_of (zG_in h).1 (zG_in h).2
def zuchk (C : String) (T : u_T) : Nat → List Nat → Bool
  | _, [] => true
  | k, u :: us => zG u (u_lay C T k) && zuchk C T (k + 1) us
theorem zuchk_at {C : String} {T : u_T} : ∀ (us : List Nat) (k j : Nat), zuchk C T k us = true → j < us.length → u_lay C T (k + j) ∈ zgt
  | [], _, _, _, h => absurd h (Nat.not_lt_zero _)
  | u :: us, k, 0, h, _ => by
    simp only [zuchk, Bool.and_eq_true] at h
    exact zG_gt h.1
  | u :: us, k, j + 1, h, hj => by
    simp only [zuchk, Bool.and_eq_true] at h
    rw [show k + (j + 1) = k + 1 + j by omega]
    exact zuchk_at us (k + 1) j h.2 (by simpa using hj)
theorem zu_in {C : String} {T : u_T} {N : Nat} {us : List Nat} (h : zuchk C T 0 us = true) (hl : us.length = N) : ∀ w ∈ u_ws C T N, w ∈ zgt := by
  intro w hw
  unfold u_ws at hw
  obtain ⟨k, hk, rfl⟩ := List.mem_map.mp hw
  have := zuchk_at us 0 k h (by rw [hl]; exact List.mem_range.mp hk)
  rwa [Nat.zero_add] at this
theorem zu0 : ∀ w ∈ u_ws RX0 TX0 0, w ∈ zgt := zu_in (us := []) (by decide +kernel) rfl
theorem zu1 : ∀ w ∈ u_ws RX1 TX1 5, w ∈ zgt := zu_in (us := [1088, 1090, 1092, 1094, 1096]) (by decide +kernel) rfl
theorem zu2 : ∀ w ∈ u_ws RX2 TX2 11, w ∈ zgt := zu_in (us := [1047, 1049, 1051, 1053, 1055, 1057, 1059, 1061, 1063, 1065, 1067]) (by decide +kernel) rfl
theorem zu3 : ∀ w ∈ u_ws RX3 TX3 3, w ∈ zgt := zu_in (us := [1176, 1178, 1180]) (by decide +kernel) rfl
theorem zu4 : ∀ w ∈ u_ws RX4 TX4 5, w ∈ zgt := zu_in (us := [1200, 1202, 1204, 1206, 1208]) (by decide +kernel) rfl
theorem zu5 : ∀ w ∈ u_ws RX5 TX5 15, w ∈ zgt := zu_in (us := [1134, 1136, 1138, 1140, 1142, 1144, 1146, 1148, 1150, 1152, 1154, 1156, 1158, 1160, 1162]) (by decide +kernel) rfl
theorem zu6 : ∀ w ∈ u_ws RX6 TX6 10, w ∈ zgt := zu_in (us := [1221, 1223, 1225, 1227, 1229, 1231, 1233, 1235, 1237, 1239]) (by decide +kernel) rfl
theorem zu7 : ∀ w ∈ u_ws RX7 TX7 33, w ∈ zgt := zu_in (us := [4098, 4100, 4102, 4104, 4106, 4108, 4110, 4112, 4114, 4116, 4118, 4120, 4122, 4124, 4126, 4128, 4130, 4132, 4134, 4136, 4138, 4140, 4142, 4144, 4146, 4148, 4150, 4152, 4154, 4156, 4158, 4160, 4162]) (by decide +kernel) rfl
/-- a class by its number: types, names apart, words, how many fields -/
def zcok (a : Nat) (q : vw_C) : Prop := a < 8 ∧ znf a = q.2.2 ∧ (∃ ty0 : Nat → FieldType, ∀ k, k < q.2.2 → parseFieldDescriptor (q.2.1 k).2.2.1 = some (ty0 k)) ∧ (∀ i, i < q.2.2 → ∀ j, j < q.2.2 → i ≠ j → (q.2.1 i).2.1 ≠ (q.2.1 j).2.1) ∧ ∀ w ∈ u_ws q.1 q.2.1 q.2.2, w ∈ zgt
theorem zcl_ok {a : Nat} {q : vw_C} (h : zcl[a]? = some q) : zcok a q := by
  match a, h with
  | 0, h => cases h; exact ⟨by decide, rfl, ⟨tyX0, tyX0_ok⟩, nmX0, zu0⟩
  | 1, h => cases h; exact ⟨by decide, rfl, ⟨tyX1, tyX1_ok⟩, nmX1, zu1⟩
  | 2, h => cases h; exact ⟨by decide, rfl, ⟨tyX2, tyX2_ok⟩, nmX2, zu2⟩
  | 3, h => cases h; exact ⟨by decide, rfl, ⟨tyX3, tyX3_ok⟩, nmX3, zu3⟩
  | 4, h => cases h; exact ⟨by decide, rfl, ⟨tyX4, tyX4_ok⟩, nmX4, zu4⟩
  | 5, h => cases h; exact ⟨by decide, rfl, ⟨tyX5, tyX5_ok⟩, nmX5, zu5⟩
  | 6, h => cases h; exact ⟨by decide, rfl, ⟨tyX6, tyX6_ok⟩, nmX6, zu6⟩
  | 7, h => cases h; exact ⟨by decide, rfl, ⟨tyX7, tyX7_ok⟩, nmX7, zu7⟩
  | k + 8, h => simp at h
theorem zrfo_any {a b c : Nat} (h : zrfo a b 0 = none) : zrfo a b c = none := by
  cases hc : zrfo a b c with
  | none => rfl
  | some r =>
    exfalso
    revert h
    unfold zrfo at hc ⊢
    split at hc <;> first | (cases hc; done) | simp
theorem zfv_tr (ad : Nat → Nat) (h : zH) (a b c : Nat) : ztr ad (zfv h a b c) = zfld ad h a c b := by
  unfold zfv zfld
  cases zrfo a b c <;> rfl
theorem zg_smax : zG 2049 (.static Lib.Math.max.name) = true := by decide +kernel
theorem zg_smin : zG 2046 (.static Lib.Math.min.name) = true := by decide +kernel
theorem zg_sabs : zG 2095 (.static Lib.Math.abs.name) = true := by decide +kernel
theorem zg_imath : zG 1009 (.initialized "java/lang/Math") = true := by decide +kernel
theorem zg_cmax : zG 2050 (.code Lib.Math.max.name Lib.Math.max.code 2 (some .int)) = true := by decide +kernel
theorem zg_cmin : zG 2047 (.code Lib.Math.min.name Lib.Math.min.code 2 (some .int)) = true := by decide +kernel
theorem zg_cabs : zG 2096 (.code Lib.Math.abs.name Lib.Math.abs.code 1 (some .int)) = true := by decide +kernel
theorem zg_scpy : zG 2230 (.static arraycopyName) = true := by decide +kernel
theorem zg_ncpy : zG 2231 (.native arraycopyName) = true := by decide +kernel
theorem zg_isys : zG 1011 (.initialized "java/lang/System") = true := by decide +kernel
theorem zg_ilen : zG 3094 (.instanceMethod yJ0_length_8abf5) = true := by decide +kernel
theorem zg_llen : zG 3095 (.selects yJ0_length_8abf5.cls yJ0_length_8abf5 yJ0_length_8abf5) = true := by decide +kernel
theorem zg_clen : zG 3096 (.code yJ0_length_8abf5 cJ0_length_8abf5 1 (some .int)) = true := by decide +kernel
theorem zg_icha : zG 3104 (.instanceMethod yJ0_charAt_5068e) = true := by decide +kernel
theorem zg_lcha : zG 3105 (.selects yJ0_length_8abf5.cls yJ0_charAt_5068e yJ0_charAt_5068e) = true := by decide +kernel
theorem zg_ccha : zG 3106 (.code yJ0_charAt_5068e cJ0_charAt_5068e 2 (some .char)) = true := by decide +kernel
theorem zg_istr : zG 1012 (.initialized "java/lang/String") = true := by decide +kernel
end
section
/-! one step of our machine, in the real one -/
def zrm (d : Nat) : Room := { frames := d, cells := 0, slots := 0, locals := 64 * d }
def zws (y : Nat) : List Jvm.Cond := .code (zyN y) (zyB y) (zyL y) (zyQ y) :: zgt
def zpre (ad : Nat → Nat) (D : va_G) (ca : Nat → ClassId) (adV : Nat → Nat) (A : Nat → Prop) (h : zH) : State → Prop := fun U => va_P D zcl (zwl ad ca h) U.heap ∧ va_K D zcl (zty ca) U ∧ zcn ad adV A h U U.heap
def zQc (ad : Nat → Nat) (D : va_G) (ca : Nat → ClassId) (A : Nat → Prop) (h : zH) (Q : Option Value → zH → Prop) : Array Value → State → Outcome → State → Prop := fun _ st oc t => (∃ (v : Option Value) (h' : zH), oc = .returned (v.map (ztr ad)) ∧ Q v h' ∧ (h' 84 = h 84 ∧ h' 85 = h 85) ∧ va_P D zcl (zwl ad ca h') t.heap) ∧ va_F A st t
/-- a contract in our machine's words -/
def zMet (l : Launch) (ad : Nat → Nat) (D : va_G) (ca : Nat → ClassId) (adV : Nat → Nat) (A : Nat → Prop) (d : Nat) (y : MethodName) (ws : List Jvm.Cond) (args : List Value) (h : zH) (Q : Option Value → zH → Prop) : Prop :=
  Met l y ws (zrm d) (va_Pc (args.map (ztr ad)) (zpre ad D ca adV A h)) (zQc ad D ca A h Q) 0 0 A
theorem zblind {ad : Nat → Nat} {D : va_G} {ca : Nat → ClassId} {adV : Nat → Nat} {A : Nat → Prop} {h : zH} {av : List Value} : FrameBlind (va_Pc av (zpre ad D ca adV A h)) := fun a U g mk q => by
  obtain ⟨q0, q1, q2, q3⟩ := q
  exact ⟨q0, q1, va_K.moved (u := U) (U := U.calling g mk a) (Vm.Alike.refl U.vm) q2, zcn_move (s := U) (U := U.calling g mk a) (State.WarmedH.refl U) (Nat.le_refl _) (fun _ _ _ => rfl) ⟨rfl, rfl⟩ q3⟩
theorem zcat_sum : ∀ (l : List Value), (l.map fun v => v.category).sum ≤ 2 * l.length
  | [] => Nat.le_refl _
  | v :: l => by
    have h1 := zcat_sum l
    have h2 := lv_cat v
    simp only [List.map_cons, List.sum_cons, List.length_cons]
    omega
theorem zok_in {i : Int32} {n : Nat} (h : zok i n) : vp_in i n := fun q => q.elim h.1 (fun q => absurd h.2 (Nat.not_lt.mpr q))
section
variable {p : Program} {l : Launch} {e : Env} {R : Room} {s : State} {m : MethodId} {args : Array Value} {below : List Frame} {meth : Method} {c : Code} {cells slots : Nat} {Qf : State → Prop}
variable {ad : Nat → Nat} {D : va_G} {ca : Nat → ClassId} {adV : Nat → Nat} {A : Nat → Prop}
theorem zcall {H : Heap} {locs : List Loc} {pc : Nat} {ls : Array Slot} {rest st0 : List Value} {a : Array Value} {H0 : Heap} {h : zH} {Q : Option Value → zH → Prop} (hr : va_Run p l e R s m args below meth c H locs cells slots 0 0 (F0 m pc ls st0) rest (zQc ad D ca A h Q a) A) (hS : va_S A H0 H locs)
    (kk : ∀ (v : Option Value) (h' : zH) (H1 : Heap) (locs1 : List Loc), Q v h' → (h' 84 = h 84 ∧ h' 85 = h 85) → va_P D zcl (zwl ad ca h') H1 → va_S A H0 H1 locs1 → W p l e R s m args below meth c H1 locs1 cells slots Qf (F0 m (pc + 3) ls ((v.map (ztr ad)).toList ++ rest))) : W p l e R s m args below meth c H locs cells slots Qf (F0 m pc ls st0) := by
  intro T hT X
  obtain ⟨v0, st₀, t, T', L, h0, X', hL, e1, e2, ⟨⟨v, h', hv, hq, h84, hP⟩, hz, hk⟩, st⟩ := hr T hT X
  cases hv
  rw [h0] at hz hk
  obtain ⟨t2, a1, b1⟩ := kk v h' T'.heap (locs ++ L) hq h84 (by rw [e1]; exact hP)
    ⟨Nat.le_trans hS.1 (by rw [e1]; exact hz), fun q h1 h2 => by rw [e1, hk q (Nat.lt_of_lt_of_le h1 hS.1) h2]; exact hS.2.1 q h1 h2, fun q hq => by
      rcases List.mem_append.mp hq with h | h
      · exact hS.2.2 q h
      · exact hL q h⟩ T' rfl X'
  exact ⟨t2, st t2 a1, b1⟩
def zPW (p : Program) (l : Launch) (e : Env) (R : Room) (s : State) (m : MethodId) (args : Array Value) (below : List Frame) (meth : Method) (c : Code) (cells slots : Nat) (Qf : State → Prop) (ad : Nat → Nat) (D : va_G) (ca : Nat → ClassId) (A : Nat → Prop) (nol : Bool) (nL : Nat) (h0 : zH) (pc : Nat) (lv : zL) (st : zS) (h : zH) : Prop :=
  (h 84 = h0 84 ∧ h 85 = h0 85) → ∀ (ls : Array Slot) (H : Heap) (locs : List Loc), zlv ad nol ls nL lv → va_P D zcl (zwl ad ca h) H → va_S A s.heap H locs → W p l e R s m args below meth c H locs cells slots Qf (F0 m pc ls (st.map (ztr ad)))
theorem zp1_x {cal : Nat → List Value → zH → (Option Value → zH → Prop) → Prop} {P : Nat → zL → zS → zH → Prop} {Q : Option Value → zH → Prop} {h : zH} {st : zS} {f : Int32 → zS → Option zO} (hg : zgo cal P Q h (zp1 st f)) : ∃ x r, st = .int x :: r ∧ zgo cal P Q h (f x r) := by
  unfold zp1 at hg
  split at hg
  · exact ⟨_, _, rfl, hg⟩
  · exact hg.elim
theorem zp2_x {cal : Nat → List Value → zH → (Option Value → zH → Prop) → Prop} {P : Nat → zL → zS → zH → Prop} {Q : Option Value → zH → Prop} {h : zH} {st : zS} {f : Int32 → Int32 → zS → Option zO} (hg : zgo cal P Q h (zp2 st f)) : ∃ x y r, st = .int y :: .int x :: r ∧ zgo cal P Q h (f x y r) := by
  unfold zp2 at hg
  split at hg
  · exact ⟨_, _, _, rfl, hg⟩
  · exact hg.elim
theorem zpR_x {cal : Nat → List Value → zH → (Option Value → zH → Prop) → Prop} {P : Nat → zL → zS → zH → Prop} {Q : Option Value → zH → Prop} {h : zH} {st : zS} {f : Nat → zS → Option zO} (hg : zgo cal P Q h (zpR st f)) : ∃ c r, st = .ref c :: r ∧ zgo cal P Q h (f c r) := by
  unfold zpR at hg
  split at hg
  · exact ⟨_, _, rfl, hg⟩
  · exact hg.elim
theorem zp1R_x {cal : Nat → List Value → zH → (Option Value → zH → Prop) → Prop} {P : Nat → zL → zS → zH → Prop} {Q : Option Value → zH → Prop} {h : zH} {st : zS} {f : Int32 → Nat → zS → Option zO} (hg : zgo cal P Q h (zp1R st f)) : ∃ x c r, st = .int x :: .ref c :: r ∧ zgo cal P Q h (f x c r) := by
  unfold zp1R at hg
  split at hg
  · exact ⟨_, _, _, rfl, hg⟩
  · exact hg.elim
theorem zp2R_x {cal : Nat → List Value → zH → (Option Value → zH → Prop) → Prop} {P : Nat → zL → zS → zH → Prop} {Q : Option Value → zH → Prop} {h : zH} {st : zS} {f : Int32 → Int32 → Nat → zS → Option zO} (hg : zgo cal P Q h (zp2R st f)) : ∃ x i c r, st = .int x :: .int i :: .ref c :: r ∧ zgo cal P Q h (f x i c r) := by
  unfold zp2R at hg
  split at hg
  · exact ⟨_, _, _, _, rfl, hg⟩
  · exact hg.elim
theorem zpJ2_x {cal : Nat → List Value → zH → (Option Value → zH → Prop) → Prop} {P : Nat → zL → zS → zH → Prop} {Q : Option Value → zH → Prop} {h : zH} {st : zS} {f : Int64 → Int64 → zS → Option zO} (hg : zgo cal P Q h (zpJ2 st f)) : ∃ x y r, st = .long y :: .long x :: r ∧ zgo cal P Q h (f x y r) := by
  unfold zpJ2 at hg
  split at hg
  · exact ⟨_, _, _, rfl, hg⟩
  · exact hg.elim
theorem zpA_x {cal : Nat → List Value → zH → (Option Value → zH → Prop) → Prop} {P : Nat → zL → zS → zH → Prop} {Q : Option Value → zH → Prop} {h : zH} {st : zS} {f : Option Nat → zS → Option zO} (hg : zgo cal P Q h (zpA st f)) : ∃ x r, st = zrf x :: r ∧ zgo cal P Q h (f x r) := by
  unfold zpA at hg
  split at hg
  · exact ⟨some _, _, rfl, hg⟩
  · exact ⟨none, _, rfl, hg⟩
  · exact hg.elim
theorem zpV_x {cal : Nat → List Value → zH → (Option Value → zH → Prop) → Prop} {P : Nat → zL → zS → zH → Prop} {Q : Option Value → zH → Prop} {h : zH} {st : zS} {f : Value → zS → Option zO} (hg : zgo cal P Q h (zpV st f)) : ∃ x r, st = x :: r ∧ x.category = 1 ∧ zgo cal P Q h (f x r) := by
  unfold zpV at hg
  split at hg
  · exact ⟨_, _, rfl, rfl, hg⟩
  · exact ⟨_, _, rfl, rfl, hg⟩
  · exact ⟨_, _, rfl, rfl, hg⟩
  · exact hg.elim
theorem zldI_x {cal : Nat → List Value → zH → (Option Value → zH → Prop) → Prop} {P : Nat → zL → zS → zH → Prop} {Q : Option Value → zH → Prop} {h : zH} {lv : zL} {a : Nat} {f : Int32 → Option zO} (hg : zgo cal P Q h (zldI lv a f)) : ∃ x, lv[a]? = some (some (.int x)) ∧ zgo cal P Q h (f x) := by
  unfold zldI at hg
  split at hg
  · rename_i e; exact ⟨_, e, hg⟩
  · exact hg.elim
theorem zldJ_x {cal : Nat → List Value → zH → (Option Value → zH → Prop) → Prop} {P : Nat → zL → zS → zH → Prop} {Q : Option Value → zH → Prop} {h : zH} {lv : zL} {a : Nat} {f : Int64 → Option zO} (hg : zgo cal P Q h (zldJ lv a f)) : ∃ x, lv[a]? = some (some (.long x)) ∧ zgo cal P Q h (f x) := by
  unfold zldJ at hg
  split at hg
  · rename_i e; exact ⟨_, e, hg⟩
  · exact hg.elim
theorem zldA_x {cal : Nat → List Value → zH → (Option Value → zH → Prop) → Prop} {P : Nat → zL → zS → zH → Prop} {Q : Option Value → zH → Prop} {h : zH} {lv : zL} {a : Nat} {f : Option Nat → Option zO} (hg : zgo cal P Q h (zldA lv a f)) : ∃ x, lv[a]? = some (some (zrf x)) ∧ zgo cal P Q h (f x) := by
  unfold zldA at hg
  split at hg
  · rename_i e; exact ⟨some _, e, hg⟩
  · rename_i e; exact ⟨none, e, hg⟩
  · exact hg.elim
theorem zif_x {cal : Nat → List Value → zH → (Option Value → zH → Prop) → Prop} {P : Nat → zL → zS → zH → Prop} {Q : Option Value → zH → Prop} {h : zH} {cd : Prop} {o : Option zO} (hg : zgo cal P Q h (zif cd o)) : cd ∧ zgo cal P Q h o := by
  unfold zif at hg
  by_cases q : cd
  · rw [if_pos q] at hg; exact ⟨q, hg⟩
  · rw [if_neg q] at hg; exact hg.elim
theorem zsw_T {pc : Nat} {x : Int32} {dflt : Nat} : ∀ (os : List Int) (lo : Int) (ks : List (Int32 × Nat)), zksT pc lo os ks = true → -2147483648 ≤ lo → lo + os.length ≤ 2147483648 →
    ((x.toInt < lo ∨ lo + os.length ≤ x.toInt) → zsw ks dflt x = dflt) ∧ (¬ x.toInt < lo → x.toInt < lo + os.length → ∃ o, os[(x.toInt - lo).toNat]? = some o ∧ (pc : Int) + o = (zsw ks dflt x : Int))
  | [], lo, [], _, _, _ => ⟨fun _ => rfl, fun h1 h2 => by simp at h2; omega⟩
  | [], _, _ :: _, h, _, _ => by cases h
  | _ :: _, _, [], h, _, _ => by cases h
  | o :: os, lo, q :: ks, h, h1, h2 => by
    simp only [zksT, Bool.and_eq_true, decide_eq_true_eq] at h
    simp only [List.length_cons] at h2
    obtain ⟨ih1, ih2⟩ := zsw_T (x := x) (dflt := dflt) os (lo + 1) ks h.2 (by omega) (by omega)
    have hx : x = q.1 ↔ x.toInt = lo := by
      rw [h.1.1, ← Int32.toInt_inj, Int32.toInt_ofInt_of_le (by omega) (by omega)]
    simp only [zsw, List.length_cons]
    by_cases hq : x = q.1
    · have hx' := hx.mp hq
      rw [if_pos hq]
      refine ⟨fun z => by omega, fun _ _ => ⟨o, by rw [hx']; simp, h.1.2⟩⟩
    · have hx' : ¬ x.toInt = lo := fun z => hq (hx.mpr z)
      rw [if_neg hq]
      refine ⟨fun z => ih1 (by omega), fun z1 z2 => ?_⟩
      obtain ⟨o', g1, g2⟩ := ih2 (by omega) (by omega)
      refine ⟨o', ?_, g2⟩
      rw [show (x.toInt - lo).toNat = (x.toInt - (lo + 1)).toNat + 1 by omega]
      exact g1
theorem zsw_L {pc : Nat} {x : Int32} {dflt : Nat} {df : Int} (hd : (pc : Int) + df = (dflt : Int)) : ∀ (ps : List (Int × Int)) (ks : List (Int32 × Nat)), zksL pc ps ks = true → (pc : Int) + Op.lookupswitch.offset ps df x.toInt = (zsw ks dflt x : Int)
  | [], [], _ => hd
  | [], _ :: _, h => by cases h
  | _ :: _, [], h => by cases h
  | (a1, a2) :: ps, q :: ks, h => by
    simp only [zksL, Bool.and_eq_true, decide_eq_true_eq] at h
    have ih := zsw_L (x := x) hd ps ks h.2
    have hx : x = q.1 ↔ a1 = x.toInt := by
      rw [h.1.1.1, ← Int32.toInt_inj, Int32.toInt_ofInt_of_le (by omega) (by omega)]
      exact ⟨fun z => z.symm, fun z => z.symm⟩
    show (pc : Int) + (if a1 = x.toInt then a2 else Op.lookupswitch.offset ps df x.toInt) = ((if x = q.1 then q.2 else zsw ks dflt x : Nat) : Int)
    by_cases hq : x = q.1
    · rw [if_pos hq, if_pos (hx.mp hq)]
      exact h.1.1.2
    · rw [if_neg hq, if_neg (fun z => hq (hx.mpr z))]
      exact ih
end
end
section
theorem zcls_of {c k : Nat} (hk : 12 < k) (h99 : k ≠ 99) (h : zcls c = k) : c < 89 := by
  by_cases h2 : c < 89
  · exact h2
  · exfalso
    have : zcls c = 99 := by
      unfold zcls
      rw [List.getD_eq_getElem?_getD, List.getElem?_eq_none (by simp [zShA]; omega)]; rfl
    omega
theorem zcls_20 {c : Nat} (h : zcls c = 20) : c = 80 ∨ c = 81 ∨ c = 82 := by
  have hc := zcls_of (by omega) (by omega) h
  have key : ∀ k : Fin 89, zcls k.val = 20 → (k.val = 80 ∨ k.val = 81 ∨ k.val = 82) := by decide
  exact key ⟨c, hc⟩ h
theorem zcls_21 {c : Nat} (h : zcls c = 21) : c = 84 := by
  have hc := zcls_of (by omega) (by omega) h
  have key : ∀ k : Fin 89, zcls k.val = 21 → k.val = 84 := by decide
  exact key ⟨c, hc⟩ h
theorem zcls_22 {c : Nat} (h : zcls c = 22) : c = 83 := by
  have hc := zcls_of (by omega) (by omega) h
  have key : ∀ k : Fin 89, zcls k.val = 22 → k.val = 83 := by decide
  exact key ⟨c, hc⟩ h
theorem zcls_23 {c : Nat} (h : zcls c = 23) : ∃ i, i < 3 ∧ c = 86 + i := by
  have hc := zcls_of (by omega) (by omega) h
  have key : ∀ k : Fin 89, zcls k.val = 23 → (86 ≤ k.val) := by decide
  have := key ⟨c, hc⟩ h
  simp only at this
  exact ⟨c - 86, by omega, by omega⟩
section
variable {p : Program} {l : Launch} {e : Env} {R : Room} {s : State} {m : MethodId} {args : Array Value} {below : List Frame} {meth : Method} {c : Code} {cells slots : Nat} {Qf : State → Prop}
variable {ad : Nat → Nat} {D : va_G} {ca : Nat → ClassId} {adV : Nat → Nat} {A : Nat → Prop}
/-- what is known while a method runs, whichever it is -/
def zctx (p : Program) (R : Room) (s : State) (m : MethodId) (args : Array Value) (c : Code) (cells slots : Nat) (ad : Nat → Nat) (D : va_G) (ca : Nat → ClassId) (adV : Nat → Nat) (A : Nat → Prop) (h0 : zH) (own : String) (cc : ByteArray) (nL d : Nat) : Prop :=
  p.tables.exec = Jvm.exec ∧ c.code = cc ∧ c.maxLocals = nL ∧ s.vm.findClass own = some m.cls ∧ (∀ w ∈ zgt, w.before args s = true) ∧ va_K D zcl (zty ca) s ∧ (∀ h, va_D A (zwl ad ca h)) ∧ zcn ad adV A h0 s s.heap ∧ d ≤ R.frames ∧ 64 * d ≤ R.locals ∧ cells ≤ R.cells ∧ slots ≤ R.slots
theorem zctx_nest {h0 : zH} {own : String} {cc : ByteArray} {nL d : Nat} (K : zctx p R s m args c cells slots ad D ca adV A h0 own cc nL d) {w : Jvm.Cond} {u : Nat} (h : zN u w = true) : va_Nw w s := K.2.2.2.2.2.2.2.1.2.2.2.2.2 w (zN_in h).1 (zN_in h).2
theorem zctx_nestB {h0 : zH} {own : String} {cc : ByteArray} {nL d : Nat} (K : zctx p R s m args c cells slots ad D ca adV A h0 own cc nL d) {a : String} {i : Nat} {b n ds g : String} {u : Nat} (h : zN u (.fieldLinkNest a i b n ds g) = true) : (Cond.fieldLinkNest a i b n ds g).before args s = true := va_Nw.use rfl (zctx_nest K h)
/-- reading and writing a field -/
theorem zs_get {h0 h : zH} {own : String} {cc : ByteArray} {nL d : Nat} (K : zctx p R s m args c cells slots ad D ca adV A h0 own cc nL d) {u i a b x pc : Nat} {ls : Array Slot} {r : List Value} {H : Heap} {locs : List Loc} (hP : va_P D zcl (zwl ad ca h) H) (hF : zF u own i a b = true) (hc : zcls x = a) (hdg : decode cc pc = .ok (.getfield i, 3))
    (kk : W p l e R s m args below meth c H locs cells slots Qf (F0 m (pc + 3) ls (ztr ad (zfv h a b x) :: r))) : W p l e R s m args below meth c H locs cells slots Qf (F0 m pc ls (.ref (ad x) :: r)) := by
  obtain ⟨hx, hb, hml, hown, hts, hK, hD, hC, -⟩ := id K
  unfold zF at hF
  split at hF
  · rename_i q hq
    obtain ⟨ha, hn, ⟨ty0, hty⟩, hnm, hu⟩ := zcl_ok hq
    simp only [Bool.and_eq_true, Bool.or_eq_true, decide_eq_true_eq] at hF
    obtain ⟨⟨hbn, hdc⟩, hl⟩ := hF
    have hxl : x < 80 := zcls_lt (by omega)
    have he : (zwl ad ca h)[x]? = some (ad x, .inr (a, (List.range (znf a)).map (zfld ad h a x))) := by rw [zwl_get hxl, zenc_obj hc ha]
    have hv : ((List.range (znf a)).map (zfld ad h a x))[b]? = some (ztr ad (zfv h a b x)) := by
      rw [zfv_tr]
      simp [hn, hbn]
    have hsame : ∀ z, s.fieldFound? (q.2.1 b).1 (q.2.1 b).2.1 (q.2.1 b).2.2.1 = some z → s.fieldFound? q.1 (q.2.1 b).2.1 (q.2.1 b).2.2.1 = some z := by rw [hdc]; exact fun _ z => z
    rcases hl with hl | hl
    · exact va_get (C := q.1) (T := q.2.1) (N := q.2.2) hx hb hts hu hown hK hP x he hq b hbn (hts _ (zG_gt hl)) hsame hv hdg kk
    · exact va_getN (C := q.1) (T := q.2.1) (N := q.2.2) hx hb hts hu hown hK hP x he hq b hbn (zctx_nestB K hl) hsame hv hdg kk
  · cases hF
theorem zs_put {h0 h : zH} {own : String} {cc : ByteArray} {nL d : Nat} (K : zctx p R s m args c cells slots ad D ca adV A h0 own cc nL d) {u i a b dd x pc : Nat} {y : Int32} {ls : Array Slot} {r : List Value} {H : Heap} {locs : List Loc} (hP : va_P D zcl (zwl ad ca h) H) (hS : va_S A s.heap H locs) (hF : zF u own i a b = true) (hW : zFw a b dd = true) (hc : zcls x = a) (hy : dd = 0 ∨ y = 0 ∨ y = 1) (hdg : decode cc pc = .ok (.putfield i, 3))
    (kk : ∀ (H1 : Heap) (locs1 : List Loc), va_P D zcl (zwl ad ca (zhr h x (upd (h x) b y))) H1 → va_S A s.heap H1 locs1 → W p l e R s m args below meth c H1 locs1 cells slots Qf (F0 m (pc + 3) ls r)) : W p l e R s m args below meth c H locs cells slots Qf (F0 m pc ls (.int y :: .ref (ad x) :: r)) := by
  obtain ⟨hx, hb, hml, hown, hts, hK, hD, hC, -⟩ := id K
  unfold zF at hF
  unfold zFw at hW
  split at hF
  · rename_i q hq
    rw [hq] at hW
    obtain ⟨ha, hn, ⟨ty0, hty⟩, hnm, hu⟩ := zcl_ok hq
    simp only [Bool.and_eq_true, Bool.or_eq_true, decide_eq_true_eq] at hF hW
    obtain ⟨⟨hbn, hdc⟩, hl⟩ := hF
    obtain ⟨⟨hfin, hrf⟩, hd⟩ := hW
    have hxl : x < 80 := zcls_lt (by omega)
    have he : (zwl ad ca h)[x]? = some (ad x, .inr (a, (List.range (znf a)).map (zfld ad h a x))) := by rw [zwl_get hxl, zenc_obj hc ha]
    have hsame : ∀ z, s.fieldFound? (q.2.1 b).1 (q.2.1 b).2.1 (q.2.1 b).2.2.1 = some z → s.fieldFound? q.1 (q.2.1 b).2.1 (q.2.1 b).2.2.1 = some z := by rw [hdc]; exact fun _ z => z
    have hlen : b < ((List.range (znf a)).map (zfld ad h a x)).length := by simp [hn, hbn]
    have hset : (zwl ad ca h).set x (ad x, .inr (a, ((List.range (znf a)).map (zfld ad h a x)).set b (.int y))) = zwl ad ca (zhr h x (upd (h x) b y)) := by
      refine zwl_set hxl (fun c' n => zhr_ne h _ n) ?_
      rw [zenc_obj hc ha]
      congr 2
      apply List.ext_getElem?
      intro j
      by_cases hj : j < znf a
      · by_cases hjb : j = b
        · subst hjb
          rw [List.getElem?_set_self hlen]
          simp [hj, zfld, zrfo_any hrf, zhr_same, upd]
        · rw [List.getElem?_set_ne (Ne.symm hjb)]
          simp [hj, zfld, zhr_same, upd, hjb]
      · rw [List.getElem?_eq_none (by simp; omega), List.getElem?_eq_none (by simp; omega)]
    have kk' : ∀ (H1 : Heap) (locs1 : List Loc), va_P D zcl ((zwl ad ca h).set x (ad x, .inr (a, ((List.range (znf a)).map (zfld ad h a x)).set b (.int y)))) H1 → va_D A ((zwl ad ca h).set x (ad x, .inr (a, ((List.range (znf a)).map (zfld ad h a x)).set b (.int y)))) → va_S A s.heap H1 locs1 → W p l e R s m args below meth c H1 locs1 cells slots Qf (F0 m (pc + 3) ls r) := by
      rw [hset]
      exact fun H1 locs1 q1 _ q3 => kk H1 locs1 q1 q3
    have fin : ∀ ty, parseFieldDescriptor (q.2.1 b).2.2.1 = some ty → narrow ty (.int y) = .int y → fits ty (.int y) = true → W p l e R s m args below meth c H locs cells slots Qf (F0 m pc ls (.int y :: .ref (ad x) :: r)) := by
      intro ty h1 h2 h3
      rcases hl with hl | hl
      · exact va_put (C := q.1) (T := q.2.1) (N := q.2.2) hx hb hts hu ty0 hty hnm hown hK hP (hD h) hS x he hq b hbn (hts _ (zG_gt hl)) hsame hfin h1 h2 h3 hlen hdg kk'
      · exact va_putN (C := q.1) (T := q.2.1) (N := q.2.2) hx hb hts hu ty0 hty hnm hown hK hP (hD h) hS x he hq b hbn (zctx_nestB K hl) hsame hfin h1 h2 h3 hlen hdg kk'
    rcases hd with hd | ⟨hd1, hd2⟩
    · exact fin .int hd rfl rfl
    · have hy' : y = 0 ∨ y = 1 := by
        rcases hy with z | z
        · omega
        · exact z
      rcases hy' with rfl | rfl
      · exact fin .boolean hd2 (by decide) (by decide)
      · exact fin .boolean hd2 (by decide) (by decide)
  · cases hF
theorem zs_iald {h0 h : zH} {own : String} {cc : ByteArray} {nL d : Nat} (K : zctx p R s m args c cells slots ad D ca adV A h0 own cc nL d) (e84 : h 84 = h0 84 ∧ h 85 = h0 85) {x pc : Nat} {i : Int32} {ls : Array Slot} {r : List Value} {H : Heap} {locs : List Loc} (hP : va_P D zcl (zwl ad ca h) H) (hS : va_S A s.heap H locs) (hdg : decode cc pc = .ok (.iaload, 1)) (v : Int32)
    (hv : (zcls x = 10 ∧ zok i (zaln x) ∧ v = h x (zix i)) ∨ (zcls x = 20 ∧ zok i (zaln x) ∧ v = zkon x (zix i)) ∨ (zcls x = 21 ∧ zok i (zix (h 85 0)) ∧ v = h 84 (zix i)))
    (kk : W p l e R s m args below meth c H locs cells slots Qf (F0 m (pc + 1) ls (.int v :: r))) : W p l e R s m args below meth c H locs cells slots Qf (F0 m pc ls (.int i :: .ref (ad x) :: r)) := by
  obtain ⟨hx, hb, hml, hown, hts, hK, hD, hC, -⟩ := id K
  rcases hv with ⟨h1, h2, rfl⟩ | ⟨h1, h2, rfl⟩ | ⟨h1, h2, rfl⟩
  · exact va_iald hx hb hK hP x 0 (by rw [zwl_get (zcls_lt (by omega)), zenc_arr h1]) rfl (zok_in h2) hdg kk
  · have hx3 : x = 80 ∨ x = 81 ∨ x = 82 := zcls_20 h1
    rcases hx3 with rfl | rfl | rfl
    · exact va_ti hx hb (hC.1 (RX0, "ABOVE", "[I", .int, 80) (List.mem_of_getElem? (i := 0) rfl)).2 hS (zok_in h2) rfl hdg kk
    · exact va_ti hx hb (hC.1 (RX5, "LOWEST", "[I", .int, 81) (List.mem_of_getElem? (i := 1) rfl)).2 hS (zok_in h2) rfl hdg kk
    · exact va_ti hx hb (hC.1 (RX5, "HIGHEST", "[I", .int, 82) (List.mem_of_getElem? (i := 2) rfl)).2 hS (zok_in h2) rfl hdg kk
  · have hx3 : x = 84 := zcls_21 h1
    subst hx3
    obtain ⟨g1, g2, g3, g4⟩ := hC.2.2.2.2.1
    rw [e84.2] at h2
    rw [e84.1] at kk
    exact va_sld hx hb g1 g3 g4 hS (zok_in h2) hdg kk
end
end
section
theorem zyR_ok {y : Nat} (h : y < 202) : ∃ u, zmok u (zyR y) = true := by
  refine zmok_all _ ?_
  have hl : y < zyT.length := by rw [zyT_len]; exact h
  unfold zyR
  rw [List.getD_eq_getElem?_getD, List.getElem?_eq_getElem hl]
  exact List.getElem_mem hl
/-- what the tables say of a method by its number -/
def zyok (y : Nat) : Prop := Cond.code (zyN y) (zyB y) (zyL y) (zyQ y) ∈ zgt ∧ Cond.initialized (zyN y).cls ∈ zgt ∧ (zyS y = true → Cond.static (zyN y) ∈ zgt) ∧ (zyS y = false → Cond.instanceMethod (zyN y) ∈ zgt ∧ Cond.selects (zyN y).cls (zyN y) (zyN y) ∈ zgt) ∧ plainName (zyN y).cls = true ∧ ((zyN y).cls ≠ "java/lang/invoke/MethodHandle" ∧ (zyN y).cls ≠ "java/lang/invoke/VarHandle" ∧ (parseMethodDescriptor (zyN y).desc).map (fun d => d.parameters.length) = some (zyP y)) ∧ zyL y ≤ 30
theorem zy_ok {y : Nat} (h : y < 202) : zyok y := by
  obtain ⟨u, hu⟩ := zyR_ok h
  simp only [zmok, Bool.and_eq_true, decide_eq_true_eq] at hu
  obtain ⟨⟨⟨⟨⟨⟨h1, h2⟩, h3⟩, h4⟩, h5⟩, h6⟩, h7⟩ := hu
  refine ⟨zG_gt h1, zG_gt h2, fun hs => ?_, fun hs => ?_, h4, ⟨h5.1, h5.2, h6⟩, h7⟩
  · have hs' : (zyR y).2.2.2.2.2 = true := hs
    rw [if_pos hs'] at h3
    exact zG_gt h3
  · have hs' : ¬ (zyR y).2.2.2.2.2 = true := by
      have : (zyR y).2.2.2.2.2 = false := hs
      rw [this]; decide
    rw [if_neg hs', Bool.and_eq_true] at h3
    exact ⟨zG_gt h3.1, zG_gt h3.2⟩
theorem zws_gt {w : Jvm.Cond} {ws : List Jvm.Cond} (h : w ∈ zgt) (he : ws = w :: zgt) : GoodIn zgt ws := by
  subst he
  intro v hv
  rcases List.mem_cons.mp hv with rfl | hv
  · exact ⟨h, good_of_word (zgt_good h).2⟩
  · exact ⟨hv, good_of_word (zgt_good hv).2⟩
section
variable {p : Program} {l : Launch} {e : Env} {R : Room} {s : State} {m : MethodId} {args : Array Value} {below : List Frame} {meth : Method} {c : Code} {cells slots : Nat} {Qf : State → Prop}
variable {ad : Nat → Nat} {D : va_G} {ca : Nat → ClassId} {adV : Nat → Nat} {A : Nat → Prop}
theorem zs_pre {h0 h : zH} {own : String} {cc : ByteArray} {nL d : Nat} (K : zctx p R s m args c cells slots ad D ca adV A h0 own cc nL d) (e84 : h 84 = h0 84 ∧ h 85 = h0 85) {H : Heap} {locs : List Loc} (hP : va_P D zcl (zwl ad ca h) H) (hS : va_S A s.heap H locs) : ∀ U : State, U.heap = H → s.WarmedH U.vm → zpre ad D ca adV A h U := by
  obtain ⟨hx, hb, hml, hown, hts, hK, hD, hC, -⟩ := id K
  intro U hU hW
  subst hU
  exact ⟨hP, va_K.moved hW.alike hK, zcn_move hW hS.1 hS.2.1 e84 hC⟩
theorem zs_callS {h0 h : zH} {own : String} {cc : ByteArray} {nL d : Nat} (K : zctx p R s m args c cells slots ad D ca adV A h0 own cc nL (d + 1)) (e84 : h 84 = h0 84 ∧ h 85 = h0 85) {u i y pc : Nat} {As rest : List Value} {ls : Array Slot} {H : Heap} {locs : List Loc} {Q : Option Value → zH → Prop} (hM : zMet l ad D ca adV A d (zyN y) (zws y) As h Q) (hy : y < 202) (hlk : zML u own i (zyN y) = true) (hst : zyS y = true) (hn : As.length = zyP y)
    (hl : ls.size = nL) (hP : va_P D zcl (zwl ad ca h) H) (hS : va_S A s.heap H locs) (hr : rest.length ≤ 4) (hdg : decode cc pc = .ok (.invokestatic i, 3))
    (kk : ∀ (v : Option Value) (h' : zH) (H1 : Heap) (locs1 : List Loc), Q v h' → (h' 84 = h 84 ∧ h' 85 = h 85) → va_P D zcl (zwl ad ca h') H1 → va_S A s.heap H1 locs1 → W p l e R s m args below meth c H1 locs1 cells slots Qf (F0 m (pc + 3) ls ((v.map (ztr ad)).toList ++ rest.map (ztr ad)))) : W p l e R s m args below meth c H locs cells slots Qf (F0 m pc ls ((As.map (ztr ad)).reverse ++ rest.map (ztr ad))) := by
  obtain ⟨hx, hb, hml, hown, hts, hK, hD, hC, hR1, hR2, hR3, hR4⟩ := id K
  obtain ⟨y1, y2, y3, y4, y5, y6, y7⟩ := zy_ok hy
  have hW : 2 * (F0 m pc ls ((As.map (ztr ad)).reverse ++ rest.map (ztr ad))).monitorRoom + ((rest.map (ztr ad)).map fun v => v.category).sum ≤ 8 := by
    have := zcat_sum (rest.map (ztr ad))
    rw [List.length_map] at this
    exact lv_room (by omega)
  have hp : PreS s H (va_Pc (As.map (ztr ad)) (zpre ad D ca adV A h)) (As.map (ztr ad)) := ⟨zblind, fun U hU hW => ⟨rfl, zs_pre K e84 hP hS U hU hW⟩⟩
  have hroom : (zrm d).frames + 1 ≤ R.frames ∧ 8 + (zyL y + 11) + (zrm d).locals ≤ R.locals := ⟨hR1, by show 8 + (zyL y + 11) + 64 * d ≤ R.locals; omega⟩
  simp only [zML, Bool.or_eq_true] at hlk
  rcases hlk with hlk | hlk
  · exact zcall (va_runS (As := As.map (ztr ad)) ⟨hx, hb, hml, hown, hts⟩ hM ⟨callB_of (zyP y) hts (zws_gt y1 rfl) rfl rfl rfl (hts _ y2) (hts _ (zG_gt hlk)) y6 hroom, hts _ (y3 hst)⟩ hp rfl (by rw [List.length_map]; exact hn) hl rfl hW hdg ⟨hR3, hR4⟩) hS kk
  · exact zcall (va_runSN (As := As.map (ztr ad)) ⟨hx, hb, hml, hown, hts⟩ hM ⟨va_cnB (zyP y) hts (zws_gt y1 rfl) rfl rfl rfl (zctx_nest K hlk) (hts _ y2) y6 hroom, hts _ (y3 hst), trivial⟩ hp rfl (by rw [List.length_map]; exact hn) hl rfl hW hdg ⟨hR3, hR4⟩) hS kk
theorem zs_callV {h0 h : zH} {own : String} {cc : ByteArray} {nL d : Nat} (K : zctx p R s m args c cells slots ad D ca adV A h0 own cc nL (d + 1)) (e84 : h 84 = h0 84 ∧ h 85 = h0 85) {u i y pc x dd : Nat} {As rest : List Value} {ls : Array Slot} {H : Heap} {locs : List Loc} {Q : Option Value → zH → Prop} (hM : zMet l ad D ca adV A d (zyN y) (zws y) (.ref x :: As) h Q) (hy : y < 202) (hlk : zML u own i (zyN y) = true) (hst : zyS y = false) (hn : As.length = zyP y) (hc : zcls x = dd) (hcl : (zcl[dd]?).map (·.1) = some (zyN y).cls)
    (hl : ls.size = nL) (hP : va_P D zcl (zwl ad ca h) H) (hS : va_S A s.heap H locs) (hr : rest.length ≤ 4) (hdg : decode cc pc = .ok (.invokevirtual i, 3))
    (kk : ∀ (v : Option Value) (h' : zH) (H1 : Heap) (locs1 : List Loc), Q v h' → (h' 84 = h 84 ∧ h' 85 = h 85) → va_P D zcl (zwl ad ca h') H1 → va_S A s.heap H1 locs1 → W p l e R s m args below meth c H1 locs1 cells slots Qf (F0 m (pc + 3) ls ((v.map (ztr ad)).toList ++ rest.map (ztr ad)))) : W p l e R s m args below meth c H locs cells slots Qf (F0 m pc ls ((As.map (ztr ad)).reverse ++ .ref (ad x) :: rest.map (ztr ad))) := by
  obtain ⟨hx, hb, hml, hown, hts, hK, hD, hC, hR1, hR2, hR3, hR4⟩ := id K
  obtain ⟨y1, y2, y3, y4, y5, y6, y7⟩ := zy_ok hy
  have hW : 2 * (F0 m pc ls ((As.map (ztr ad)).reverse ++ .ref (ad x) :: rest.map (ztr ad))).monitorRoom + ((rest.map (ztr ad)).map fun v => v.category).sum ≤ 8 := by
    have := zcat_sum (rest.map (ztr ad))
    rw [List.length_map] at this
    exact lv_room (by omega)
  obtain ⟨q, hq, hqc⟩ : ∃ q, zcl[dd]? = some q ∧ q.1 = (zyN y).cls := by
    cases hz : zcl[dd]? with
    | none => rw [hz] at hcl; cases hcl
    | some q => rw [hz] at hcl; exact ⟨q, rfl, Option.some.inj hcl⟩
  have hdd : dd < 8 := (zcl_ok hq).1
  have hxl : x < 80 := zcls_lt (by omega)
  have hrecv := va_recv hK hP hq (q0 := x) (a := ad x) (fs := (List.range (znf dd)).map (zfld ad h dd x)) (by rw [zwl_get hxl, zenc_obj hc hdd])
  rw [hqc] at hrecv
  have hp : PreV s H (zyN y).cls (ad x) (va_Pc ((.ref x :: As).map (ztr ad)) (zpre ad D ca adV A h)) (As.map (ztr ad)) := ⟨zblind, hrecv, fun U hU hW => ⟨rfl, zs_pre K e84 hP hS U hU hW⟩⟩
  have hroom : (zrm d).frames + 1 ≤ R.frames ∧ 8 + (zyL y + 11) + (zrm d).locals ≤ R.locals := ⟨hR1, by show 8 + (zyL y + 11) + 64 * d ≤ R.locals; omega⟩
  simp only [zML, Bool.or_eq_true] at hlk
  rcases hlk with hlk | hlk
  · exact zcall (va_runV (C := (zyN y).cls) (As := As.map (ztr ad)) ⟨hx, hb, hml, hown, hts⟩ hM ⟨callB_of (zyP y) hts (zws_gt y1 rfl) rfl rfl rfl (hts _ y2) (hts _ (zG_gt hlk)) y6 hroom, hts _ (y4 hst).1, hts _ (y4 hst).2⟩ hp rfl (by rw [List.length_map]; exact hn) hl rfl hW hdg ⟨hR3, hR4⟩) hS kk
  · exact zcall (va_runVN (C := (zyN y).cls) (As := As.map (ztr ad)) ⟨hx, hb, hml, hown, hts⟩ hM ⟨va_cnB (zyP y) hts (zws_gt y1 rfl) rfl rfl rfl (zctx_nest K hlk) (hts _ y2) y6 hroom, hts _ (y4 hst).1, hts _ (y4 hst).2⟩ hp rfl (by rw [List.length_map]; exact hn) hl rfl hW hdg ⟨hR3, hR4⟩) hS kk
/-- the two members of String, as the machine's words have them -/
def zwJ (y : MethodName) (b : ByteArray) (n : Nat) (r : Option FieldType) : List Jvm.Cond := .code y b n r :: zgt
def zstr (l : Launch) (ad : Nat → Nat) (D : va_G) (ca : Nat → ClassId) (adV : Nat → Nat) (A : Nat → Prop) : Prop :=
  (∀ (d x : Nat) (h : zH) (Q : Option Value → zH → Prop), 8 ≤ d → zcls x = 23 → Q (some (.int 4)) h → zMet l ad D ca adV A d yJ0_length_8abf5 (zwJ yJ0_length_8abf5 cJ0_length_8abf5 1 (some .int)) [.ref x] h Q)
  ∧ ∀ (d x : Nat) (i : Int32) (h : zH) (Q : Option Value → zH → Prop), 8 ≤ d → zcls x = 23 → zok i 4 → Q (some (.int (([[116,111,108,108],[112,117,108,108],[102,105,110,101]].getD (x - 86) []).getD (zix i) 0))) h → zMet l ad D ca adV A d yJ0_charAt_5068e (zwJ yJ0_charAt_5068e cJ0_charAt_5068e 2 (some .char)) [.ref x, .int i] h Q
theorem zs_callJ {h0 h : zH} {own : String} {cc : ByteArray} {nL d : Nat} (K : zctx p R s m args c cells slots ad D ca adV A h0 own cc nL (d + 1)) (e84 : h 84 = h0 84 ∧ h 85 = h0 85) {u i pc x mL n : Nat} {y : MethodName} {b : ByteArray} {rt : Option FieldType} {As rest : List Value} {ls : Array Slot} {H : Heap} {locs : List Loc} {Q : Option Value → zH → Prop} (hM : zMet l ad D ca adV A d y (zwJ y b mL rt) (.ref x :: As) h Q) (hlk : zG u (.methodLink own i y) = true) (hcode : Cond.code y b mL rt ∈ zgt) (hini : Cond.initialized y.cls ∈ zgt) (hinst : Cond.instanceMethod y ∈ zgt) (hsel : Cond.selects y.cls y y ∈ zgt) (hcls : y.cls = "java/lang/String") (hd : y.cls ≠ "java/lang/invoke/MethodHandle" ∧ y.cls ≠ "java/lang/invoke/VarHandle" ∧ (parseMethodDescriptor y.desc).map (fun d => d.parameters.length) = some n) (hmL : mL ≤ 30) (hn : As.length = n) (hc : zcls x = 23)
    (hl : ls.size = nL) (hP : va_P D zcl (zwl ad ca h) H) (hS : va_S A s.heap H locs) (hr : rest.length ≤ 4) (hdg : decode cc pc = .ok (.invokevirtual i, 3))
    (kk : ∀ (v : Option Value) (h' : zH) (H1 : Heap) (locs1 : List Loc), Q v h' → (h' 84 = h 84 ∧ h' 85 = h 85) → va_P D zcl (zwl ad ca h') H1 → va_S A s.heap H1 locs1 → W p l e R s m args below meth c H1 locs1 cells slots Qf (F0 m (pc + 3) ls ((v.map (ztr ad)).toList ++ rest.map (ztr ad)))) : W p l e R s m args below meth c H locs cells slots Qf (F0 m pc ls ((As.map (ztr ad)).reverse ++ .ref (ad x) :: rest.map (ztr ad))) := by
  obtain ⟨hx, hb, hml, hown, hts, hK, hD, hC, hR1, hR2, hR3, hR4⟩ := id K
  have hW : 2 * (F0 m pc ls ((As.map (ztr ad)).reverse ++ .ref (ad x) :: rest.map (ztr ad))).monitorRoom + ((rest.map (ztr ad)).map fun v => v.category).sum ≤ 8 := by
    have := zcat_sum (rest.map (ztr ad))
    rw [List.length_map] at this
    exact lv_room (by omega)
  obtain ⟨j, hj, rfl⟩ := zcls_23 hc
  have hrecv := vk_recv hC.2.2.1 hj hS
  rw [← hcls] at hrecv
  have hp : PreV s H y.cls (ad (86 + j)) (va_Pc ((.ref (86 + j) :: As).map (ztr ad)) (zpre ad D ca adV A h)) (As.map (ztr ad)) := ⟨zblind, hrecv, fun U hU hW => ⟨rfl, zs_pre K e84 hP hS U hU hW⟩⟩
  have hroom : (zrm d).frames + 1 ≤ R.frames ∧ 8 + (mL + 11) + (zrm d).locals ≤ R.locals := ⟨hR1, by show 8 + (mL + 11) + 64 * d ≤ R.locals; omega⟩
  exact zcall (va_runV (C := y.cls) (As := As.map (ztr ad)) ⟨hx, hb, hml, hown, hts⟩ hM ⟨callB_of n hts (zws_gt hcode rfl) rfl rfl rfl (hts _ hini) (hts _ (zG_gt hlk)) hd hroom, hts _ hinst, hts _ hsel⟩ hp rfl (by rw [List.length_map]; exact hn) hl rfl hW hdg ⟨hR3, hR4⟩) hS kk
end
end
section
/-! methods by depth -/
theorem zent1_def (vs : List Value) : vs.flatMap (fun v => if v.category = 2 then [some v, none] else [some v]) = zent1 vs := rfl
/-- the arguments fit a method: so many locals; longs in one method alone -/
def zargB (n y : Nat) (as : List Value) : Bool := Nat.ble (zent1 as).length n && (Nat.beq y 106 || as.all (fun v => Nat.beq v.category 1))
def zM (d : Nat) (y : Nat) (as : List Value) (h : zH) (Q : Option Value → zH → Prop) : Prop := match d with
  | 0 => False
  | d + 1 => (1000 ≤ y → zbi d y as h Q) ∧ (y < 1000 → zargB (zyL y) y as = true ∧ zX0 (zM d) (zcod y) Q 0 (zent as (zyL y)) [] h)
theorem zM_mono : ∀ (d : Nat) (y : Nat) (a : List Value) (h : zH) (Q Q' : Option Value → zH → Prop), (∀ r h, Q r h → Q' r h) → zM d y a h Q → zM d y a h Q'
  | 0, _, _, _, _, _, _, hg => by unfold zM at hg; exact hg.elim
  | d + 1, y, a, h, Q, Q', hQ, hg => by
    unfold zM at hg ⊢
    exact ⟨fun q => zbi_mono hQ (hg.1 q), fun q => ⟨(hg.2 q).1, zX0_mono (zM_mono d) hQ (hg.2 q).2⟩⟩
theorem zM_0 (y : Nat) (as : List Value) (h : zH) (Q : Option Value → zH → Prop) : zM 0 y as h Q = False := rfl
theorem zM_S (d y : Nat) (as : List Value) (h : zH) (Q : Option Value → zH → Prop) : zM (d + 1) y as h Q = ((1000 ≤ y → zbi d y as h Q) ∧ (y < 1000 → zargB (zyL y) y as = true ∧ zX0 (zM d) (zcod y) Q 0 (zent as (zyL y)) [] h)) := rfl
end
section
section
variable {p : Program} {l : Launch} {e : Env} {R : Room} {s : State} {m : MethodId} {args : Array Value} {below : List Frame} {meth : Method} {c : Code} {cells slots : Nat} {Qf : State → Prop}
variable {ad : Nat → Nat} {D : va_G} {ca : Nat → ClassId} {adV : Nat → Nat} {A : Nat → Prop}
theorem zgo_in {cal : Nat → List Value → zH → (Option Value → zH → Prop) → Prop} {P : Nat → zL → zS → zH → Prop} {Q : Option Value → zH → Prop} {h h' : zH} {pc : Nat} {lv : zL} {st : zS} (hg : zgo cal P Q h (some (.inl (pc, lv, st, h')))) : P pc lv st h' := hg
theorem zcat1 {lv : zL} {nL : Nat} {ls : Array Slot} (h : zlv ad true ls nL lv) {i : Nat} {v : Value} (hi : lv[i]? = some (some v)) : v.category = 1 := h.2.2 rfl i v hi
theorem zrf_tr (o : Option Nat) : ztr ad (zrf o) = .null ∨ ∃ a, ztr ad (zrf o) = .ref a := by
  cases o with
  | none => exact Or.inl rfl
  | some a => exact Or.inr ⟨ad a, rfl⟩
theorem zne84 {c : Nat} (h : c < 80) : 84 ≠ c := by omega
theorem zne85 {c : Nat} (h : c < 80) : 85 ≠ c := by omega
theorem znol {b : Bool} {nol : Bool} {x y : Prop} (h : nol = true) : nol = true := h
set_option maxHeartbeats 4000000 in
theorem zstep {h0 : zH} {own : String} {cc : ByteArray} {nL d : Nat} {nol : Bool} {rk : Option FieldType} {Q : Option Value → zH → Prop} (K : zctx p R s m args c cells slots ad D ca adV A h0 own cc nL d) (hJ : zstr l ad D ca adV A)
    (hM : ∀ d', d = d' + 1 → ∀ (y : Nat) (as : List Value) (h : zH) (Q' : Option Value → zH → Prop), y < 202 → zM d y as h Q' → zMet l ad D ca adV A d' (zyN y) (zws y) as h Q')
    (hretI : ∀ (pc : Nat) (ls : Array Slot) (H : Heap) (locs : List Loc) (h : zH) (x : Int32), decode cc pc = .ok (.ireturn, 1) → (rk = some .int ∨ (rk = some .boolean ∧ (x = 0 ∨ x = 1))) → Q (some (.int x)) h → (h 84 = h0 84 ∧ h 85 = h0 85) → va_P D zcl (zwl ad ca h) H → va_S A s.heap H locs → W p l e R s m args below meth c H locs cells slots Qf (F0 m pc ls [.int x]))
    (hretA : ∀ (pc : Nat) (ls : Array Slot) (H : Heap) (locs : List Loc) (h : zH) (o : Option Nat), decode cc pc = .ok (.areturn, 1) → (∃ n, rk = some (.object n)) → Q (some (zrf o)) h → (h 84 = h0 84 ∧ h 85 = h0 85) → va_P D zcl (zwl ad ca h) H → va_S A s.heap H locs → W p l e R s m args below meth c H locs cells slots Qf (F0 m pc ls [ztr ad (zrf o)]))
    (hretV : ∀ (pc : Nat) (ls : Array Slot) (H : Heap) (locs : List Loc) (h : zH), decode cc pc = .ok (.return_, 1) → rk = none → Q none h → (h 84 = h0 84 ∧ h 85 = h0 85) → va_P D zcl (zwl ad ca h) H → va_S A s.heap H locs → W p l e R s m args below meth c H locs cells slots Qf (F0 m pc ls []))
    {en : zE} {u : Nat} (hdec : decode cc en.1 = .ok (en.2.1, zlen en.2.1 en.2.2.2.1)) (hlk : zlk own nL nol rk u en = true) {lv : zL} {st : zS} {h : zH}
    (hgo : zgo (zM d) (zPW p l e R s m args below meth c cells slots Qf ad D ca A nol nL h0) Q h (znx en lv st h)) : zPW p l e R s m args below meth c cells slots Qf ad D ca A nol nL h0 en.1 lv st h := by
  obtain ⟨pc, ins, a, b, dd, v, ks⟩ := en
  intro e84 ls H locs hl hP hS
  obtain ⟨hx, hb, hml, hown, hts, hK, hD, hC, hR1, hR2, hR3, hR4⟩ := id K
  have hsz : ls.size = nL := hl.1.1
  have hml' : c.maxLocals = ls.size := by rw [hml, hsz]
  cases ins with
  | iconst n =>
    exact lv_iconst hx hb hdec (of_decide_eq_true hlk) (zgo_in hgo e84 ls H locs hl hP hS)
  | bipush n =>
    exact lv_bipush hx hb hdec (of_decide_eq_true hlk) (zgo_in hgo e84 ls H locs hl hP hS)
  | sipush n =>
    exact lv_sipush hx hb hdec (of_decide_eq_true hlk) (zgo_in hgo e84 ls H locs hl hP hS)
  | ldc i =>
    have hk := zgo_in hgo e84 ls H locs hl hP hS
    simp only [zlk, Bool.or_eq_true, Bool.and_eq_true, decide_eq_true_eq] at hlk
    rcases hlk with ⟨h1, h2⟩ | ⟨⟨h1, h2⟩, h3⟩
    · rw [if_pos h1] at hk
      exact lv_ldc hx hb hown (hts _ (zG_gt h2)) hdec hk
    · rw [if_neg (by omega)] at hk
      obtain ⟨q, hq, hq2⟩ := List.any_eq_true.mp h3
      simp only [decide_eq_true_eq] at hq2
      obtain ⟨rfl, rfl⟩ := hq2
      subst h2
      exact va_ldcS hx hb hown (hC.2.1 q hq) hdec hk
  | ldc_w i =>
    exact lv_ldcw hx hb hown (hts _ (zG_gt hlk)) hdec (zgo_in hgo e84 ls H locs hl hP hS)
  | lconst n =>
    exact lv_lconst hx hb hdec (of_decide_eq_true hlk) (zgo_in hgo e84 ls H locs hl hP hS)
  | ldc2_w i =>
    exact lv_ldc2 hx hb hown (hts _ (zG_gt hlk)) hdec (zgo_in hgo e84 ls H locs hl hP hS)
  | aconst_null =>
    exact lv_null hx hb hdec (zgo_in hgo e84 ls H locs hl hP hS)
  | iload i =>
    obtain ⟨x, he, hg⟩ := zldI_x hgo
    have hi : i = a := of_decide_eq_true hlk
    subst hi
    exact lv_iload hx hb hdec (zlv_get hl he) (zgo_in hg e84 ls H locs hl hP hS)
  | iload_n k =>
    obtain ⟨x, he, hg⟩ := zldI_x hgo
    exact lv_iload_n hx hb hdec (of_decide_eq_true hlk) (zlv_get hl he) (zgo_in hg e84 ls H locs hl hP hS)
  | lload i =>
    obtain ⟨x, he, hg⟩ := zldJ_x hgo
    have hi : i = a := of_decide_eq_true hlk
    subst hi
    exact lv_lload hx hb hdec (zlv_get hl he) (zgo_in hg e84 ls H locs hl hP hS)
  | lload_n k =>
    obtain ⟨x, he, hg⟩ := zldJ_x hgo
    exact lv_lload_n hx hb hdec (of_decide_eq_true hlk) (zlv_get hl he) (zgo_in hg e84 ls H locs hl hP hS)
  | aload i =>
    dsimp only [znx] at hgo
    obtain ⟨x, he, hg⟩ := zldA_x hgo
    have hi : i = a := of_decide_eq_true hlk
    subst hi
    cases x with
    | none => exact lv_aloadN hx hb hdec (zlv_get hl he) (zgo_in hg e84 ls H locs hl hP hS)
    | some x => exact lv_aload hx hb hdec (zlv_get hl he) (zgo_in hg e84 ls H locs hl hP hS)
  | aload_n k =>
    dsimp only [znx] at hgo
    obtain ⟨x, he, hg⟩ := zldA_x hgo
    cases x with
    | none => exact lv_aload_nN hx hb hdec (of_decide_eq_true hlk) (zlv_get hl he) (zgo_in hg e84 ls H locs hl hP hS)
    | some x => exact lv_aload_n hx hb hdec (of_decide_eq_true hlk) (zlv_get hl he) (zgo_in hg e84 ls H locs hl hP hS)
  | istore i =>
    obtain ⟨x, r, rfl, hg⟩ := zp1_x hgo
    simp only [zlk, Bool.and_eq_true, decide_eq_true_eq] at hlk
    obtain ⟨⟨rfl, ha⟩, rfl⟩ := hlk
    exact lv_istore hx hb hdec hl.1 ha rfl (fun ls' hl' => zgo_in hg e84 ls' H locs (zlv_set hl ha rfl hl') hP hS)
  | istore_n k =>
    obtain ⟨x, r, rfl, hg⟩ := zp1_x hgo
    simp only [zlk, Bool.and_eq_true, decide_eq_true_eq] at hlk
    obtain ⟨⟨hk, ha⟩, rfl⟩ := hlk
    exact lv_istore_n hx hb hdec hk hl.1 ha rfl (fun ls' hl' => zgo_in hg e84 ls' H locs (zlv_set hl ha rfl hl') hP hS)
  | astore i =>
    dsimp only [znx] at hgo
    obtain ⟨x, r, rfl, hg⟩ := zpA_x hgo
    simp only [zlk, Bool.and_eq_true, decide_eq_true_eq] at hlk
    obtain ⟨⟨rfl, ha⟩, rfl⟩ := hlk
    cases x with
    | none => exact lv_astoreN hx hb hdec hl.1 ha rfl (fun ls' hl' => zgo_in hg e84 ls' H locs (zlv_set hl ha rfl hl') hP hS)
    | some x => exact lv_astore hx hb hdec hl.1 ha rfl (fun ls' hl' => zgo_in hg e84 ls' H locs (zlv_set hl ha rfl hl') hP hS)
  | astore_n k =>
    dsimp only [znx] at hgo
    obtain ⟨x, r, rfl, hg⟩ := zpA_x hgo
    simp only [zlk, Bool.and_eq_true, decide_eq_true_eq] at hlk
    obtain ⟨⟨hk, ha⟩, rfl⟩ := hlk
    cases x with
    | none => exact lv_astore_nN hx hb hdec hk hl.1 ha rfl (fun ls' hl' => zgo_in hg e84 ls' H locs (zlv_set hl ha rfl hl') hP hS)
    | some x => exact lv_astore_n hx hb hdec hk hl.1 ha rfl (fun ls' hl' => zgo_in hg e84 ls' H locs (zlv_set hl ha rfl hl') hP hS)
  | iinc i n =>
    obtain ⟨x, he, hg⟩ := zldI_x hgo
    simp only [zlk, Bool.and_eq_true, decide_eq_true_eq] at hlk
    obtain ⟨⟨⟨rfl, ha⟩, rfl⟩, rfl⟩ := hlk
    obtain ⟨k, hk⟩ := List.getElem?_of_mem (zlvl_mem (ad := ad) (q := (i, .int x)) |>.mpr ⟨.int x, he, rfl⟩)
    exact lv_iinc hx hb hdec hl.1 hk rfl ha rfl (fun ls' hl' => zgo_in hg e84 ls' H locs (zlv_set hl ha rfl hl') hP hS)
  | iadd =>
    obtain ⟨x, y, r, rfl, hg⟩ := zp2_x hgo
    exact lv_iadd hx hb hdec (zgo_in hg e84 ls H locs hl hP hS)
  | isub =>
    obtain ⟨x, y, r, rfl, hg⟩ := zp2_x hgo
    exact lv_isub hx hb hdec (zgo_in hg e84 ls H locs hl hP hS)
  | imul =>
    obtain ⟨x, y, r, rfl, hg⟩ := zp2_x hgo
    exact lv_imul hx hb hdec (zgo_in hg e84 ls H locs hl hP hS)
  | iand =>
    obtain ⟨x, y, r, rfl, hg⟩ := zp2_x hgo
    exact lv_iand hx hb hdec (zgo_in hg e84 ls H locs hl hP hS)
  | ior =>
    obtain ⟨x, y, r, rfl, hg⟩ := zp2_x hgo
    exact lv_ior hx hb hdec (zgo_in hg e84 ls H locs hl hP hS)
  | ixor =>
    obtain ⟨x, y, r, rfl, hg⟩ := zp2_x hgo
    exact lv_ixor hx hb hdec (zgo_in hg e84 ls H locs hl hP hS)
  | ishl =>
    obtain ⟨x, y, r, rfl, hg⟩ := zp2_x hgo
    exact lv_ishl hx hb hdec (zgo_in hg e84 ls H locs hl hP hS)
  | ishr =>
    obtain ⟨x, y, r, rfl, hg⟩ := zp2_x hgo
    exact lv_ishr hx hb hdec (zgo_in hg e84 ls H locs hl hP hS)
  | idiv =>
    obtain ⟨x, y, r, rfl, hg⟩ := zp2_x hgo
    obtain ⟨hc, hg⟩ := zif_x hg
    exact lv_idiv hx hb hdec hc (zgo_in hg e84 ls H locs hl hP hS)
  | irem =>
    obtain ⟨x, y, r, rfl, hg⟩ := zp2_x hgo
    obtain ⟨hc, hg⟩ := zif_x hg
    exact lv_irem hx hb hdec hc (zgo_in hg e84 ls H locs hl hP hS)
  | iushr =>
    obtain ⟨x, y, r, rfl, hg⟩ := zp2_x hgo
    exact lv_iushr hx hb hdec rfl (zgo_in hg e84 ls H locs hl hP hS)
  | ineg =>
    obtain ⟨x, r, rfl, hg⟩ := zp1_x hgo
    exact lv_ineg hx hb hdec (zgo_in hg e84 ls H locs hl hP hS)
  | i2l =>
    obtain ⟨x, r, rfl, hg⟩ := zp1_x hgo
    exact lv_i2l hx hb hdec rfl (zgo_in hg e84 ls H locs hl hP hS)
  | i2s =>
    obtain ⟨x, r, rfl, hg⟩ := zp1_x hgo
    exact lv_i2s hx hb hdec rfl (zgo_in hg e84 ls H locs hl hP hS)
  | ladd =>
    obtain ⟨x, y, r, rfl, hg⟩ := zpJ2_x hgo
    exact lv_ladd hx hb hdec (zgo_in hg e84 ls H locs hl hP hS)
  | lcmp =>
    obtain ⟨x, y, r, rfl, hg⟩ := zpJ2_x hgo
    exact W.lcmp hx hb hdec (zgo_in hg e84 ls H locs hl hP hS)
  | dup =>
    dsimp only [znx] at hgo
    obtain ⟨x, r, rfl, hcat, hg⟩ := zpV_x hgo
    exact lv_dup hx hb hdec (by rw [ztr_cat]; exact hcat) (zgo_in hg e84 ls H locs hl hP hS)
  | pop =>
    dsimp only [znx] at hgo
    obtain ⟨x, r, rfl, hcat, hg⟩ := zpV_x hgo
    exact lv_pop hx hb hdec (by rw [ztr_cat]; exact hcat) (zgo_in hg e84 ls H locs hl hP hS)
  | dup2 =>
    obtain ⟨x, y, r, rfl, hg⟩ := zp1R_x hgo
    exact lv_dup2_11 hx hb hdec rfl rfl (zgo_in hg e84 ls H locs hl hP hS)
  | goto off =>
    exact lv_goto hx hb hdec (of_decide_eq_true hlk) (zgo_in hgo e84 ls H locs hl hP hS)
  | ifCond cd off =>
    obtain ⟨x, r, rfl, hg⟩ := zp1_x hgo
    have hk := zgo_in hg e84 ls H locs hl hP hS
    have ht : (pc : Int) + off = (a : Int) := of_decide_eq_true hlk
    cases cd with
    | eq => exact lv_if_eq hx hb hdec ht (fun z => by simpa only [zif1, if_pos z] using hk) (fun z => by simpa only [zif1, if_neg z] using hk)
    | ne => exact lv_if_ne hx hb hdec ht (fun z => by simpa only [zif1, if_neg z] using hk) (fun z => by simpa only [zif1, if_pos z] using hk)
    | lt => exact lv_if_lt hx hb hdec ht (fun z => by simpa only [zif1, if_pos z] using hk) (fun z => by simpa only [zif1, if_neg z] using hk)
    | ge => exact lv_if_ge hx hb hdec ht (fun z => by simpa only [zif1, if_neg (Int32.not_lt.mpr z)] using hk) (fun z => by simpa only [zif1, if_pos (Int32.not_le.mp z)] using hk)
    | gt => exact lv_if_gt hx hb hdec ht (fun z => by simpa only [zif1, if_neg (Int32.not_le.mpr z)] using hk) (fun z => by simpa only [zif1, if_pos (Int32.not_lt.mp z)] using hk)
    | le => exact lv_if_le hx hb hdec ht (fun z => by simpa only [zif1, if_pos z] using hk) (fun z => by simpa only [zif1, if_neg z] using hk)
  | if_icmp cd off =>
    obtain ⟨x, y, r, rfl, hg⟩ := zp2_x hgo
    have hk := zgo_in hg e84 ls H locs hl hP hS
    have ht : (pc : Int) + off = (a : Int) := of_decide_eq_true hlk
    cases cd with
    | eq => exact lv_icmp_eq hx hb hdec ht (fun z => by simpa only [zif2, if_pos z] using hk) (fun z => by simpa only [zif2, if_neg z] using hk)
    | ne => exact lv_icmp_ne hx hb hdec ht (fun z => by simpa only [zif2, if_neg z] using hk) (fun z => by simpa only [zif2, if_pos z] using hk)
    | lt => exact lv_icmp_lt hx hb hdec ht (fun z => by simpa only [zif2, if_pos z] using hk) (fun z => by simpa only [zif2, if_neg z] using hk)
    | ge => exact lv_icmp_ge hx hb hdec ht (fun z => by simpa only [zif2, if_neg (Int32.not_lt.mpr z)] using hk) (fun z => by simpa only [zif2, if_pos (Int32.not_le.mp z)] using hk)
    | gt => exact lv_icmp_gt hx hb hdec ht (fun z => by simpa only [zif2, if_neg (Int32.not_le.mpr z)] using hk) (fun z => by simpa only [zif2, if_pos (Int32.not_lt.mp z)] using hk)
    | le => exact lv_icmp_le hx hb hdec ht (fun z => by simpa only [zif2, if_pos z] using hk) (fun z => by simpa only [zif2, if_neg z] using hk)
  | ifnull off =>
    dsimp only [znx] at hgo
    obtain ⟨x, r, rfl, hg⟩ := zpA_x hgo
    have hk := zgo_in hg e84 ls H locs hl hP hS
    cases x with
    | none => exact lv_ifnullN hx hb hdec (of_decide_eq_true hlk) (by simpa using hk)
    | some x => exact lv_ifnull hx hb hdec (by simpa using hk)
  | ifnonnull off =>
    dsimp only [znx] at hgo
    obtain ⟨x, r, rfl, hg⟩ := zpA_x hgo
    have hk := zgo_in hg e84 ls H locs hl hP hS
    cases x with
    | none => exact lv_ifnonnullN hx hb hdec (by simpa using hk)
    | some x => exact lv_ifnonnull hx hb hdec (of_decide_eq_true hlk) (by simpa using hk)
  | tableswitch df lo hi offs =>
    obtain ⟨x, r, rfl, hg⟩ := zp1_x hgo
    have hk := zgo_in hg e84 ls H locs hl hP hS
    simp only [zlk, Bool.and_eq_true, decide_eq_true_eq] at hlk
    obtain ⟨⟨⟨h1, h2⟩, h3⟩, h4⟩ := hlk
    obtain ⟨g1, g2⟩ := zsw_T (x := x) (dflt := a) offs.toList lo ks h2 h4.1 (by omega)
    by_cases hz : x.toInt < lo ∨ hi < x.toInt
    · rw [g1 (by omega)] at hk
      exact lv_tableOut hx hb hdec hz h1 hk
    · obtain ⟨o, q1, q2⟩ := g2 (by omega) (by omega)
      exact lv_tableIn hx hb hdec (fun z => hz (Or.inl z)) (fun z => hz (Or.inr z)) (by simpa using q1) q2 hk
  | lookupswitch df ps =>
    obtain ⟨x, r, rfl, hg⟩ := zp1_x hgo
    have hk := zgo_in hg e84 ls H locs hl hP hS
    simp only [zlk, Bool.and_eq_true] at hlk
    obtain ⟨⟨h1, h2⟩, h3⟩ := hlk
    exact lv_lookup hx hb hdec h3 rfl (zsw_L (of_decide_eq_true h1) _ _ h2) hk
  | getfield i =>
    obtain ⟨x, r, rfl, hg⟩ := zpR_x hgo
    obtain ⟨hc, hg⟩ := zif_x hg
    exact zs_get K hP hlk hc hdec (zgo_in hg e84 ls H locs hl hP hS)
  | putfield i =>
    obtain ⟨y, x, r, rfl, hg⟩ := zp1R_x hgo
    obtain ⟨⟨hc, hy⟩, hg⟩ := zif_x hg
    have hlk' : (zF u own i a b && zFw a b dd) = true := hlk
    rw [Bool.and_eq_true] at hlk'
    have hx80 : x < 80 := by
      have := hlk'.1
      unfold zF at this
      split at this
      · rename_i q hq
        exact zcls_lt (by have := (zcl_ok hq).1; omega)
      · cases this
    exact zs_put K hP hS hlk'.1 hlk'.2 hc hy hdec (fun H1 locs1 hP1 hS1 => zgo_in hg ⟨(zhr_ne h (c := x) (c' := 84) _ (zne84 hx80)).trans e84.1, (zhr_ne h (c := x) (c' := 85) _ (zne85 hx80)).trans e84.2⟩ ls H1 locs1 hl hP1 hS1)
  | getstatic i =>
    have hk := zgo_in hgo e84 ls H locs hl hP hS
    have hlk' : zFs u own i a b = true := hlk
    unfold zFs at hlk'
    split at hlk'
    · rename_i q hq
      simp only [Bool.and_eq_true, Bool.or_eq_true, decide_eq_true_eq] at hlk'
      obtain ⟨rfl, hlw⟩ := hlk'
      have hZ := (hC.1 q (List.mem_of_getElem? hq)).1
      rcases hlw with hlw | hlw
      · exact va_gets hx hb hZ hS hown (hts _ (zG_gt hlw)) (fun _ z => z) hdec hk
      · exact va_getsN hx hb hZ hS hown (zctx_nestB K hlw) (fun _ z => z) hdec hk
    · cases hlk'
  | iaload =>
    obtain ⟨i, x, r, rfl, hg⟩ := zp1R_x hgo
    split at hg
    · rename_i hc
      obtain ⟨hok, hg⟩ := zif_x hg
      exact zs_iald K e84 hP hS hdec _ (Or.inl ⟨hc, hok, rfl⟩) (zgo_in hg e84 ls H locs hl hP hS)
    · rename_i hc
      obtain ⟨hok, hg⟩ := zif_x hg
      exact zs_iald K e84 hP hS hdec _ (Or.inr (Or.inl ⟨hc, hok, rfl⟩)) (zgo_in hg e84 ls H locs hl hP hS)
    · rename_i hc
      obtain ⟨hok, hg⟩ := zif_x hg
      exact zs_iald K e84 hP hS hdec _ (Or.inr (Or.inr ⟨hc, hok, rfl⟩)) (zgo_in hg e84 ls H locs hl hP hS)
    · exact hg.elim
  | caload =>
    obtain ⟨i, x, r, rfl, hg⟩ := zp1R_x hgo
    obtain ⟨⟨hc, hok⟩, hg⟩ := zif_x hg
    have hx3 := zcls_22 hc
    subst hx3
    exact va_tc hx hb (hC.1 (RX2, "NAMES_BY_KEY", "[C", .char, 83) (List.mem_of_getElem? (i := 3) rfl)).2 hS (zok_in hok) rfl hdec (zgo_in hg e84 ls H locs hl hP hS)
  | aaload =>
    obtain ⟨i, x, r, rfl, hg⟩ := zp1R_x hgo
    split at hg
    · rename_i hc
      obtain ⟨hok, hg⟩ := zif_x hg
      exact va_aldq (C := RX3) (f := fun i => some (ad (35 + 2 * i))) hx hb hK hP x 1 (by rw [zwl_get (zcls_lt (by omega)), zenc, if_neg (by omega), if_pos hc]) rfl (zok_in hok) hdec (zgo_in hg e84 ls H locs hl hP hS)
    · rename_i hc
      obtain ⟨hok, hg⟩ := zif_x hg
      exact va_aldq (C := RX4) (f := fun i => some (ad (44 + 3 * i))) hx hb hK hP x 2 (by rw [zwl_get (zcls_lt (by omega)), zenc, if_neg (by omega), if_neg (by omega), if_pos hc]) rfl (zok_in hok) hdec (zgo_in hg e84 ls H locs hl hP hS)
    · exact hg.elim
  | iastore =>
    obtain ⟨y, i, x, r, rfl, hg⟩ := zp2R_x hgo
    obtain ⟨⟨hc, hok⟩, hg⟩ := zif_x hg
    have hx80 : x < 80 := zcls_lt (by omega)
    refine va_iast hx hb hK hP (hD h) hS x 0 (by rw [zwl_get hx80, zenc_arr hc]) rfl (zok_in hok) hdec (fun H1 locs1 hP1 _ hS1 => ?_)
    have hset : (zwl ad ca h).set x (ad x, .inl (ca 0, zaln x, .inl (upd (h x) i.toNatClampNeg y))) = zwl ad ca (zhr h x (upd (h x) (zix i) y)) := by
      refine zwl_set hx80 (fun c' n => zhr_ne h _ n) ?_
      rw [zenc_arr hc, zhr_same]
    rw [hset] at hP1
    exact zgo_in hg ⟨(zhr_ne h (c := x) (c' := 84) _ (zne84 hx80)).trans e84.1, (zhr_ne h (c := x) (c' := 85) _ (zne85 hx80)).trans e84.2⟩ ls H1 locs1 hl hP1 hS1
  | arraylength =>
    obtain ⟨x, r, rfl, hg⟩ := zpR_x hgo
    split at hg
    · rename_i hc
      exact va_alen (x := (zaln x, .inl (h x))) hx hb hK hP x 0 (by rw [zwl_get (zcls_lt (by omega)), zenc_arr hc]) rfl rfl hdec (zgo_in hg e84 ls H locs hl hP hS)
    · rename_i hc
      have hx3 := zcls_22 hc
      subst hx3
      exact va_tlen hx hb (hC.1 (RX2, "NAMES_BY_KEY", "[C", .char, 83) (List.mem_of_getElem? (i := 3) rfl)).2 hS rfl hdec (zgo_in hg e84 ls H locs hl hP hS)
    · rename_i hc
      have hx3 := zcls_21 hc
      subst hx3
      obtain ⟨g1, g2, g3, g4⟩ := hC.2.2.2.2.1
      have hk := zgo_in hg e84 ls H locs hl hP hS
      rw [e84.2, ← g2] at hk
      exact va_slen hx hb g1 g3 g4 hS hdec hk
    · exact hg.elim
  | invokestatic i =>
    obtain ⟨⟨hb1, hb2⟩, hg⟩ := zif_x hgo
    have hg : zM d a (st.take b).reverse h (fun r h' => zPW p l e R s m args below meth c cells slots Qf ad D ca A nol nL h0 (pc + 3) lv (r.toList ++ st.drop b) h') := hg
    have hst : st.map (ztr ad) = (((st.take b).reverse).map (ztr ad)).reverse ++ (st.drop b).map (ztr ad) := by
      rw [List.map_reverse, List.reverse_reverse, ← List.map_append, List.take_append_drop]
    have hlen : ((st.take b).reverse).length = b := by simp; omega
    have hlk : zcS u own i a b = true := hlk
    match d, K, hM, hg with
    | 0, K, hM, hg => exact hg.elim
    | d' + 1, K, hM, hg =>
      by_cases ha : a < 202
      · have hlk2 : (decide (a < 202) && zML u own i (zyN a) && zyS a && decide (b = zyP a)) = true := by
          unfold zcS at hlk
          split at hlk <;> first | omega | exact hlk
        simp only [Bool.and_eq_true, decide_eq_true_eq] at hlk2
        obtain ⟨⟨⟨-, q1⟩, q2⟩, q3⟩ := hlk2
        rw [hst]
        exact zs_callS K e84 (hM d' rfl a _ h _ ha hg) ha q1 q2 (hlen.trans q3) hsz hP hS hb2 hdec (fun v h' H1 locs1 hq h84 hP1 hS1 => by
          have hk := hq ⟨h84.1.trans e84.1, h84.2.trans e84.2⟩ ls H1 locs1 hl hP1 hS1
          cases v <;> simpa using hk)
      · have ha2 : 1000 ≤ a := by
          unfold zcS at hlk
          split at hlk <;> first | omega | (simp only [Bool.and_eq_true, decide_eq_true_eq] at hlk; omega)
        have hbi := hg.1 ha2
        have hR1' : 1 ≤ R.frames := by omega
        generalize hAs : (st.take b).reverse = As at hbi hst hlen
        generalize hrs : st.drop b = rs at hbi hst hb2
        have hsum := zcat_sum (rs.map (ztr ad))
        rw [List.length_map] at hsum
        rw [hst]
        unfold zcS at hlk
        split at hlk
        · simp only [zbi] at hbi
          simp only [Bool.and_eq_true, decide_eq_true_eq] at hlk
          split at hbi
          · exact va_mmax (rest := rs.map (ztr ad)) hx hb hml' hown (hts _ (zG_gt hlk.1)) (hts _ (zG_gt zg_smax)) (hts _ (zG_gt zg_imath)) (hts _ (zG_gt zg_cmax)) hR1' (by omega) hR3 hR4 hdec (hbi e84 ls H locs hl hP hS)
          · exact hbi.elim
        · simp only [zbi] at hbi
          simp only [Bool.and_eq_true, decide_eq_true_eq] at hlk
          split at hbi
          · exact va_mmin (rest := rs.map (ztr ad)) hx hb hml' hown (hts _ (zG_gt hlk.1)) (hts _ (zG_gt zg_smin)) (hts _ (zG_gt zg_imath)) (hts _ (zG_gt zg_cmin)) hR1' (by omega) hR3 hR4 hdec (hbi e84 ls H locs hl hP hS)
          · exact hbi.elim
        · simp only [zbi] at hbi
          simp only [Bool.and_eq_true, decide_eq_true_eq] at hlk
          split at hbi
          · exact va_mabs (rest := rs.map (ztr ad)) hx hb hml' hown (hts _ (zG_gt hlk.1)) (hts _ (zG_gt zg_sabs)) (hts _ (zG_gt zg_imath)) (hts _ (zG_gt zg_cabs)) hR1' (by omega) hR3 hR4 hdec (hbi e84 ls H locs hl hP hS)
          · exact hbi.elim
        · simp only [zbi] at hbi
          simp only [Bool.and_eq_true, decide_eq_true_eq] at hlk
          unfold zcopy at hbi
          split at hbi
          · rename_i c0 sp c1 dp n
            obtain ⟨⟨k0, k1, k2, k3, k4, k5, k6⟩, hk⟩ := hbi
            have hx0 : c0 < 80 := zcls_lt (by omega)
            have hx1 : c1 < 80 := zcls_lt (by omega)
            refine va_copyi (rest := rs.map (ztr ad)) hx hb hml' hown (hts _ (zG_gt hlk.1)) (hts _ (zG_gt zg_ncpy)) (hts _ (zG_gt zg_scpy)) (hts _ (zG_gt zg_isys)) hK hP (hD h) hS c0 c1 0 0 (by rw [zwl_get hx0, zenc_arr k0]) (by rw [zwl_get hx1, zenc_arr k1]) rfl rfl rfl k2 k3 k4 k5 k6 (fun _ _ => rfl) hR1' ?_ hdec (fun H1 locs1 hP1 _ hS1 => ?_)
            · have : nativeFrameWords "java/lang/System" "arraycopy" 5 ≤ 40 := by decide +kernel
              omega
            · have hset : (zwl ad ca h).set c1 (ad c1, .inl (ca 0, zaln c1, .inl (va_cpy (h c0) (h c1) sp.toNatClampNeg dp.toNatClampNeg n.toNatClampNeg))) = zwl ad ca (zhr h c1 (va_cpy (h c0) (h c1) (zix sp) (zix dp) (zix n))) := by
                refine zwl_set hx1 (fun c' q => zhr_ne h _ q) ?_
                rw [zenc_arr k1, zhr_same]
              rw [hset] at hP1
              exact hk ⟨(zhr_ne h (c := c1) (c' := 84) _ (zne84 hx1)).trans e84.1, (zhr_ne h (c := c1) (c' := 85) _ (zne85 hx1)).trans e84.2⟩ ls H1 locs1 hl hP1 hS1
          · exact hbi.elim
        · simp only [Bool.and_eq_true, decide_eq_true_eq] at hlk
          omega
  | invokevirtual i =>
    obtain ⟨hb1, hg⟩ := zif_x hgo
    obtain ⟨x, r, hr, hg⟩ := zpR_x hg
    obtain ⟨⟨hc, hb2⟩, hg⟩ := zif_x hg
    have hg : zM d a (.ref x :: (st.take b).reverse) h (fun r0 h' => zPW p l e R s m args below meth c cells slots Qf ad D ca A nol nL h0 (pc + 3) lv (r0.toList ++ r) h') := hg
    have hst : st.map (ztr ad) = (((st.take b).reverse).map (ztr ad)).reverse ++ .ref (ad x) :: r.map (ztr ad) := by
      have e1 : st.map (ztr ad) = (((st.take b).reverse).map (ztr ad)).reverse ++ (st.drop b).map (ztr ad) := by
        rw [List.map_reverse, List.reverse_reverse, ← List.map_append, List.take_append_drop]
      rw [e1, hr]
      rfl
    have hlen : ((st.take b).reverse).length = b := by simp; omega
    have hlk : zcV u own i a b dd = true := hlk
    match d, K, hM, hg with
    | 0, K, hM, hg => exact hg.elim
    | d' + 1, K, hM, hg =>
      by_cases ha : a < 202
      · have hlk2 : (decide (a < 202) && zML u own i (zyN a) && !(zyS a) && decide (b = zyP a) && decide ((zcl[dd]?).map (·.1) = some (zyN a).cls)) = true := by
          unfold zcV at hlk
          split at hlk <;> first | omega | exact hlk
        simp only [Bool.and_eq_true, decide_eq_true_eq, Bool.not_eq_true'] at hlk2
        obtain ⟨⟨⟨⟨-, q1⟩, q2⟩, q3⟩, q4⟩ := hlk2
        rw [hst]
        exact zs_callV K e84 (hM d' rfl a _ h _ ha hg) ha q1 q2 (hlen.trans q3) hc q4 hsz hP hS hb2 hdec (fun v h' H1 locs1 hq h84 hP1 hS1 => by
          have hk := hq ⟨h84.1.trans e84.1, h84.2.trans e84.2⟩ ls H1 locs1 hl hP1 hS1
          cases v <;> simpa using hk)
      · have ha2 : 1000 ≤ a := by
          unfold zcV at hlk
          split at hlk <;> first | omega | (simp only [Bool.and_eq_true, decide_eq_true_eq] at hlk; omega)
        have hbi := hg.1 ha2
        rw [hst]
        generalize hAs : (st.take b).reverse = As at hbi hst hlen
        unfold zcV at hlk
        split at hlk
        · simp only [Bool.and_eq_true, decide_eq_true_eq] at hlk
          match As, hbi with
          | [], hbi =>
            obtain ⟨⟨k1, k2⟩, k3⟩ := hbi
            exact zs_callJ (n := 0) (Q := fun r0 h' => zPW p l e R s m args below meth c cells slots Qf ad D ca A nol nL h0 (pc + 3) lv (r0.toList ++ r) h') K e84 (hJ.1 d' x h _ k1 k2 k3) hlk.1 (zG_gt zg_clen) (zG_gt zg_istr) (zG_gt zg_ilen) (zG_gt zg_llen) rfl (by decide +kernel) (by omega) rfl k2 hsz hP hS hb2 hdec (fun v h' H1 locs1 hq h84 hP1 hS1 => by
              have hk := hq ⟨h84.1.trans e84.1, h84.2.trans e84.2⟩ ls H1 locs1 hl hP1 hS1
              cases v <;> simpa using hk)
          | _ :: _, hbi => exact hbi.elim
        · simp only [Bool.and_eq_true, decide_eq_true_eq] at hlk
          match As, hbi with
          | [.int j], hbi =>
            obtain ⟨⟨k1, k2, k3⟩, k4⟩ := hbi
            exact zs_callJ (n := 1) (Q := fun r0 h' => zPW p l e R s m args below meth c cells slots Qf ad D ca A nol nL h0 (pc + 3) lv (r0.toList ++ r) h') K e84 (hJ.2 d' x j h _ k1 k2 k3 k4) hlk.1 (zG_gt zg_ccha) (zG_gt zg_istr) (zG_gt zg_icha) (zG_gt zg_lcha) rfl (by decide +kernel) (by omega) rfl k2 hsz hP hS hb2 hdec (fun v h' H1 locs1 hq h84 hP1 hS1 => by
              have hk := hq ⟨h84.1.trans e84.1, h84.2.trans e84.2⟩ ls H1 locs1 hl hP1 hS1
              cases v <;> simpa using hk)
          | [], hbi => exact hbi.elim
          | _ :: _ :: _, hbi => exact (by simp [zbi] at hbi)
          | [.long _], hbi => exact hbi.elim
          | [.float _], hbi => exact hbi.elim
          | [.double _], hbi => exact hbi.elim
          | [.ref _], hbi => exact hbi.elim
          | [.null], hbi => exact hbi.elim
          | [.retAddr _], hbi => exact hbi.elim
        · simp only [Bool.and_eq_true, decide_eq_true_eq] at hlk
          omega
  | ireturn =>
    have hlk : (decide (rk = some .int) || (decide (rk = some .boolean) && decide (dd = 1))) = true := hlk
    simp only [Bool.or_eq_true, Bool.and_eq_true, decide_eq_true_eq] at hlk
    match st, hgo with
    | [.int x], hgo =>
      obtain ⟨hc, hg⟩ := zif_x hgo
      refine hretI pc ls H locs h x hdec ?_ hg e84 hP hS
      rcases hlk with q | ⟨q1, q2⟩
      · exact Or.inl q
      · exact Or.inr ⟨q1, hc.resolve_left (by omega)⟩
    | [], hgo => exact hgo.elim
    | .int _ :: _ :: _, hgo => exact hgo.elim
    | .long _ :: _, hgo => exact hgo.elim
    | .float _ :: _, hgo => exact hgo.elim
    | .double _ :: _, hgo => exact hgo.elim
    | .ref _ :: _, hgo => exact hgo.elim
    | .null :: _, hgo => exact hgo.elim
    | .retAddr _ :: _, hgo => exact hgo.elim
  | areturn =>
    have hrk : ∃ n, rk = some (.object n) := by
      have hlk2 : zlk own nL nol rk u (pc, .areturn, a, b, dd, v, ks) = true := hlk
      clear hretI hretA hretV hlk hgo
      cases rk with
      | none => cases hlk2
      | some t => cases t <;> first | exact ⟨_, rfl⟩ | cases hlk2
    match st, hgo with
    | [.ref x], hgo => exact hretA pc ls H locs h (some x) hdec hrk hgo e84 hP hS
    | [.null], hgo => exact hretA pc ls H locs h none hdec hrk hgo e84 hP hS
    | [], hgo => exact hgo.elim
    | .ref _ :: _ :: _, hgo => exact hgo.elim
    | .null :: _ :: _, hgo => exact hgo.elim
    | .long _ :: _, hgo => exact hgo.elim
    | .float _ :: _, hgo => exact hgo.elim
    | .double _ :: _, hgo => exact hgo.elim
    | .int _ :: _, hgo => exact hgo.elim
    | .retAddr _ :: _, hgo => exact hgo.elim
  | return_ =>
    match st, hgo with
    | [], hgo => exact hretV pc ls H locs h hdec (of_decide_eq_true hlk) hgo e84 hP hS
    | _ :: _, hgo => exact hgo.elim
  | _ => exact hgo.elim
end
end
section
/-! what runs in our machine runs in the real one -/
theorem zfit_at {y pc : Nat} {en : zE} (hy : y < 202) (h : zcod y pc = some en) : en ∈ zcq y ∧ en.1 = pc := by
  unfold zcod at h
  rw [if_neg (by intro z; have := Nat.eq_of_beq_eq_true z; omega)] at h
  exact zfind_in h
theorem zQ_ret {ad : Nat → Nat} {D : va_G} {ca : Nat → ClassId} {A : Nat → Prop} {h h' : zH} {Q : Option Value → zH → Prop} {args : Array Value} {s t : State} {H : Heap} {locs : List Loc} {v : Option Value} (hQ : Q v h') (e84 : h' 84 = h 84 ∧ h' 85 = h 85) (hP : va_P D zcl (zwl ad ca h') H) (hS : va_S A s.heap H locs) (ht : t.heap = H) : zQc ad D ca A h Q args s (.returned (v.map (ztr ad))) t :=
  ⟨⟨v, h', rfl, hQ, e84, by rw [ht]; exact hP⟩, hS.F ht⟩
set_option maxHeartbeats 2000000 in
theorem zsound (l : Launch) {ad : Nat → Nat} {D : va_G} {ca : Nat → ClassId} {adV : Nat → Nat} {A : Nat → Prop} (hD : ∀ h, va_D A (zwl ad ca h)) (hJ : zstr l ad D ca adV A) : ∀ (d y : Nat) (as : List Value) (h : zH) (Q : Option Value → zH → Prop), y < 202 → zM (d + 1) y as h Q → zMet l ad D ca adV A d (zyN y) (zws y) as h Q := by
  have main : ∀ (d : Nat), (∀ d', d = d' + 1 → ∀ (y : Nat) (as : List Value) (h : zH) (Q' : Option Value → zH → Prop), y < 202 → zM d y as h Q' → zMet l ad D ca adV A d' (zyN y) (zws y) as h Q') → ∀ (y : Nat) (as : List Value) (h : zH) (Q : Option Value → zH → Prop), y < 202 → zM (d + 1) y as h Q → zMet l ad D ca adV A d (zyN y) (zws y) as h Q := by
    intro d ih y as h Q hy hM
    rw [zM_S] at hM
    obtain ⟨hab, hX⟩ := hM.2 (by omega)
    obtain ⟨y1, y2, y3, y4, y5, y6, y7⟩ := zy_ok hy
    obtain ⟨nol, hno, hfit⟩ := zfit_all hy
    simp only [zargB, Bool.and_eq_true, Bool.or_eq_true] at hab
    refine Met.ofW (cc := zyB y) (maxL := zyL y) (ret := zyQ y) y5 rfl ?_
    intro p e s m args below meth c s₁ B hml hv
    obtain ⟨rfl, hP, hK, hC⟩ := hv
    have hx := B.exec
    have hb := B.bytes
    have hr := B.returns
    have hts0 := atoms_spec (ws := zws y) B.pre
    have hown : s.vm.findClass (zyN y).cls = some m.cls := findClass_of_methodNamed B.named
    have hlocks := B.notSynchronized
    have K : zctx p (zrm d) s m (as.map (ztr ad)).toArray c 0 0 ad D ca adV A h (zyN y).cls (zyB y) (zyL y) d := ⟨hx, hb, hml, hown, fun w hw => hts0 w (List.mem_cons_of_mem _ hw), hK, hD, hC, Nat.le_refl _, Nat.le_refl _, Nat.zero_le _, Nat.zero_le _⟩
    have go := hX (zPW p l e (zrm d) s m (as.map (ztr ad)).toArray below meth c 0 0 (MQ below (zQc ad D ca A h Q) (as.map (ztr ad)).toArray s 0 0 A) ad D ca A nol (zyL y) h) (by
      intro pc lv st hh hs
      unfold zSx at hs
      split at hs
      · exact hs.elim
      · rename_i en hen
        obtain ⟨hin, rfl⟩ := zfit_at hy hen
        obtain ⟨hdec, u, hlk⟩ := hfit en hin
        refine zstep K hJ ih ?_ ?_ ?_ hdec hlk hs
        · intro pc ls H locs h' x hdg hrk hQ h84 hP' hS'
          rcases hrk with hrk | ⟨hrk, hx01⟩
          · exact W.iret hx hb (hr.trans hrk) (fun t ht _ => zQ_ret (v := some (.int x)) hQ h84 hP' hS' ht) hS'.2.2 hdg
          · refine W.zret (ty := .boolean) hx hb (hr.trans hrk) ?_ (fun t ht _ => zQ_ret (v := some (.int x)) hQ h84 hP' hS' ht) hS'.2.2 hdg
            rcases hx01 with rfl | rfl <;> decide
        · intro pc ls H locs h' o hdg hrk hQ h84 hP' hS'
          obtain ⟨n, hrk⟩ := hrk
          exact W.aret hx hb (hr.trans hrk) (Or.inl ⟨n, rfl⟩) (zrf_tr o) (fun t ht _ => zQ_ret (v := some (zrf o)) hQ h84 hP' hS' ht) hS'.2.2 hdg
        · intro pc ls H locs h' hdg hrk hQ h84 hP' hS'
          exact W.vret hx hb (hr.trans hrk) (fun t ht _ => zQ_ret (v := none) hQ h84 hP' hS' ht) hS'.2.2 hdg)
    rw [lg_entry_eq]
    refine go ⟨rfl, rfl⟩ _ s.heap [] (zlv_entry ad as (Nat.le_of_ble_eq_true hab.1) ?_) hP va_S.rf
    intro hnl v hv
    rcases hab.2 with h106 | hall
    · exact absurd (Nat.eq_of_beq_eq_true h106) (hno hnl)
    · have := List.all_eq_true.mp hall v hv
      exact Nat.eq_of_beq_eq_true this
  intro d
  induction d with
  | zero => exact main 0 (fun d' q => by omega)
  | succ d ih => exact main (d + 1) (fun d' q => by have : d' = d := by omega
                                                    subst this
                                                    exact ih)
end
section
/-! a method's run as equations, an instruction each -/
def zR (d y : Nat) (Q : Option Value → zH → Prop) (pc : Nat) (lv : zL) (st : zS) (h : zH) : Prop := zX0 (zM d) (zcod y) Q pc lv st h
theorem zR_unf (d y : Nat) (Q : Option Value → zH → Prop) (pc : Nat) (lv : zL) (st : zS) (h : zH) : zR d y Q pc lv st h = zSx (zM d) (zcod y) (zR d y Q) Q pc lv st h := zX0_unf (zM_mono d)
theorem zM_R {d y : Nat} {as : List Value} {h : zH} {Q : Option Value → zH → Prop} (hy : y < 1000) {lv : zL} (ha : zargB (zyL y) y as = true) (he : zent as (zyL y) = lv) : zM (d + 1) y as h Q = zR d y Q 0 lv [] h := by
  subst he
  rw [zM_S]
  apply propext
  constructor
  · intro q; exact (q.2 hy).2
  · intro q; exact ⟨fun z => absurd hy (by omega), fun _ => ⟨ha, q⟩⟩
section
variable {d y pc : Nat} {Q : Option Value → zH → Prop} {lv lv' : zL} {st st' : zS} {h h' : zH} {en : zE} {pc' p1 p2 : Nat}
theorem q_go {o : Option zO} (hc : zcod y pc = some en) (hn : znx en lv st h = o) : zR d y Q pc lv st h = zgo (zM d) (zR d y Q) Q h o := by
  rw [zR_unf]
  unfold zSx
  rw [hc]
  simp only
  rw [hn]
theorem q_in (hc : zcod y pc = some en) (hn : znx en lv st h = some (.inl (pc', lv', st', h'))) : zR d y Q pc lv st h = zR d y Q pc' lv' st' h' := q_go hc hn
theorem zif_t {c : Prop} (hc : c) (o : Option zO) : zif c o = o := by unfold zif; rw [if_pos hc]
theorem q_and {c : Prop} (hc : zcod y pc = some en) (hn : znx en lv st h = zif c (some (.inl (pc', lv', st', h')))) : zR d y Q pc lv st h = (c ∧ zR d y Q pc' lv' st' h') := by
  rw [q_go hc hn]
  apply propext
  constructor
  · intro q; exact zif_x q
  · intro q; rw [zif_t q.1]; exact q.2
theorem zR_ite {c : Prop} [Decidable c] : zR d y Q (if c then p1 else p2) lv st h = if c then zR d y Q p1 lv st h else zR d y Q p2 lv st h := by
  split <;> rfl
theorem q_if {c : Prop} [Decidable c] (hc : zcod y pc = some en) (hn : znx en lv st h = some (.inl (if c then p1 else p2, lv', st', h'))) : zR d y Q pc lv st h = if c then zR d y Q p1 lv' st' h' else zR d y Q p2 lv' st' h' := by
  rw [q_in hc hn, zR_ite]
theorem q_cl {c : Prop} {a : Nat} {as : List Value} {rest : zS} (hc : zcod y pc = some en) (hn : znx en lv st h = zif c (some (.inr (.inl (pc', a, as, lv', rest))))) : zR d y Q pc lv st h = (c ∧ zM d a as h (fun r h' => zR d y Q pc' lv' (r.toList ++ rest) h')) := by
  rw [q_go hc hn]
  apply propext
  constructor
  · intro q; exact zif_x q
  · intro q; rw [zif_t q.1]; exact q.2
theorem q_clS {c : Prop} {a : Nat} {as : List Value} {rest : zS} (hc : zcod y pc = some en) (hn : znx en lv st h = zif c (some (.inr (.inl (pc', a, as, lv', rest))))) (ht : c) : zR d y Q pc lv st h = zM d a as h (fun r h' => zR d y Q pc' lv' (r.toList ++ rest) h') := by
  rw [q_cl hc hn]
  exact propext ⟨fun q => q.2, fun q => ⟨ht, q⟩⟩
theorem q_clV {c c2 : Prop} {a : Nat} {as : List Value} {rest : zS} (hc : zcod y pc = some en) (hn : znx en lv st h = zif c (zif c2 (some (.inr (.inl (pc', a, as, lv', rest)))))) (ht : c) : zR d y Q pc lv st h = (c2 ∧ zM d a as h (fun r h' => zR d y Q pc' lv' (r.toList ++ rest) h')) := by
  rw [zif_t ht] at hn
  exact q_cl hc hn
theorem q_ret {v : Option Value} (hc : zcod y pc = some en) (hn : znx en lv st h = some (.inr (.inr v))) : zR d y Q pc lv st h = Q v h := q_go hc hn
theorem q_retz {c : Prop} {v : Option Value} (hc : zcod y pc = some en) (hn : znx en lv st h = zif c (some (.inr (.inr v)))) (ht : c) : zR d y Q pc lv st h = Q v h := by
  rw [zif_t ht] at hn
  exact q_ret hc hn
theorem q_retc {c : Prop} {v : Option Value} (hc : zcod y pc = some en) (hn : znx en lv st h = zif c (some (.inr (.inr v)))) : zR d y Q pc lv st h = (c ∧ Q v h) := by
  rw [q_go hc hn]
  apply propext
  constructor
  · intro q; exact zif_x q
  · intro q; rw [zif_t q.1]; exact q.2
/-- an element read -/
def zal (c : Nat) (i : Int32) (h : zH) (k : Int32 → Prop) : Prop := match zcls c with
  | 10 => zok i (zaln c) ∧ k (h c (zix i))
  | 20 => zok i (zaln c) ∧ k (zkon c (zix i))
  | 21 => zok i (zix (h 85 0)) ∧ k (h 84 (zix i))
  | _ => False
/-- an element written -/
def zas (c : Nat) (i x : Int32) (h : zH) (k : zH → Prop) : Prop := (zcls c = 10 ∧ zok i (zaln c)) ∧ k (zhr h c (upd (h c) (zix i) x))
def zan (c : Nat) (h : zH) (k : Int32 → Prop) : Prop := match zcls c with
  | 10 => k (Int32.ofNat (zaln c))
  | 22 => k (Int32.ofNat (zaln c))
  | 21 => k (h 85 0)
  | _ => False
def zaa (c : Nat) (i : Int32) (k : Nat → Prop) : Prop := match zcls c with
  | 11 => zok i 4 ∧ k (35 + 2 * zix i)
  | 12 => zok i 5 ∧ k (44 + 3 * zix i)
  | _ => False
theorem zgo_zif {c : Prop} {o : Option zO} {P : Nat → zL → zS → zH → Prop} : zgo (zM d) P Q h (zif c o) = (c ∧ zgo (zM d) P Q h o) := by
  apply propext
  constructor
  · intro q; exact zif_x q
  · intro q; rw [zif_t q.1]; exact q.2
theorem q_iald {i : Int32} {c : Nat} {r : zS} {a b dd : Nat} {v : Int32} {ks : List (Int32 × Nat)} (hc : zcod y pc = some (pc, .iaload, a, b, dd, v, ks)) : zR d y Q pc lv (.int i :: .ref c :: r) h = zal c i h (fun w => zR d y Q (pc + 1) lv (.int w :: r) h) := by
  rw [q_go hc rfl]
  simp only [znx, zp1R, zal]
  by_cases h1 : zcls c = 10
  · simp only [h1]; exact zgo_zif
  · by_cases h2 : zcls c = 20
    · simp only [h2]; exact zgo_zif
    · by_cases h3 : zcls c = 21
      · simp only [h3]; exact zgo_zif
      · split <;> first | (rename_i q; exact absurd q (by assumption)) | (split <;> first | (rename_i q; exact absurd q (by assumption)) | rfl)
theorem q_iast {x i : Int32} {c : Nat} {r : zS} {a b dd : Nat} {v : Int32} {ks : List (Int32 × Nat)} (hc : zcod y pc = some (pc, .iastore, a, b, dd, v, ks)) : zR d y Q pc lv (.int x :: .int i :: .ref c :: r) h = zas c i x h (fun h' => zR d y Q (pc + 1) lv r h') := q_and hc rfl
theorem q_alen {c : Nat} {r : zS} {a b dd : Nat} {v : Int32} {ks : List (Int32 × Nat)} (hc : zcod y pc = some (pc, .arraylength, a, b, dd, v, ks)) : zR d y Q pc lv (.ref c :: r) h = zan c h (fun w => zR d y Q (pc + 1) lv (.int w :: r) h) := by
  rw [q_go hc rfl]
  simp only [znx, zpR, zan]
  by_cases h1 : zcls c = 10
  · simp only [h1]; rfl
  · by_cases h2 : zcls c = 22
    · simp only [h2]; rfl
    · by_cases h3 : zcls c = 21
      · simp only [h3]; rfl
      · split <;> first | (rename_i q; exact absurd q (by assumption)) | (split <;> first | (rename_i q; exact absurd q (by assumption)) | rfl)
theorem q_aald {i : Int32} {c : Nat} {r : zS} {a b dd : Nat} {v : Int32} {ks : List (Int32 × Nat)} (hc : zcod y pc = some (pc, .aaload, a, b, dd, v, ks)) : zR d y Q pc lv (.int i :: .ref c :: r) h = zaa c i (fun w => zR d y Q (pc + 1) lv (.ref w :: r) h) := by
  rw [q_go hc rfl]
  simp only [znx, zp1R, zaa]
  by_cases h1 : zcls c = 11
  · simp only [h1]; exact zgo_zif
  · by_cases h2 : zcls c = 12
    · simp only [h2]; exact zgo_zif
    · split <;> first | (rename_i q; exact absurd q (by assumption)) | (split <;> first | (rename_i q; exact absurd q (by assumption)) | rfl)
end
end
section
theorem zand_t {p q : Prop} (h : p) : (p ∧ q) = q := propext ⟨fun z => z.2, fun z => ⟨h, z⟩⟩
theorem zand_l {p q r : Prop} (h : p) : ((p ∧ q) ∧ r) = (q ∧ r) := propext ⟨fun z => ⟨z.1.2, z.2⟩, fun z => ⟨⟨h, z.1⟩, z.2⟩⟩
theorem zand_r {p q r : Prop} (h : q) : ((p ∧ q) ∧ r) = (p ∧ r) := propext ⟨fun z => ⟨z.1.1, z.2⟩, fun z => ⟨⟨z.1, h⟩, z.2⟩⟩
theorem zand_0 {p q r : Prop} : ((p ∧ ((0 : Nat) = 0 ∨ q)) ∧ r) = (p ∧ r) := propext ⟨fun z => ⟨z.1.1, z.2⟩, fun z => ⟨⟨z.1, Or.inl rfl⟩, z.2⟩⟩
theorem zand_b {c a : Nat} {q r : Prop} : ((c = c ∧ ((1 : Nat) = 0 ∨ q)) ∧ r) = (q ∧ r) := propext ⟨fun z => ⟨z.1.2.elim (fun y => by cases y) id, z.2⟩, fun z => ⟨⟨rfl, Or.inr z.1⟩, z.2⟩⟩
end
section
section
variable {d : Nat} {Q : Option Value → zH → Prop} {lv l : zL} {st : zS} {h : zH} {x z : Int32} {c : Nat} {i j : Int64} {o0 o1 o2 o3 o4 o5 o6 o7 o8 o9 o10 o11 o12 : Option Value} {x0 x1 x2 x3 x4 y0 y1 y2 y3 : Int32} {c0 c1 c2 c3 c4 a0 a1 a2 a3 : Nat} {j0 j1 j2 k0 k1 : Int64}

theorem r0_0 : zR d 0 Q 0 (some (.int x) :: l) st h = zR d 0 Q 1 (some (.int x) :: l) (.int x :: st) h := q_in rfl rfl
theorem r0_1 : zR d 0 Q 1 lv st h = zR d 0 Q 2 lv (.int 0 :: st) h := q_in rfl rfl
theorem r0_2 : zR d 0 Q 2 lv st h = zR d 0 Q 3 lv (.int 5 :: st) h := q_in rfl rfl
theorem r0_3 : zR d 0 Q 3 lv [.int x2, .int x1, .int x0] h = zM d 103 [.int x0, .int x1, .int x2] h (fun r h' => zR d 0 Q 6 lv (r.toList ++ []) h') := q_clS rfl rfl ⟨Nat.le_of_ble_eq_true rfl, Nat.le_of_ble_eq_true rfl⟩
theorem r0_6f : zR d 0 Q 6 lv [.int 0] h = Q (some (.int 0)) h := q_retz rfl rfl (Or.inr (Or.inl rfl))
theorem r0_6t : zR d 0 Q 6 lv [.int 1] h = Q (some (.int 1)) h := q_retz rfl rfl (Or.inr (Or.inr rfl))
theorem r1_0 : zR d 1 Q 0 (some (.int x) :: l) st h = zR d 1 Q 1 (some (.int x) :: l) (.int x :: st) h := q_in rfl rfl
theorem r1_1 : zR d 1 Q 1 (o0 :: o1 :: o2 :: l) (.int x :: st) h = zR d 1 Q 2 (o0 :: o1 :: some (.int x) :: l) st h := q_in rfl rfl
theorem r1_2 : zR d 1 Q 2 lv st h = zR d 1 Q 3 lv (.int 0 :: st) h := q_in rfl rfl
theorem r1_3 : zR d 1 Q 3 (o0 :: o1 :: o2 :: o3 :: l) (.int x :: st) h = zR d 1 Q 4 (o0 :: o1 :: o2 :: some (.int x) :: l) st h := q_in rfl rfl
theorem r1_4 : zR d 1 Q 4 (o0 :: o1 :: o2 :: some (.int x) :: l) st h = zR d 1 Q 5 (o0 :: o1 :: o2 :: some (.int x) :: l) (.int x :: st) h := q_in rfl rfl
theorem r1_5 : zR d 1 Q 5 lv st h = zR d 1 Q 6 lv (.int 5 :: st) h := q_in rfl rfl
theorem r1_6 : zR d 1 Q 6 lv (.int z :: .int x :: st) h = if x ≤ z then zR d 1 Q 9 lv st h else zR d 1 Q 35 lv st h := q_if rfl rfl
theorem r1_9 : zR d 1 Q 9 (o0 :: o1 :: some (.int x) :: l) st h = zR d 1 Q 10 (o0 :: o1 :: some (.int x) :: l) (.int x :: st) h := q_in rfl rfl
theorem r1_10 : zR d 1 Q 10 lv [.int x0] h = zM d 0 [.int x0] h (fun r h' => zR d 1 Q 13 lv (r.toList ++ []) h') := q_clS rfl rfl ⟨Nat.le_of_ble_eq_true rfl, Nat.le_of_ble_eq_true rfl⟩
theorem r1_13 : zR d 1 Q 13 lv (.int x :: st) h = if x = 0 then zR d 1 Q 35 lv st h else zR d 1 Q 16 lv st h := q_if rfl rfl
theorem r1_16 : zR d 1 Q 16 (o0 :: o1 :: some (.int x) :: l) st h = zR d 1 Q 17 (o0 :: o1 :: some (.int x) :: l) (.int x :: st) h := q_in rfl rfl
theorem r1_17 : zR d 1 Q 17 (o0 :: some (.int x) :: l) st h = zR d 1 Q 18 (o0 :: some (.int x) :: l) (.int x :: st) h := q_in rfl rfl
theorem r1_18 : zR d 1 Q 18 lv (.int z :: .int x :: st) h = if x = z then zR d 1 Q 21 lv st h else zR d 1 Q 23 lv st h := q_if rfl rfl
theorem r1_21 : zR d 1 Q 21 lv st h = zR d 1 Q 22 lv (.int 1 :: st) h := q_in rfl rfl
theorem r1_22f : zR d 1 Q 22 lv [.int 0] h = Q (some (.int 0)) h := q_retz rfl rfl (Or.inr (Or.inl rfl))
theorem r1_22t : zR d 1 Q 22 lv [.int 1] h = Q (some (.int 1)) h := q_retz rfl rfl (Or.inr (Or.inr rfl))
theorem r1_23 : zR d 1 Q 23 lv st h = zR d 1 Q 26 lv (.ref 80 :: st) h := q_in rfl rfl
theorem r1_26 : zR d 1 Q 26 (o0 :: o1 :: some (.int x) :: l) st h = zR d 1 Q 27 (o0 :: o1 :: some (.int x) :: l) (.int x :: st) h := q_in rfl rfl
theorem r1_27 : zR d 1 Q 27 lv (.int x :: .ref c :: st) h = zal c x h (fun w => zR d 1 Q 28 lv (.int w :: st) h) := q_iald rfl
theorem r1_28 : zR d 1 Q 28 (o0 :: o1 :: o2 :: l) (.int x :: st) h = zR d 1 Q 29 (o0 :: o1 :: some (.int x) :: l) st h := q_in rfl rfl
theorem r1_29 : zR d 1 Q 29 (o0 :: o1 :: o2 :: some (.int x) :: l) st h = zR d 1 Q 32 (o0 :: o1 :: o2 :: some (.int (x + 1)) :: l) st h := q_in rfl rfl
theorem r1_32 : zR d 1 Q 32 lv st h = zR d 1 Q 4 lv st h := q_in rfl rfl
theorem r1_35 : zR d 1 Q 35 lv st h = zR d 1 Q 36 lv (.int 0 :: st) h := q_in rfl rfl
theorem r1_36f : zR d 1 Q 36 lv [.int 0] h = Q (some (.int 0)) h := q_retz rfl rfl (Or.inr (Or.inl rfl))
theorem r1_36t : zR d 1 Q 36 lv [.int 1] h = Q (some (.int 1)) h := q_retz rfl rfl (Or.inr (Or.inr rfl))
theorem r2_0 : zR d 2 Q 0 (some (.int x) :: l) st h = zR d 2 Q 1 (some (.int x) :: l) (.int x :: st) h := q_in rfl rfl
theorem r2_1 : zR d 2 Q 1 lv (.int x :: st) h = if x = 1 then zR d 2 Q 36 lv st h else if x = 2 then zR d 2 Q 51 lv st h else if x = 3 then zR d 2 Q 40 lv st h else if x = 4 then zR d 2 Q 55 lv st h else if x = 5 then zR d 2 Q 61 lv st h else zR d 2 Q 63 lv st h := (q_in rfl rfl).trans (by simp only [zsw, zR_ite])
theorem r2_36 : zR d 2 Q 36 lv st h = zR d 2 Q 37 lv (.int 2 :: st) h := q_in rfl rfl
theorem r2_37 : zR d 2 Q 37 (o0 :: some (.int x) :: l) st h = zR d 2 Q 38 (o0 :: some (.int x) :: l) (.int x :: st) h := q_in rfl rfl
theorem r2_38 : zR d 2 Q 38 lv (.int z :: .int x :: st) h = zR d 2 Q 39 lv (.int (x * z) :: st) h := q_in rfl rfl
theorem r2_39 : zR d 2 Q 39 lv [.int x] h = Q (some (.int x)) h := q_retz rfl rfl (Or.inl rfl)
theorem r2_40 : zR d 2 Q 40 lv st h = zR d 2 Q 41 lv (.int 0 :: st) h := q_in rfl rfl
theorem r2_41 : zR d 2 Q 41 lv st h = zR d 2 Q 42 lv (.int 2 :: st) h := q_in rfl rfl
theorem r2_42 : zR d 2 Q 42 (o0 :: some (.int x) :: l) st h = zR d 2 Q 43 (o0 :: some (.int x) :: l) (.int x :: st) h := q_in rfl rfl
theorem r2_43 : zR d 2 Q 43 lv (.int z :: .int x :: st) h = zR d 2 Q 44 lv (.int (x * z) :: st) h := q_in rfl rfl
theorem r2_44 : zR d 2 Q 44 lv st h = zR d 2 Q 46 lv (.int 10 :: st) h := q_in rfl rfl
theorem r2_46 : zR d 2 Q 46 lv (.int z :: .int x :: st) h = zR d 2 Q 47 lv (.int (x - z) :: st) h := q_in rfl rfl
theorem r2_47 : zR d 2 Q 47 lv [.int x1, .int x0] h = zM d 1000 [.int x0, .int x1] h (fun r h' => zR d 2 Q 50 lv (r.toList ++ []) h') := q_clS rfl rfl ⟨Nat.le_of_ble_eq_true rfl, Nat.le_of_ble_eq_true rfl⟩
theorem r2_50 : zR d 2 Q 50 lv [.int x] h = Q (some (.int x)) h := q_retz rfl rfl (Or.inl rfl)
theorem r2_51 : zR d 2 Q 51 (o0 :: some (.int x) :: l) st h = zR d 2 Q 52 (o0 :: some (.int x) :: l) (.int x :: st) h := q_in rfl rfl
theorem r2_52 : zR d 2 Q 52 lv st h = zR d 2 Q 53 lv (.int 2 :: st) h := q_in rfl rfl
theorem r2_53 : zR d 2 Q 53 lv (.int 2 :: .int x :: st) h = zR d 2 Q 54 lv (.int (x / 2) :: st) h := (q_and rfl rfl).trans (zand_t (by decide))
theorem r2_54 : zR d 2 Q 54 lv [.int x] h = Q (some (.int x)) h := q_retz rfl rfl (Or.inl rfl)
theorem r2_55 : zR d 2 Q 55 (o0 :: some (.int x) :: l) st h = zR d 2 Q 56 (o0 :: some (.int x) :: l) (.int x :: st) h := q_in rfl rfl
theorem r2_56 : zR d 2 Q 56 lv st h = zR d 2 Q 57 lv (.int 2 :: st) h := q_in rfl rfl
theorem r2_57 : zR d 2 Q 57 lv (.int 2 :: .int x :: st) h = zR d 2 Q 58 lv (.int (x / 2) :: st) h := (q_and rfl rfl).trans (zand_t (by decide))
theorem r2_58 : zR d 2 Q 58 lv st h = zR d 2 Q 59 lv (.int 3 :: st) h := q_in rfl rfl
theorem r2_59 : zR d 2 Q 59 lv (.int z :: .int x :: st) h = zR d 2 Q 60 lv (.int (x + z) :: st) h := q_in rfl rfl
theorem r2_60 : zR d 2 Q 60 lv [.int x] h = Q (some (.int x)) h := q_retz rfl rfl (Or.inl rfl)
theorem r2_61 : zR d 2 Q 61 lv st h = zR d 2 Q 62 lv (.int 0 :: st) h := q_in rfl rfl
theorem r2_62 : zR d 2 Q 62 lv [.int x] h = Q (some (.int x)) h := q_retz rfl rfl (Or.inl rfl)
theorem r2_63 : zR d 2 Q 63 (o0 :: some (.int x) :: l) st h = zR d 2 Q 64 (o0 :: some (.int x) :: l) (.int x :: st) h := q_in rfl rfl
theorem r2_64 : zR d 2 Q 64 lv [.int x] h = Q (some (.int x)) h := q_retz rfl rfl (Or.inl rfl)
theorem r3_0 : zR d 3 Q 0 (some (.int x) :: l) st h = zR d 3 Q 1 (some (.int x) :: l) (.int x :: st) h := q_in rfl rfl
theorem r3_1 : zR d 3 Q 1 lv (.int x :: st) h = if x = 1 then zR d 3 Q 32 lv st h else if x = 2 then zR d 3 Q 34 lv st h else if x = 3 then zR d 3 Q 32 lv st h else if x = 4 then zR d 3 Q 36 lv st h else zR d 3 Q 38 lv st h := (q_in rfl rfl).trans (by simp only [zsw, zR_ite])
theorem r3_32 : zR d 3 Q 32 lv st h = zR d 3 Q 33 lv (.int 3 :: st) h := q_in rfl rfl
theorem r3_33 : zR d 3 Q 33 lv [.int x] h = Q (some (.int x)) h := q_retz rfl rfl (Or.inl rfl)
theorem r3_34 : zR d 3 Q 34 lv st h = zR d 3 Q 35 lv (.int 1 :: st) h := q_in rfl rfl
theorem r3_35 : zR d 3 Q 35 lv [.int x] h = Q (some (.int x)) h := q_retz rfl rfl (Or.inl rfl)
theorem r3_36 : zR d 3 Q 36 lv st h = zR d 3 Q 37 lv (.int 4 :: st) h := q_in rfl rfl
theorem r3_37 : zR d 3 Q 37 lv [.int x] h = Q (some (.int x)) h := q_retz rfl rfl (Or.inl rfl)
theorem r3_38 : zR d 3 Q 38 lv st h = zR d 3 Q 39 lv (.int 2 :: st) h := q_in rfl rfl
theorem r3_39 : zR d 3 Q 39 lv [.int x] h = Q (some (.int x)) h := q_retz rfl rfl (Or.inl rfl)
theorem r4_0 : zR d 4 Q 0 (some (.int x) :: l) st h = zR d 4 Q 1 (some (.int x) :: l) (.int x :: st) h := q_in rfl rfl
theorem r4_1 : zR d 4 Q 1 lv (.int x :: st) h = if x = 1 then zR d 4 Q 36 lv st h else if x = 2 then zR d 4 Q 42 lv st h else if x = 3 then zR d 4 Q 40 lv st h else if x = 4 then zR d 4 Q 42 lv st h else if x = 5 then zR d 4 Q 46 lv st h else zR d 4 Q 50 lv st h := (q_in rfl rfl).trans (by simp only [zsw, zR_ite])
theorem r4_36 : zR d 4 Q 36 (o0 :: some (.int x) :: l) st h = zR d 4 Q 37 (o0 :: some (.int x) :: l) (.int x :: st) h := q_in rfl rfl
theorem r4_37 : zR d 4 Q 37 lv st h = zR d 4 Q 38 lv (.int 5 :: st) h := q_in rfl rfl
theorem r4_38 : zR d 4 Q 38 lv (.int z :: .int x :: st) h = zR d 4 Q 39 lv (.int (x + z) :: st) h := q_in rfl rfl
theorem r4_39 : zR d 4 Q 39 lv [.int x] h = Q (some (.int x)) h := q_retz rfl rfl (Or.inl rfl)
theorem r4_40 : zR d 4 Q 40 lv st h = zR d 4 Q 41 lv (.int 0 :: st) h := q_in rfl rfl
theorem r4_41 : zR d 4 Q 41 lv [.int x] h = Q (some (.int x)) h := q_retz rfl rfl (Or.inl rfl)
theorem r4_42 : zR d 4 Q 42 (o0 :: some (.int x) :: l) st h = zR d 4 Q 43 (o0 :: some (.int x) :: l) (.int x :: st) h := q_in rfl rfl
theorem r4_43 : zR d 4 Q 43 lv st h = zR d 4 Q 44 lv (.int 2 :: st) h := q_in rfl rfl
theorem r4_44 : zR d 4 Q 44 lv (.int 2 :: .int x :: st) h = zR d 4 Q 45 lv (.int (x / 2) :: st) h := (q_and rfl rfl).trans (zand_t (by decide))
theorem r4_45 : zR d 4 Q 45 lv [.int x] h = Q (some (.int x)) h := q_retz rfl rfl (Or.inl rfl)
theorem r4_46 : zR d 4 Q 46 lv st h = zR d 4 Q 49 lv (.int 9999 :: st) h := q_in rfl rfl
theorem r4_49 : zR d 4 Q 49 lv [.int x] h = Q (some (.int x)) h := q_retz rfl rfl (Or.inl rfl)
theorem r4_50 : zR d 4 Q 50 (o0 :: some (.int x) :: l) st h = zR d 4 Q 51 (o0 :: some (.int x) :: l) (.int x :: st) h := q_in rfl rfl
theorem r4_51 : zR d 4 Q 51 lv [.int x] h = Q (some (.int x)) h := q_retz rfl rfl (Or.inl rfl)
theorem r5_0 : zR d 5 Q 0 (some (.int x) :: l) st h = zR d 5 Q 1 (some (.int x) :: l) (.int x :: st) h := q_in rfl rfl
theorem r5_1 : zR d 5 Q 1 lv (.int x :: st) h = if x = 1 then zR d 5 Q 36 lv st h else if x = 2 then zR d 5 Q 48 lv st h else if x = 3 then zR d 5 Q 41 lv st h else if x = 4 then zR d 5 Q 53 lv st h else if x = 5 then zR d 5 Q 61 lv st h else zR d 5 Q 63 lv st h := (q_in rfl rfl).trans (by simp only [zsw, zR_ite])
theorem r5_36 : zR d 5 Q 36 (o0 :: some (.int x) :: l) st h = zR d 5 Q 37 (o0 :: some (.int x) :: l) (.int x :: st) h := q_in rfl rfl
theorem r5_37 : zR d 5 Q 37 lv st h = zR d 5 Q 39 lv (.int 8 :: st) h := q_in rfl rfl
theorem r5_39 : zR d 5 Q 39 lv (.int z :: .int x :: st) h = zR d 5 Q 40 lv (.int (x + z) :: st) h := q_in rfl rfl
theorem r5_40 : zR d 5 Q 40 lv [.int x] h = Q (some (.int x)) h := q_retz rfl rfl (Or.inl rfl)
theorem r5_41 : zR d 5 Q 41 lv st h = zR d 5 Q 42 lv (.int 2 :: st) h := q_in rfl rfl
theorem r5_42 : zR d 5 Q 42 (o0 :: some (.int x) :: l) st h = zR d 5 Q 43 (o0 :: some (.int x) :: l) (.int x :: st) h := q_in rfl rfl
theorem r5_43 : zR d 5 Q 43 lv st h = zR d 5 Q 45 lv (.int 8 :: st) h := q_in rfl rfl
theorem r5_45 : zR d 5 Q 45 lv (.int z :: .int x :: st) h = zR d 5 Q 46 lv (.int (x + z) :: st) h := q_in rfl rfl
theorem r5_46 : zR d 5 Q 46 lv (.int z :: .int x :: st) h = zR d 5 Q 47 lv (.int (x * z) :: st) h := q_in rfl rfl
theorem r5_47 : zR d 5 Q 47 lv [.int x] h = Q (some (.int x)) h := q_retz rfl rfl (Or.inl rfl)
theorem r5_48 : zR d 5 Q 48 lv st h = zR d 5 Q 50 lv (.int 99 :: st) h := q_in rfl rfl
theorem r5_50 : zR d 5 Q 50 (o0 :: some (.int x) :: l) st h = zR d 5 Q 51 (o0 :: some (.int x) :: l) (.int x :: st) h := q_in rfl rfl
theorem r5_51 : zR d 5 Q 51 lv (.int z :: .int x :: st) h = zR d 5 Q 52 lv (.int (x - z) :: st) h := q_in rfl rfl
theorem r5_52 : zR d 5 Q 52 lv [.int x] h = Q (some (.int x)) h := q_retz rfl rfl (Or.inl rfl)
theorem r5_53 : zR d 5 Q 53 lv st h = zR d 5 Q 55 lv (.int 99 :: st) h := q_in rfl rfl
theorem r5_55 : zR d 5 Q 55 (o0 :: some (.int x) :: l) st h = zR d 5 Q 56 (o0 :: some (.int x) :: l) (.int x :: st) h := q_in rfl rfl
theorem r5_56 : zR d 5 Q 56 lv (.int z :: .int x :: st) h = zR d 5 Q 57 lv (.int (x - z) :: st) h := q_in rfl rfl
theorem r5_57 : zR d 5 Q 57 lv st h = zR d 5 Q 59 lv (.int 7 :: st) h := q_in rfl rfl
theorem r5_59 : zR d 5 Q 59 lv (.int z :: .int x :: st) h = zR d 5 Q 60 lv (.int (x - z) :: st) h := q_in rfl rfl
theorem r5_60 : zR d 5 Q 60 lv [.int x] h = Q (some (.int x)) h := q_retz rfl rfl (Or.inl rfl)
theorem r5_61 : zR d 5 Q 61 lv st h = zR d 5 Q 62 lv (.int 5 :: st) h := q_in rfl rfl
theorem r5_62 : zR d 5 Q 62 lv [.int x] h = Q (some (.int x)) h := q_retz rfl rfl (Or.inl rfl)
theorem r5_63 : zR d 5 Q 63 (o0 :: some (.int x) :: l) st h = zR d 5 Q 64 (o0 :: some (.int x) :: l) (.int x :: st) h := q_in rfl rfl
theorem r5_64 : zR d 5 Q 64 lv [.int x] h = Q (some (.int x)) h := q_retz rfl rfl (Or.inl rfl)
theorem r6_0 : zR d 6 Q 0 (o0 :: some (.int x) :: l) st h = zR d 6 Q 1 (o0 :: some (.int x) :: l) (.int x :: st) h := q_in rfl rfl
theorem r6_1 : zR d 6 Q 1 lv st h = zR d 6 Q 2 lv (.int 0 :: st) h := q_in rfl rfl
theorem r6_2 : zR d 6 Q 2 lv st h = zR d 6 Q 4 lv (.int 13 :: st) h := q_in rfl rfl
theorem r6_4 : zR d 6 Q 4 lv [.int x2, .int x1, .int x0] h = zM d 103 [.int x0, .int x1, .int x2] h (fun r h' => zR d 6 Q 7 lv (r.toList ++ []) h') := q_clS rfl rfl ⟨Nat.le_of_ble_eq_true rfl, Nat.le_of_ble_eq_true rfl⟩
theorem r6_7 : zR d 6 Q 7 lv (.int x :: st) h = if x = 0 then zR d 6 Q 10 lv st h else zR d 6 Q 11 lv st h := q_if rfl rfl
theorem r6_10 : zR d 6 Q 10 lv [] h = Q none h := q_ret rfl rfl
theorem r6_11 : zR d 6 Q 11 (some (.ref c) :: l) st h = zR d 6 Q 12 (some (.ref c) :: l) (.ref c :: st) h := q_in rfl rfl
theorem r6_12 : zR d 6 Q 12 lv (.ref 1 :: st) h = zR d 6 Q 15 lv (.ref 2 :: st) h := (q_and rfl rfl).trans (zand_t rfl)
theorem r6_15 : zR d 6 Q 15 (o0 :: some (.int x) :: l) st h = zR d 6 Q 16 (o0 :: some (.int x) :: l) (.int x :: st) h := q_in rfl rfl
theorem r6_16 : zR d 6 Q 16 (o0 :: o1 :: some (.ref c) :: l) st h = zR d 6 Q 17 (o0 :: o1 :: some (.ref c) :: l) (.ref c :: st) h := q_in rfl rfl
theorem r6_17 : zR d 6 Q 17 lv (.ref 7 :: st) h = zR d 6 Q 20 lv (.int (h 7 7) :: st) h := (q_and rfl rfl).trans (zand_t rfl)
theorem r6_20 : zR d 6 Q 20 lv (.int z :: .int x :: .ref c :: st) h = zas c x z h (fun h' => zR d 6 Q 21 lv st h') := q_iast rfl
theorem r6_21 : zR d 6 Q 21 (some (.ref c) :: l) st h = zR d 6 Q 22 (some (.ref c) :: l) (.ref c :: st) h := q_in rfl rfl
theorem r6_22 : zR d 6 Q 22 lv (.ref 1 :: st) h = zR d 6 Q 25 lv (.ref 3 :: st) h := (q_and rfl rfl).trans (zand_t rfl)
theorem r6_25 : zR d 6 Q 25 (o0 :: some (.int x) :: l) st h = zR d 6 Q 26 (o0 :: some (.int x) :: l) (.int x :: st) h := q_in rfl rfl
theorem r6_26 : zR d 6 Q 26 (o0 :: o1 :: some (.ref c) :: l) st h = zR d 6 Q 27 (o0 :: o1 :: some (.ref c) :: l) (.ref c :: st) h := q_in rfl rfl
theorem r6_27 : zR d 6 Q 27 lv (.ref 7 :: st) h = zR d 6 Q 30 lv (.int (h 7 10) :: st) h := (q_and rfl rfl).trans (zand_t rfl)
theorem r6_30 : zR d 6 Q 30 lv (.int z :: .int x :: .ref c :: st) h = zas c x z h (fun h' => zR d 6 Q 31 lv st h') := q_iast rfl
theorem r6_31 : zR d 6 Q 31 (some (.ref c) :: l) st h = zR d 6 Q 32 (some (.ref c) :: l) (.ref c :: st) h := q_in rfl rfl
theorem r6_32 : zR d 6 Q 32 lv (.ref 1 :: st) h = zR d 6 Q 35 lv (.ref 4 :: st) h := (q_and rfl rfl).trans (zand_t rfl)
theorem r6_35 : zR d 6 Q 35 (o0 :: some (.int x) :: l) st h = zR d 6 Q 36 (o0 :: some (.int x) :: l) (.int x :: st) h := q_in rfl rfl
theorem r6_36 : zR d 6 Q 36 (o0 :: o1 :: some (.ref c) :: l) st h = zR d 6 Q 37 (o0 :: o1 :: some (.ref c) :: l) (.ref c :: st) h := q_in rfl rfl
theorem r6_37 : zR d 6 Q 37 lv (.ref 7 :: st) h = zR d 6 Q 40 lv (.int (h 7 9) :: st) h := (q_and rfl rfl).trans (zand_t rfl)
theorem r6_40 : zR d 6 Q 40 lv (.int z :: .int x :: .ref c :: st) h = zas c x z h (fun h' => zR d 6 Q 41 lv st h') := q_iast rfl
theorem r6_41 : zR d 6 Q 41 (o0 :: o1 :: some (.ref c) :: l) st h = zR d 6 Q 42 (o0 :: o1 :: some (.ref c) :: l) (.ref c :: st) h := q_in rfl rfl
theorem r6_42 : zR d 6 Q 42 lv (.ref 7 :: st) h = zR d 6 Q 45 lv (.ref 9 :: st) h := (q_and rfl rfl).trans (zand_t rfl)
theorem r6_45 : zR d 6 Q 45 lv st h = zR d 6 Q 46 lv (.int 0 :: st) h := q_in rfl rfl
theorem r6_46 : zR d 6 Q 46 (some (.ref c) :: l) st h = zR d 6 Q 47 (some (.ref c) :: l) (.ref c :: st) h := q_in rfl rfl
theorem r6_47 : zR d 6 Q 47 lv (.ref 1 :: st) h = zR d 6 Q 50 lv (.ref 5 :: st) h := (q_and rfl rfl).trans (zand_t rfl)
theorem r6_50 : zR d 6 Q 50 (o0 :: some (.int x) :: l) st h = zR d 6 Q 51 (o0 :: some (.int x) :: l) (.int x :: st) h := q_in rfl rfl
theorem r6_51 : zR d 6 Q 51 lv st h = zR d 6 Q 53 lv (.int 96 :: st) h := q_in rfl rfl
theorem r6_53 : zR d 6 Q 53 lv (.int z :: .int x :: st) h = zR d 6 Q 54 lv (.int (x * z) :: st) h := q_in rfl rfl
theorem r6_54 : zR d 6 Q 54 lv st h = zR d 6 Q 56 lv (.int 96 :: st) h := q_in rfl rfl
theorem r6_56 : zR d 6 Q 56 lv [.int x4, .int x3, .ref c2, .int x1, .ref c0] h = zM d 1003 [.ref c0, .int x1, .ref c2, .int x3, .int x4] h (fun r h' => zR d 6 Q 59 lv (r.toList ++ []) h') := q_clS rfl rfl ⟨Nat.le_of_ble_eq_true rfl, Nat.le_of_ble_eq_true rfl⟩
theorem r6_59 : zR d 6 Q 59 lv [] h = Q none h := q_ret rfl rfl
theorem r7_0 : zR d 7 Q 0 (o0 :: some (.int x) :: l) st h = zR d 7 Q 1 (o0 :: some (.int x) :: l) (.int x :: st) h := q_in rfl rfl
theorem r7_1 : zR d 7 Q 1 lv st h = zR d 7 Q 2 lv (.int 0 :: st) h := q_in rfl rfl
theorem r7_2 : zR d 7 Q 2 lv st h = zR d 7 Q 4 lv (.int 13 :: st) h := q_in rfl rfl
theorem r7_4 : zR d 7 Q 4 lv [.int x2, .int x1, .int x0] h = zM d 103 [.int x0, .int x1, .int x2] h (fun r h' => zR d 7 Q 7 lv (r.toList ++ []) h') := q_clS rfl rfl ⟨Nat.le_of_ble_eq_true rfl, Nat.le_of_ble_eq_true rfl⟩
theorem r7_7 : zR d 7 Q 7 lv (.int x :: st) h = if x = 0 then zR d 7 Q 10 lv st h else zR d 7 Q 12 lv st h := q_if rfl rfl
theorem r7_10 : zR d 7 Q 10 lv st h = zR d 7 Q 11 lv (.int 0 :: st) h := q_in rfl rfl
theorem r7_11 : zR d 7 Q 11 lv [.int x] h = Q (some (.int x)) h := q_retz rfl rfl (Or.inl rfl)
theorem r7_12 : zR d 7 Q 12 lv st h = zR d 7 Q 13 lv (.int 0 :: st) h := q_in rfl rfl
theorem r7_13 : zR d 7 Q 13 (o0 :: o1 :: o2 :: o3 :: o4 :: o5 :: l) (.int x :: st) h = zR d 7 Q 15 (o0 :: o1 :: o2 :: o3 :: o4 :: some (.int x) :: l) st h := q_in rfl rfl
theorem r7_15 : zR d 7 Q 15 lv st h = zR d 7 Q 16 lv (.int 0 :: st) h := q_in rfl rfl
theorem r7_16 : zR d 7 Q 16 (o0 :: o1 :: o2 :: o3 :: o4 :: o5 :: o6 :: l) (.int x :: st) h = zR d 7 Q 18 (o0 :: o1 :: o2 :: o3 :: o4 :: o5 :: some (.int x) :: l) st h := q_in rfl rfl
theorem r7_18 : zR d 7 Q 18 (o0 :: o1 :: o2 :: o3 :: o4 :: o5 :: some (.int x) :: l) st h = zR d 7 Q 20 (o0 :: o1 :: o2 :: o3 :: o4 :: o5 :: some (.int x) :: l) (.int x :: st) h := q_in rfl rfl
theorem r7_20 : zR d 7 Q 20 (some (.ref c) :: l) st h = zR d 7 Q 21 (some (.ref c) :: l) (.ref c :: st) h := q_in rfl rfl
theorem r7_21 : zR d 7 Q 21 lv (.ref 1 :: st) h = zR d 7 Q 24 lv (.ref 4 :: st) h := (q_and rfl rfl).trans (zand_t rfl)
theorem r7_24 : zR d 7 Q 24 (o0 :: some (.int x) :: l) st h = zR d 7 Q 25 (o0 :: some (.int x) :: l) (.int x :: st) h := q_in rfl rfl
theorem r7_25 : zR d 7 Q 25 lv (.int x :: .ref c :: st) h = zal c x h (fun w => zR d 7 Q 26 lv (.int w :: st) h) := q_iald rfl
theorem r7_26 : zR d 7 Q 26 lv (.int z :: .int x :: st) h = if x < z then zR d 7 Q 29 lv st h else zR d 7 Q 198 lv st h := q_if rfl rfl
theorem r7_29 : zR d 7 Q 29 (o0 :: o1 :: o2 :: o3 :: o4 :: o5 :: some (.int x) :: l) st h = zR d 7 Q 31 (o0 :: o1 :: o2 :: o3 :: o4 :: o5 :: some (.int x) :: l) (.int x :: st) h := q_in rfl rfl
theorem r7_31 : zR d 7 Q 31 lv st h = zR d 7 Q 33 lv (.int 96 :: st) h := q_in rfl rfl
theorem r7_33 : zR d 7 Q 33 lv (.int z :: .int x :: st) h = if x < z then zR d 7 Q 36 lv st h else zR d 7 Q 198 lv st h := q_if rfl rfl
theorem r7_36 : zR d 7 Q 36 (some (.ref c) :: l) st h = zR d 7 Q 37 (some (.ref c) :: l) (.ref c :: st) h := q_in rfl rfl
theorem r7_37 : zR d 7 Q 37 lv (.ref 1 :: st) h = zR d 7 Q 40 lv (.ref 5 :: st) h := (q_and rfl rfl).trans (zand_t rfl)
theorem r7_40 : zR d 7 Q 40 (o0 :: some (.int x) :: l) st h = zR d 7 Q 41 (o0 :: some (.int x) :: l) (.int x :: st) h := q_in rfl rfl
theorem r7_41 : zR d 7 Q 41 lv st h = zR d 7 Q 43 lv (.int 96 :: st) h := q_in rfl rfl
theorem r7_43 : zR d 7 Q 43 lv (.int z :: .int x :: st) h = zR d 7 Q 44 lv (.int (x * z) :: st) h := q_in rfl rfl
theorem r7_44 : zR d 7 Q 44 (o0 :: o1 :: o2 :: o3 :: o4 :: o5 :: some (.int x) :: l) st h = zR d 7 Q 46 (o0 :: o1 :: o2 :: o3 :: o4 :: o5 :: some (.int x) :: l) (.int x :: st) h := q_in rfl rfl
theorem r7_46 : zR d 7 Q 46 lv (.int z :: .int x :: st) h = zR d 7 Q 47 lv (.int (x + z) :: st) h := q_in rfl rfl
theorem r7_47 : zR d 7 Q 47 lv (.int x :: .ref c :: st) h = zal c x h (fun w => zR d 7 Q 48 lv (.int w :: st) h) := q_iald rfl
theorem r7_48 : zR d 7 Q 48 (o0 :: o1 :: o2 :: o3 :: o4 :: o5 :: o6 :: o7 :: l) (.int x :: st) h = zR d 7 Q 50 (o0 :: o1 :: o2 :: o3 :: o4 :: o5 :: o6 :: some (.int x) :: l) st h := q_in rfl rfl
theorem r7_50 : zR d 7 Q 50 (o0 :: o1 :: o2 :: o3 :: o4 :: o5 :: o6 :: some (.int x) :: l) st h = zR d 7 Q 52 (o0 :: o1 :: o2 :: o3 :: o4 :: o5 :: o6 :: some (.int x) :: l) (.int x :: st) h := q_in rfl rfl
theorem r7_52 : zR d 7 Q 52 lv st h = zR d 7 Q 54 lv (.int (-3) :: st) h := q_in rfl rfl
theorem r7_54 : zR d 7 Q 54 lv (.int z :: .int x :: st) h = if x < z then zR d 7 Q 110 lv st h else zR d 7 Q 57 lv st h := q_if rfl rfl
theorem r7_57 : zR d 7 Q 57 (o0 :: o1 :: o2 :: o3 :: o4 :: some (.int x) :: l) st h = zR d 7 Q 59 (o0 :: o1 :: o2 :: o3 :: o4 :: some (.int x) :: l) (.int x :: st) h := q_in rfl rfl
theorem r7_59 : zR d 7 Q 59 lv st h = zR d 7 Q 61 lv (.int 96 :: st) h := q_in rfl rfl
theorem r7_61 : zR d 7 Q 61 lv (.int z :: .int x :: st) h = if x < z then zR d 7 Q 64 lv st h else zR d 7 Q 192 lv st h := q_if rfl rfl
theorem r7_64 : zR d 7 Q 64 (some (.ref c) :: l) st h = zR d 7 Q 65 (some (.ref c) :: l) (.ref c :: st) h := q_in rfl rfl
theorem r7_65 : zR d 7 Q 65 lv (.ref 1 :: st) h = zR d 7 Q 68 lv (.ref 6 :: st) h := (q_and rfl rfl).trans (zand_t rfl)
theorem r7_68 : zR d 7 Q 68 (o0 :: o1 :: o2 :: o3 :: o4 :: some (.int x) :: l) st h = zR d 7 Q 70 (o0 :: o1 :: o2 :: o3 :: o4 :: some (.int x) :: l) (.int x :: st) h := q_in rfl rfl
theorem r7_70 : zR d 7 Q 70 (o0 :: o1 :: o2 :: o3 :: o4 :: o5 :: o6 :: some (.int x) :: l) st h = zR d 7 Q 72 (o0 :: o1 :: o2 :: o3 :: o4 :: o5 :: o6 :: some (.int x) :: l) (.int x :: st) h := q_in rfl rfl
theorem r7_72 : zR d 7 Q 72 lv (.int x :: st) h = if x < 0 then zR d 7 Q 80 lv st h else zR d 7 Q 75 lv st h := q_if rfl rfl
theorem r7_75 : zR d 7 Q 75 (o0 :: o1 :: o2 :: o3 :: o4 :: o5 :: o6 :: some (.int x) :: l) st h = zR d 7 Q 77 (o0 :: o1 :: o2 :: o3 :: o4 :: o5 :: o6 :: some (.int x) :: l) (.int x :: st) h := q_in rfl rfl
theorem r7_77 : zR d 7 Q 77 lv st h = zR d 7 Q 103 lv st h := q_in rfl rfl
theorem r7_80 : zR d 7 Q 80 (o0 :: o1 :: o2 :: o3 :: o4 :: o5 :: o6 :: some (.int x) :: l) st h = zR d 7 Q 82 (o0 :: o1 :: o2 :: o3 :: o4 :: o5 :: o6 :: some (.int x) :: l) (.int x :: st) h := q_in rfl rfl
theorem r7_82 : zR d 7 Q 82 lv st h = zR d 7 Q 83 lv (.int (-1) :: st) h := q_in rfl rfl
theorem r7_83 : zR d 7 Q 83 lv (.int z :: .int x :: st) h = if x = z then zR d 7 Q 86 lv st h else zR d 7 Q 90 lv st h := q_if rfl rfl
theorem r7_86 : zR d 7 Q 86 (o0 :: o1 :: some (.int x) :: l) st h = zR d 7 Q 87 (o0 :: o1 :: some (.int x) :: l) (.int x :: st) h := q_in rfl rfl
theorem r7_87 : zR d 7 Q 87 lv st h = zR d 7 Q 103 lv st h := q_in rfl rfl
theorem r7_90 : zR d 7 Q 90 (o0 :: o1 :: o2 :: o3 :: o4 :: o5 :: o6 :: some (.int x) :: l) st h = zR d 7 Q 92 (o0 :: o1 :: o2 :: o3 :: o4 :: o5 :: o6 :: some (.int x) :: l) (.int x :: st) h := q_in rfl rfl
theorem r7_92 : zR d 7 Q 92 lv st h = zR d 7 Q 94 lv (.int (-2) :: st) h := q_in rfl rfl
theorem r7_94 : zR d 7 Q 94 lv (.int z :: .int x :: st) h = if x = z then zR d 7 Q 97 lv st h else zR d 7 Q 101 lv st h := q_if rfl rfl
theorem r7_97 : zR d 7 Q 97 (o0 :: o1 :: o2 :: some (.int x) :: l) st h = zR d 7 Q 98 (o0 :: o1 :: o2 :: some (.int x) :: l) (.int x :: st) h := q_in rfl rfl
theorem r7_98 : zR d 7 Q 98 lv st h = zR d 7 Q 103 lv st h := q_in rfl rfl
theorem r7_101 : zR d 7 Q 101 (o0 :: o1 :: o2 :: o3 :: some (.int x) :: l) st h = zR d 7 Q 103 (o0 :: o1 :: o2 :: o3 :: some (.int x) :: l) (.int x :: st) h := q_in rfl rfl
theorem r7_103 : zR d 7 Q 103 lv (.int z :: .int x :: .ref c :: st) h = zas c x z h (fun h' => zR d 7 Q 104 lv st h') := q_iast rfl
theorem r7_104 : zR d 7 Q 104 (o0 :: o1 :: o2 :: o3 :: o4 :: some (.int x) :: l) st h = zR d 7 Q 107 (o0 :: o1 :: o2 :: o3 :: o4 :: some (.int (x + 1)) :: l) st h := q_in rfl rfl
theorem r7_107 : zR d 7 Q 107 lv st h = zR d 7 Q 192 lv st h := q_in rfl rfl
theorem r7_110 : zR d 7 Q 110 (o0 :: o1 :: o2 :: o3 :: o4 :: o5 :: o6 :: some (.int x) :: l) st h = zR d 7 Q 112 (o0 :: o1 :: o2 :: o3 :: o4 :: o5 :: o6 :: some (.int x) :: l) (.int x :: st) h := q_in rfl rfl
theorem r7_112 : zR d 7 Q 112 lv st h = zR d 7 Q 114 lv (.int (-33) :: st) h := q_in rfl rfl
theorem r7_114 : zR d 7 Q 114 lv (.int z :: .int x :: st) h = if x = z then zR d 7 Q 117 lv st h else zR d 7 Q 152 lv st h := q_if rfl rfl
theorem r7_117 : zR d 7 Q 117 (o0 :: o1 :: o2 :: o3 :: o4 :: some (.int x) :: l) st h = zR d 7 Q 119 (o0 :: o1 :: o2 :: o3 :: o4 :: some (.int x) :: l) (.int x :: st) h := q_in rfl rfl
theorem r7_119 : zR d 7 Q 119 lv st h = zR d 7 Q 120 lv (.int 1 :: st) h := q_in rfl rfl
theorem r7_120 : zR d 7 Q 120 lv (.int z :: .int x :: st) h = if x < z then zR d 7 Q 192 lv st h else zR d 7 Q 123 lv st h := q_if rfl rfl
theorem r7_123 : zR d 7 Q 123 (some (.ref c) :: l) st h = zR d 7 Q 124 (some (.ref c) :: l) (.ref c :: st) h := q_in rfl rfl
theorem r7_124 : zR d 7 Q 124 lv (.ref 1 :: st) h = zR d 7 Q 127 lv (.ref 6 :: st) h := (q_and rfl rfl).trans (zand_t rfl)
theorem r7_127 : zR d 7 Q 127 (o0 :: o1 :: o2 :: o3 :: o4 :: some (.int x) :: l) st h = zR d 7 Q 129 (o0 :: o1 :: o2 :: o3 :: o4 :: some (.int x) :: l) (.int x :: st) h := q_in rfl rfl
theorem r7_129 : zR d 7 Q 129 lv st h = zR d 7 Q 130 lv (.int 1 :: st) h := q_in rfl rfl
theorem r7_130 : zR d 7 Q 130 lv (.int z :: .int x :: st) h = zR d 7 Q 131 lv (.int (x - z) :: st) h := q_in rfl rfl
theorem r7_131 : zR d 7 Q 131 (some (.ref c) :: l) st h = zR d 7 Q 132 (some (.ref c) :: l) (.ref c :: st) h := q_in rfl rfl
theorem r7_132 : zR d 7 Q 132 lv (.ref 1 :: st) h = zR d 7 Q 135 lv (.ref 6 :: st) h := (q_and rfl rfl).trans (zand_t rfl)
theorem r7_135 : zR d 7 Q 135 (o0 :: o1 :: o2 :: o3 :: o4 :: some (.int x) :: l) st h = zR d 7 Q 137 (o0 :: o1 :: o2 :: o3 :: o4 :: some (.int x) :: l) (.int x :: st) h := q_in rfl rfl
theorem r7_137 : zR d 7 Q 137 lv st h = zR d 7 Q 138 lv (.int 1 :: st) h := q_in rfl rfl
theorem r7_138 : zR d 7 Q 138 lv (.int z :: .int x :: st) h = zR d 7 Q 139 lv (.int (x - z) :: st) h := q_in rfl rfl
theorem r7_139 : zR d 7 Q 139 lv (.int x :: .ref c :: st) h = zal c x h (fun w => zR d 7 Q 140 lv (.int w :: st) h) := q_iald rfl
theorem r7_140 : zR d 7 Q 140 lv (.int x :: st) h = if x = 0 then zR d 7 Q 143 lv st h else zR d 7 Q 147 lv st h := q_if rfl rfl
theorem r7_143 : zR d 7 Q 143 lv st h = zR d 7 Q 144 lv (.int 1 :: st) h := q_in rfl rfl
theorem r7_144 : zR d 7 Q 144 lv st h = zR d 7 Q 148 lv st h := q_in rfl rfl
theorem r7_147 : zR d 7 Q 147 lv st h = zR d 7 Q 148 lv (.int 0 :: st) h := q_in rfl rfl
theorem r7_148 : zR d 7 Q 148 lv (.int z :: .int x :: .ref c :: st) h = zas c x z h (fun h' => zR d 7 Q 149 lv st h') := q_iast rfl
theorem r7_149 : zR d 7 Q 149 lv st h = zR d 7 Q 192 lv st h := q_in rfl rfl
theorem r7_152 : zR d 7 Q 152 (o0 :: o1 :: o2 :: o3 :: o4 :: some (.int x) :: l) st h = zR d 7 Q 154 (o0 :: o1 :: o2 :: o3 :: o4 :: some (.int x) :: l) (.int x :: st) h := q_in rfl rfl
theorem r7_154 : zR d 7 Q 154 lv st h = zR d 7 Q 155 lv (.int 2 :: st) h := q_in rfl rfl
theorem r7_155 : zR d 7 Q 155 lv (.int z :: .int x :: st) h = if x < z then zR d 7 Q 192 lv st h else zR d 7 Q 158 lv st h := q_if rfl rfl
theorem r7_158 : zR d 7 Q 158 (o0 :: o1 :: o2 :: o3 :: o4 :: some (.int x) :: l) st h = zR d 7 Q 161 (o0 :: o1 :: o2 :: o3 :: o4 :: some (.int (x + (-1))) :: l) st h := q_in rfl rfl
theorem r7_161 : zR d 7 Q 161 (some (.ref c) :: l) st h = zR d 7 Q 162 (some (.ref c) :: l) (.ref c :: st) h := q_in rfl rfl
theorem r7_162 : zR d 7 Q 162 lv (.ref 1 :: st) h = zR d 7 Q 165 lv (.ref 6 :: st) h := (q_and rfl rfl).trans (zand_t rfl)
theorem r7_165 : zR d 7 Q 165 (o0 :: o1 :: o2 :: o3 :: o4 :: some (.int x) :: l) st h = zR d 7 Q 167 (o0 :: o1 :: o2 :: o3 :: o4 :: some (.int x) :: l) (.int x :: st) h := q_in rfl rfl
theorem r7_167 : zR d 7 Q 167 lv st h = zR d 7 Q 168 lv (.int 1 :: st) h := q_in rfl rfl
theorem r7_168 : zR d 7 Q 168 lv (.int z :: .int x :: st) h = zR d 7 Q 169 lv (.int (x - z) :: st) h := q_in rfl rfl
theorem r7_169 : zR d 7 Q 169 (o0 :: o1 :: o2 :: o3 :: o4 :: o5 :: o6 :: some (.int x) :: l) st h = zR d 7 Q 171 (o0 :: o1 :: o2 :: o3 :: o4 :: o5 :: o6 :: some (.int x) :: l) (.int x :: st) h := q_in rfl rfl
theorem r7_171 : zR d 7 Q 171 lv (.int x :: st) h = zR d 7 Q 172 lv (.int (-x) :: st) h := q_in rfl rfl
theorem r7_172 : zR d 7 Q 172 (some (.ref c) :: l) st h = zR d 7 Q 173 (some (.ref c) :: l) (.ref c :: st) h := q_in rfl rfl
theorem r7_173 : zR d 7 Q 173 lv (.ref 1 :: st) h = zR d 7 Q 176 lv (.ref 6 :: st) h := (q_and rfl rfl).trans (zand_t rfl)
theorem r7_176 : zR d 7 Q 176 (o0 :: o1 :: o2 :: o3 :: o4 :: some (.int x) :: l) st h = zR d 7 Q 178 (o0 :: o1 :: o2 :: o3 :: o4 :: some (.int x) :: l) (.int x :: st) h := q_in rfl rfl
theorem r7_178 : zR d 7 Q 178 lv st h = zR d 7 Q 179 lv (.int 1 :: st) h := q_in rfl rfl
theorem r7_179 : zR d 7 Q 179 lv (.int z :: .int x :: st) h = zR d 7 Q 180 lv (.int (x - z) :: st) h := q_in rfl rfl
theorem r7_180 : zR d 7 Q 180 lv (.int x :: .ref c :: st) h = zal c x h (fun w => zR d 7 Q 181 lv (.int w :: st) h) := q_iald rfl
theorem r7_181 : zR d 7 Q 181 (some (.ref c) :: l) st h = zR d 7 Q 182 (some (.ref c) :: l) (.ref c :: st) h := q_in rfl rfl
theorem r7_182 : zR d 7 Q 182 lv (.ref 1 :: st) h = zR d 7 Q 185 lv (.ref 6 :: st) h := (q_and rfl rfl).trans (zand_t rfl)
theorem r7_185 : zR d 7 Q 185 (o0 :: o1 :: o2 :: o3 :: o4 :: some (.int x) :: l) st h = zR d 7 Q 187 (o0 :: o1 :: o2 :: o3 :: o4 :: some (.int x) :: l) (.int x :: st) h := q_in rfl rfl
theorem r7_187 : zR d 7 Q 187 lv (.int x :: .ref c :: st) h = zal c x h (fun w => zR d 7 Q 188 lv (.int w :: st) h) := q_iald rfl
theorem r7_188 : zR d 7 Q 188 lv [.int x2, .int x1, .int x0, .int y0, .ref a1] h = zM d 8 [.int x0, .int x1, .int x2] h (fun r h' => zR d 7 Q 191 lv (r.toList ++ [.int y0, .ref a1]) h') := q_clS rfl rfl ⟨Nat.le_of_ble_eq_true rfl, Nat.le_of_ble_eq_true rfl⟩
theorem r7_191 : zR d 7 Q 191 lv (.int z :: .int x :: .ref c :: st) h = zas c x z h (fun h' => zR d 7 Q 192 lv st h') := q_iast rfl
theorem r7_192 : zR d 7 Q 192 (o0 :: o1 :: o2 :: o3 :: o4 :: o5 :: some (.int x) :: l) st h = zR d 7 Q 195 (o0 :: o1 :: o2 :: o3 :: o4 :: o5 :: some (.int (x + 1)) :: l) st h := q_in rfl rfl
theorem r7_195 : zR d 7 Q 195 lv st h = zR d 7 Q 18 lv st h := q_in rfl rfl
theorem r7_198 : zR d 7 Q 198 (o0 :: o1 :: o2 :: o3 :: o4 :: some (.int x) :: l) st h = zR d 7 Q 200 (o0 :: o1 :: o2 :: o3 :: o4 :: some (.int x) :: l) (.int x :: st) h := q_in rfl rfl
theorem r7_200 : zR d 7 Q 200 lv st h = zR d 7 Q 201 lv (.int 1 :: st) h := q_in rfl rfl
theorem r7_201 : zR d 7 Q 201 lv (.int z :: .int x :: st) h = if x < z then zR d 7 Q 216 lv st h else zR d 7 Q 204 lv st h := q_if rfl rfl
theorem r7_204 : zR d 7 Q 204 (some (.ref c) :: l) st h = zR d 7 Q 205 (some (.ref c) :: l) (.ref c :: st) h := q_in rfl rfl
theorem r7_205 : zR d 7 Q 205 lv (.ref 1 :: st) h = zR d 7 Q 208 lv (.ref 6 :: st) h := (q_and rfl rfl).trans (zand_t rfl)
theorem r7_208 : zR d 7 Q 208 (o0 :: o1 :: o2 :: o3 :: o4 :: some (.int x) :: l) st h = zR d 7 Q 210 (o0 :: o1 :: o2 :: o3 :: o4 :: some (.int x) :: l) (.int x :: st) h := q_in rfl rfl
theorem r7_210 : zR d 7 Q 210 lv st h = zR d 7 Q 211 lv (.int 1 :: st) h := q_in rfl rfl
theorem r7_211 : zR d 7 Q 211 lv (.int z :: .int x :: st) h = zR d 7 Q 212 lv (.int (x - z) :: st) h := q_in rfl rfl
theorem r7_212 : zR d 7 Q 212 lv (.int x :: .ref c :: st) h = zal c x h (fun w => zR d 7 Q 213 lv (.int w :: st) h) := q_iald rfl
theorem r7_213 : zR d 7 Q 213 lv st h = zR d 7 Q 217 lv st h := q_in rfl rfl
theorem r7_216 : zR d 7 Q 216 lv st h = zR d 7 Q 217 lv (.int 0 :: st) h := q_in rfl rfl
theorem r7_217 : zR d 7 Q 217 lv [.int x] h = Q (some (.int x)) h := q_retz rfl rfl (Or.inl rfl)
theorem r8_0 : zR d 8 Q 0 (some (.int x) :: l) st h = zR d 8 Q 1 (some (.int x) :: l) (.int x :: st) h := q_in rfl rfl
theorem r8_1 : zR d 8 Q 1 lv (.int x :: st) h = if x = 38 then zR d 8 Q 98 lv st h else if x = 42 then zR d 8 Q 153 lv st h else if x = 43 then zR d 8 Q 145 lv st h else if x = 45 then zR d 8 Q 149 lv st h else if x = 47 then zR d 8 Q 157 lv st h else if x = 60 then zR d 8 Q 112 lv st h else if x = 61 then zR d 8 Q 123 lv st h else if x = 62 then zR d 8 Q 134 lv st h else if x = 124 then zR d 8 Q 84 lv st h else zR d 8 Q 169 lv st h := (q_in rfl rfl).trans (by simp only [zsw, zR_ite])
theorem r8_84 : zR d 8 Q 84 (o0 :: some (.int x) :: l) st h = zR d 8 Q 85 (o0 :: some (.int x) :: l) (.int x :: st) h := q_in rfl rfl
theorem r8_85 : zR d 8 Q 85 lv (.int x :: st) h = if x = 0 then zR d 8 Q 88 lv st h else zR d 8 Q 92 lv st h := q_if rfl rfl
theorem r8_88 : zR d 8 Q 88 (o0 :: o1 :: some (.int x) :: l) st h = zR d 8 Q 89 (o0 :: o1 :: some (.int x) :: l) (.int x :: st) h := q_in rfl rfl
theorem r8_89 : zR d 8 Q 89 lv (.int x :: st) h = if x = 0 then zR d 8 Q 96 lv st h else zR d 8 Q 92 lv st h := q_if rfl rfl
theorem r8_92 : zR d 8 Q 92 lv st h = zR d 8 Q 93 lv (.int 1 :: st) h := q_in rfl rfl
theorem r8_93 : zR d 8 Q 93 lv st h = zR d 8 Q 97 lv st h := q_in rfl rfl
theorem r8_96 : zR d 8 Q 96 lv st h = zR d 8 Q 97 lv (.int 0 :: st) h := q_in rfl rfl
theorem r8_97 : zR d 8 Q 97 lv [.int x] h = Q (some (.int x)) h := q_retz rfl rfl (Or.inl rfl)
theorem r8_98 : zR d 8 Q 98 (o0 :: some (.int x) :: l) st h = zR d 8 Q 99 (o0 :: some (.int x) :: l) (.int x :: st) h := q_in rfl rfl
theorem r8_99 : zR d 8 Q 99 lv (.int x :: st) h = if x = 0 then zR d 8 Q 110 lv st h else zR d 8 Q 102 lv st h := q_if rfl rfl
theorem r8_102 : zR d 8 Q 102 (o0 :: o1 :: some (.int x) :: l) st h = zR d 8 Q 103 (o0 :: o1 :: some (.int x) :: l) (.int x :: st) h := q_in rfl rfl
theorem r8_103 : zR d 8 Q 103 lv (.int x :: st) h = if x = 0 then zR d 8 Q 110 lv st h else zR d 8 Q 106 lv st h := q_if rfl rfl
theorem r8_106 : zR d 8 Q 106 lv st h = zR d 8 Q 107 lv (.int 1 :: st) h := q_in rfl rfl
theorem r8_107 : zR d 8 Q 107 lv st h = zR d 8 Q 111 lv st h := q_in rfl rfl
theorem r8_110 : zR d 8 Q 110 lv st h = zR d 8 Q 111 lv (.int 0 :: st) h := q_in rfl rfl
theorem r8_111 : zR d 8 Q 111 lv [.int x] h = Q (some (.int x)) h := q_retz rfl rfl (Or.inl rfl)
theorem r8_112 : zR d 8 Q 112 (o0 :: some (.int x) :: l) st h = zR d 8 Q 113 (o0 :: some (.int x) :: l) (.int x :: st) h := q_in rfl rfl
theorem r8_113 : zR d 8 Q 113 (o0 :: o1 :: some (.int x) :: l) st h = zR d 8 Q 114 (o0 :: o1 :: some (.int x) :: l) (.int x :: st) h := q_in rfl rfl
theorem r8_114 : zR d 8 Q 114 lv (.int z :: .int x :: st) h = if x < z then zR d 8 Q 117 lv st h else zR d 8 Q 121 lv st h := q_if rfl rfl
theorem r8_117 : zR d 8 Q 117 lv st h = zR d 8 Q 118 lv (.int 1 :: st) h := q_in rfl rfl
theorem r8_118 : zR d 8 Q 118 lv st h = zR d 8 Q 122 lv st h := q_in rfl rfl
theorem r8_121 : zR d 8 Q 121 lv st h = zR d 8 Q 122 lv (.int 0 :: st) h := q_in rfl rfl
theorem r8_122 : zR d 8 Q 122 lv [.int x] h = Q (some (.int x)) h := q_retz rfl rfl (Or.inl rfl)
theorem r8_123 : zR d 8 Q 123 (o0 :: some (.int x) :: l) st h = zR d 8 Q 124 (o0 :: some (.int x) :: l) (.int x :: st) h := q_in rfl rfl
theorem r8_124 : zR d 8 Q 124 (o0 :: o1 :: some (.int x) :: l) st h = zR d 8 Q 125 (o0 :: o1 :: some (.int x) :: l) (.int x :: st) h := q_in rfl rfl
theorem r8_125 : zR d 8 Q 125 lv (.int z :: .int x :: st) h = if x = z then zR d 8 Q 128 lv st h else zR d 8 Q 132 lv st h := q_if rfl rfl
theorem r8_128 : zR d 8 Q 128 lv st h = zR d 8 Q 129 lv (.int 1 :: st) h := q_in rfl rfl
theorem r8_129 : zR d 8 Q 129 lv st h = zR d 8 Q 133 lv st h := q_in rfl rfl
theorem r8_132 : zR d 8 Q 132 lv st h = zR d 8 Q 133 lv (.int 0 :: st) h := q_in rfl rfl
theorem r8_133 : zR d 8 Q 133 lv [.int x] h = Q (some (.int x)) h := q_retz rfl rfl (Or.inl rfl)
theorem r8_134 : zR d 8 Q 134 (o0 :: some (.int x) :: l) st h = zR d 8 Q 135 (o0 :: some (.int x) :: l) (.int x :: st) h := q_in rfl rfl
theorem r8_135 : zR d 8 Q 135 (o0 :: o1 :: some (.int x) :: l) st h = zR d 8 Q 136 (o0 :: o1 :: some (.int x) :: l) (.int x :: st) h := q_in rfl rfl
theorem r8_136 : zR d 8 Q 136 lv (.int z :: .int x :: st) h = if x ≤ z then zR d 8 Q 143 lv st h else zR d 8 Q 139 lv st h := q_if rfl rfl
theorem r8_139 : zR d 8 Q 139 lv st h = zR d 8 Q 140 lv (.int 1 :: st) h := q_in rfl rfl
theorem r8_140 : zR d 8 Q 140 lv st h = zR d 8 Q 144 lv st h := q_in rfl rfl
theorem r8_143 : zR d 8 Q 143 lv st h = zR d 8 Q 144 lv (.int 0 :: st) h := q_in rfl rfl
theorem r8_144 : zR d 8 Q 144 lv [.int x] h = Q (some (.int x)) h := q_retz rfl rfl (Or.inl rfl)
theorem r8_145 : zR d 8 Q 145 (o0 :: some (.int x) :: l) st h = zR d 8 Q 146 (o0 :: some (.int x) :: l) (.int x :: st) h := q_in rfl rfl
theorem r8_146 : zR d 8 Q 146 (o0 :: o1 :: some (.int x) :: l) st h = zR d 8 Q 147 (o0 :: o1 :: some (.int x) :: l) (.int x :: st) h := q_in rfl rfl
theorem r8_147 : zR d 8 Q 147 lv (.int z :: .int x :: st) h = zR d 8 Q 148 lv (.int (x + z) :: st) h := q_in rfl rfl
theorem r8_148 : zR d 8 Q 148 lv [.int x] h = Q (some (.int x)) h := q_retz rfl rfl (Or.inl rfl)
theorem r8_149 : zR d 8 Q 149 (o0 :: some (.int x) :: l) st h = zR d 8 Q 150 (o0 :: some (.int x) :: l) (.int x :: st) h := q_in rfl rfl
theorem r8_150 : zR d 8 Q 150 (o0 :: o1 :: some (.int x) :: l) st h = zR d 8 Q 151 (o0 :: o1 :: some (.int x) :: l) (.int x :: st) h := q_in rfl rfl
theorem r8_151 : zR d 8 Q 151 lv (.int z :: .int x :: st) h = zR d 8 Q 152 lv (.int (x - z) :: st) h := q_in rfl rfl
theorem r8_152 : zR d 8 Q 152 lv [.int x] h = Q (some (.int x)) h := q_retz rfl rfl (Or.inl rfl)
theorem r8_153 : zR d 8 Q 153 (o0 :: some (.int x) :: l) st h = zR d 8 Q 154 (o0 :: some (.int x) :: l) (.int x :: st) h := q_in rfl rfl
theorem r8_154 : zR d 8 Q 154 (o0 :: o1 :: some (.int x) :: l) st h = zR d 8 Q 155 (o0 :: o1 :: some (.int x) :: l) (.int x :: st) h := q_in rfl rfl
theorem r8_155 : zR d 8 Q 155 lv (.int z :: .int x :: st) h = zR d 8 Q 156 lv (.int (x * z) :: st) h := q_in rfl rfl
theorem r8_156 : zR d 8 Q 156 lv [.int x] h = Q (some (.int x)) h := q_retz rfl rfl (Or.inl rfl)
theorem r8_157 : zR d 8 Q 157 (o0 :: o1 :: some (.int x) :: l) st h = zR d 8 Q 158 (o0 :: o1 :: some (.int x) :: l) (.int x :: st) h := q_in rfl rfl
theorem r8_158 : zR d 8 Q 158 lv (.int x :: st) h = if x = 0 then zR d 8 Q 161 lv st h else zR d 8 Q 165 lv st h := q_if rfl rfl
theorem r8_161 : zR d 8 Q 161 lv st h = zR d 8 Q 162 lv (.int 0 :: st) h := q_in rfl rfl
theorem r8_162 : zR d 8 Q 162 lv st h = zR d 8 Q 168 lv st h := q_in rfl rfl
theorem r8_165 : zR d 8 Q 165 (o0 :: some (.int x) :: l) st h = zR d 8 Q 166 (o0 :: some (.int x) :: l) (.int x :: st) h := q_in rfl rfl
theorem r8_166 : zR d 8 Q 166 (o0 :: o1 :: some (.int x) :: l) st h = zR d 8 Q 167 (o0 :: o1 :: some (.int x) :: l) (.int x :: st) h := q_in rfl rfl
theorem r8_167 : zR d 8 Q 167 lv (.int z :: .int x :: st) h = (¬ z = 0 ∧ zR d 8 Q 168 lv (.int (x / z) :: st) h) := q_and rfl rfl
theorem r8_168 : zR d 8 Q 168 lv [.int x] h = Q (some (.int x)) h := q_retz rfl rfl (Or.inl rfl)
theorem r8_169 : zR d 8 Q 169 lv st h = zR d 8 Q 170 lv (.int 0 :: st) h := q_in rfl rfl
theorem r8_170 : zR d 8 Q 170 lv [.int x] h = Q (some (.int x)) h := q_retz rfl rfl (Or.inl rfl)
theorem r9_0 : zR d 9 Q 0 lv st h = zR d 9 Q 2 lv (.int 24 :: st) h := q_in rfl rfl
theorem r9_2 : zR d 9 Q 2 (o0 :: o1 :: o2 :: l) (.int x :: st) h = zR d 9 Q 3 (o0 :: o1 :: some (.int x) :: l) st h := q_in rfl rfl
theorem r9_3 : zR d 9 Q 3 (o0 :: o1 :: some (.int x) :: l) st h = zR d 9 Q 4 (o0 :: o1 :: some (.int x) :: l) (.int x :: st) h := q_in rfl rfl
theorem r9_4 : zR d 9 Q 4 lv (.int x :: st) h = if x < 0 then zR d 9 Q 48 lv st h else zR d 9 Q 7 lv st h := q_if rfl rfl
theorem r9_7 : zR d 9 Q 7 (some (.ref c) :: l) st h = zR d 9 Q 8 (some (.ref c) :: l) (.ref c :: st) h := q_in rfl rfl
theorem r9_8 : zR d 9 Q 8 lv (.ref 7 :: st) h = zR d 9 Q 11 lv (.int (h 7 1) :: st) h := (q_and rfl rfl).trans (zand_t rfl)
theorem r9_11 : zR d 9 Q 11 lv st h = zR d 9 Q 13 lv (.int 96 :: st) h := q_in rfl rfl
theorem r9_13 : zR d 9 Q 13 lv (.int z :: .int x :: st) h = if x < z then zR d 9 Q 16 lv st h else zR d 9 Q 42 lv st h := q_if rfl rfl
theorem r9_16 : zR d 9 Q 16 (some (.ref c) :: l) st h = zR d 9 Q 17 (some (.ref c) :: l) (.ref c :: st) h := q_in rfl rfl
theorem r9_17 : zR d 9 Q 17 lv (.ref 7 :: st) h = zR d 9 Q 20 lv (.ref 8 :: st) h := (q_and rfl rfl).trans (zand_t rfl)
theorem r9_20 : zR d 9 Q 20 (some (.ref c) :: l) st h = zR d 9 Q 21 (some (.ref c) :: l) (.ref c :: st) h := q_in rfl rfl
theorem r9_21 : zR d 9 Q 21 lv (.ref 7 :: st) h = zR d 9 Q 24 lv (.int (h 7 1) :: st) h := (q_and rfl rfl).trans (zand_t rfl)
theorem r9_24 : zR d 9 Q 24 (o0 :: some (.int x) :: l) st h = zR d 9 Q 25 (o0 :: some (.int x) :: l) (.int x :: st) h := q_in rfl rfl
theorem r9_25 : zR d 9 Q 25 (o0 :: o1 :: some (.int x) :: l) st h = zR d 9 Q 26 (o0 :: o1 :: some (.int x) :: l) (.int x :: st) h := q_in rfl rfl
theorem r9_26 : zR d 9 Q 26 lv (.int z :: .int x :: st) h = zR d 9 Q 27 lv (.int ((x.toUInt32 >>> (z.toUInt32 &&& Int32.toUInt32 31)).toInt32) :: st) h := q_in rfl rfl
theorem r9_27 : zR d 9 Q 27 lv st h = zR d 9 Q 30 lv (.int 255 :: st) h := q_in rfl rfl
theorem r9_30 : zR d 9 Q 30 lv (.int z :: .int x :: st) h = zR d 9 Q 31 lv (.int (x &&& z) :: st) h := q_in rfl rfl
theorem r9_31 : zR d 9 Q 31 lv (.int z :: .int x :: .ref c :: st) h = zas c x z h (fun h' => zR d 9 Q 32 lv st h') := q_iast rfl
theorem r9_32 : zR d 9 Q 32 (some (.ref c) :: l) st h = zR d 9 Q 33 (some (.ref c) :: l) (.ref c :: st) h := q_in rfl rfl
theorem r9_33 : zR d 9 Q 33 lv (.ref c :: st) h = zR d 9 Q 34 lv (.ref c :: .ref c :: st) h := q_in rfl rfl
theorem r9_34 : zR d 9 Q 34 lv (.ref 7 :: st) h = zR d 9 Q 37 lv (.int (h 7 1) :: st) h := (q_and rfl rfl).trans (zand_t rfl)
theorem r9_37 : zR d 9 Q 37 lv st h = zR d 9 Q 38 lv (.int 1 :: st) h := q_in rfl rfl
theorem r9_38 : zR d 9 Q 38 lv (.int z :: .int x :: st) h = zR d 9 Q 39 lv (.int (x + z) :: st) h := q_in rfl rfl
theorem r9_39 : zR d 9 Q 39 lv (.int x :: .ref 7 :: st) h = zR d 9 Q 42 lv st (zhr h 7 (upd (h 7) 1 x)) := (q_and rfl rfl).trans (zand_t ⟨rfl, Or.inl rfl⟩)
theorem r9_42 : zR d 9 Q 42 (o0 :: o1 :: some (.int x) :: l) st h = zR d 9 Q 45 (o0 :: o1 :: some (.int (x + (-8))) :: l) st h := q_in rfl rfl
theorem r9_45 : zR d 9 Q 45 lv st h = zR d 9 Q 3 lv st h := q_in rfl rfl
theorem r9_48 : zR d 9 Q 48 lv [] h = Q none h := q_ret rfl rfl
theorem r10_0 : zR d 10 Q 0 (some (.ref c) :: l) st h = zR d 10 Q 1 (some (.ref c) :: l) (.ref c :: st) h := q_in rfl rfl
theorem r10_1 : zR d 10 Q 1 lv st h = zR d 10 Q 2 lv (.int 0 :: st) h := q_in rfl rfl
theorem r10_2 : zR d 10 Q 2 lv (.int x :: .ref 7 :: st) h = zR d 10 Q 5 lv st (zhr h 7 (upd (h 7) 3 x)) := (q_and rfl rfl).trans (zand_t ⟨rfl, Or.inl rfl⟩)
theorem r10_5 : zR d 10 Q 5 (some (.ref c) :: l) st h = zR d 10 Q 6 (some (.ref c) :: l) (.ref c :: st) h := q_in rfl rfl
theorem r10_6 : zR d 10 Q 6 lv st h = zR d 10 Q 7 lv (.int (-1) :: st) h := q_in rfl rfl
theorem r10_7 : zR d 10 Q 7 lv (.int x :: .ref 7 :: st) h = zR d 10 Q 10 lv st (zhr h 7 (upd (h 7) 4 x)) := (q_and rfl rfl).trans (zand_t ⟨rfl, Or.inl rfl⟩)
theorem r10_10 : zR d 10 Q 10 (some (.ref c) :: l) st h = zR d 10 Q 11 (some (.ref c) :: l) (.ref c :: st) h := q_in rfl rfl
theorem r10_11 : zR d 10 Q 11 lv st h = zR d 10 Q 12 lv (.int (-1) :: st) h := q_in rfl rfl
theorem r10_12 : zR d 10 Q 12 lv (.int x :: .ref 7 :: st) h = zR d 10 Q 15 lv st (zhr h 7 (upd (h 7) 6 x)) := (q_and rfl rfl).trans (zand_t ⟨rfl, Or.inl rfl⟩)
theorem r10_15 : zR d 10 Q 15 (some (.ref c) :: l) st h = zR d 10 Q 16 (some (.ref c) :: l) (.ref c :: st) h := q_in rfl rfl
theorem r10_16 : zR d 10 Q 16 lv st h = zR d 10 Q 17 lv (.int 0 :: st) h := q_in rfl rfl
theorem r10_17 : zR d 10 Q 17 lv (.int x :: .ref 7 :: st) h = zR d 10 Q 20 lv st (zhr h 7 (upd (h 7) 9 x)) := (q_and rfl rfl).trans (zand_t ⟨rfl, Or.inl rfl⟩)
theorem r10_20 : zR d 10 Q 20 (some (.ref c) :: l) st h = zR d 10 Q 21 (some (.ref c) :: l) (.ref c :: st) h := q_in rfl rfl
theorem r10_21 : zR d 10 Q 21 lv st h = zR d 10 Q 22 lv (.int 0 :: st) h := q_in rfl rfl
theorem r10_22 : zR d 10 Q 22 lv (.int x :: .ref 7 :: st) h = zR d 10 Q 25 lv st (zhr h 7 (upd (h 7) 10 x)) := (q_and rfl rfl).trans (zand_t ⟨rfl, Or.inl rfl⟩)
theorem r10_25 : zR d 10 Q 25 (some (.ref c) :: l) st h = zR d 10 Q 26 (some (.ref c) :: l) (.ref c :: st) h := q_in rfl rfl
theorem r10_26 : zR d 10 Q 26 lv [.ref 7] h = zM d 11 [.ref 7] h (fun r h' => zR d 10 Q 29 lv (r.toList ++ []) h') := (q_clV rfl rfl (Nat.le_of_ble_eq_true rfl)).trans (zand_t ⟨rfl, Nat.le_of_ble_eq_true rfl⟩)
theorem r10_29 : zR d 10 Q 29 (some (.ref c) :: l) st h = zR d 10 Q 30 (some (.ref c) :: l) (.ref c :: st) h := q_in rfl rfl
theorem r10_30 : zR d 10 Q 30 lv [.ref 7] h = zM d 18 [.ref 7] h (fun r h' => zR d 10 Q 33 lv (r.toList ++ []) h') := (q_clV rfl rfl (Nat.le_of_ble_eq_true rfl)).trans (zand_t ⟨rfl, Nat.le_of_ble_eq_true rfl⟩)
theorem r10_33 : zR d 10 Q 33 (some (.ref c) :: l) st h = zR d 10 Q 34 (some (.ref c) :: l) (.ref c :: st) h := q_in rfl rfl
theorem r10_34 : zR d 10 Q 34 lv st h = zR d 10 Q 35 lv (.int 0 :: st) h := q_in rfl rfl
theorem r10_35 : zR d 10 Q 35 lv st h = zR d 10 Q 36 lv (.int 0 :: st) h := q_in rfl rfl
theorem r10_36 : zR d 10 Q 36 lv [.int x1, .int x0, .ref 7] h = zM d 20 [.ref 7, .int x0, .int x1] h (fun r h' => zR d 10 Q 39 lv (r.toList ++ []) h') := (q_clV rfl rfl (Nat.le_of_ble_eq_true rfl)).trans (zand_t ⟨rfl, Nat.le_of_ble_eq_true rfl⟩)
theorem r10_39 : zR d 10 Q 39 (some (.ref c) :: l) st h = zR d 10 Q 40 (some (.ref c) :: l) (.ref c :: st) h := q_in rfl rfl
theorem r10_40 : zR d 10 Q 40 lv (.ref 7 :: st) h = zR d 10 Q 43 lv (.int (h 7 4) :: st) h := (q_and rfl rfl).trans (zand_t rfl)
theorem r10_43 : zR d 10 Q 43 lv st h = zR d 10 Q 44 lv (.int (-1) :: st) h := q_in rfl rfl
theorem r10_44 : zR d 10 Q 44 lv (.int z :: .int x :: st) h = if x = z then zR d 10 Q 51 lv st h else zR d 10 Q 47 lv st h := q_if rfl rfl
theorem r10_47 : zR d 10 Q 47 (some (.ref c) :: l) st h = zR d 10 Q 48 (some (.ref c) :: l) (.ref c :: st) h := q_in rfl rfl
theorem r10_48 : zR d 10 Q 48 lv [.ref 7] h = zM d 15 [.ref 7] h (fun r h' => zR d 10 Q 51 lv (r.toList ++ []) h') := (q_clV rfl rfl (Nat.le_of_ble_eq_true rfl)).trans (zand_t ⟨rfl, Nat.le_of_ble_eq_true rfl⟩)
theorem r10_51 : zR d 10 Q 51 (some (.ref c) :: l) st h = zR d 10 Q 52 (some (.ref c) :: l) (.ref c :: st) h := q_in rfl rfl
theorem r10_52 : zR d 10 Q 52 lv (.ref 7 :: st) h = zR d 10 Q 55 lv (.int (h 7 6) :: st) h := (q_and rfl rfl).trans (zand_t rfl)
theorem r10_55 : zR d 10 Q 55 lv [.int x] h = Q (some (.int x)) h := q_retz rfl rfl (Or.inl rfl)
theorem r11_0 : zR d 11 Q 0 (some (.ref c) :: l) st h = zR d 11 Q 1 (some (.ref c) :: l) (.ref c :: st) h := q_in rfl rfl
theorem r11_1 : zR d 11 Q 1 lv [.ref 7] h = zM d 12 [.ref 7] h (fun r h' => zR d 11 Q 4 lv (r.toList ++ []) h') := (q_clV rfl rfl (Nat.le_of_ble_eq_true rfl)).trans (zand_t ⟨rfl, Nat.le_of_ble_eq_true rfl⟩)
theorem r11_4 : zR d 11 Q 4 (o0 :: o1 :: l) (.int x :: st) h = zR d 11 Q 5 (o0 :: some (.int x) :: l) st h := q_in rfl rfl
theorem r11_5 : zR d 11 Q 5 (some (.ref c) :: l) st h = zR d 11 Q 6 (some (.ref c) :: l) (.ref c :: st) h := q_in rfl rfl
theorem r11_6 : zR d 11 Q 6 lv (.ref 7 :: st) h = zR d 11 Q 9 lv (.int (h 7 3) :: st) h := (q_and rfl rfl).trans (zand_t rfl)
theorem r11_9 : zR d 11 Q 9 (o0 :: o1 :: o2 :: l) (.int x :: st) h = zR d 11 Q 10 (o0 :: o1 :: some (.int x) :: l) st h := q_in rfl rfl
theorem r11_10 : zR d 11 Q 10 (some (.ref c) :: l) st h = zR d 11 Q 11 (some (.ref c) :: l) (.ref c :: st) h := q_in rfl rfl
theorem r11_11 : zR d 11 Q 11 (some (.ref c) :: l) st h = zR d 11 Q 12 (some (.ref c) :: l) (.ref c :: st) h := q_in rfl rfl
theorem r11_12 : zR d 11 Q 12 lv (.ref 7 :: st) h = zR d 11 Q 15 lv (.int (h 7 3) :: st) h := (q_and rfl rfl).trans (zand_t rfl)
theorem r11_15 : zR d 11 Q 15 lv (.int x :: .ref 7 :: st) h = zR d 11 Q 18 lv st (zhr h 7 (upd (h 7) 2 x)) := (q_and rfl rfl).trans (zand_t ⟨rfl, Or.inl rfl⟩)
theorem r11_18 : zR d 11 Q 18 (some (.ref c) :: l) st h = zR d 11 Q 19 (some (.ref c) :: l) (.ref c :: st) h := q_in rfl rfl
theorem r11_19 : zR d 11 Q 19 lv (.ref 7 :: st) h = zR d 11 Q 22 lv (.int (h 7 2) :: st) h := (q_and rfl rfl).trans (zand_t rfl)
theorem r11_22 : zR d 11 Q 22 (some (.ref c) :: l) st h = zR d 11 Q 23 (some (.ref c) :: l) (.ref c :: st) h := q_in rfl rfl
theorem r11_23 : zR d 11 Q 23 lv (.ref 7 :: st) h = zR d 11 Q 26 lv (.int (h 7 1) :: st) h := (q_and rfl rfl).trans (zand_t rfl)
theorem r11_26 : zR d 11 Q 26 lv (.int z :: .int x :: st) h = if x < z then zR d 11 Q 29 lv st h else zR d 11 Q 55 lv st h := q_if rfl rfl
theorem r11_29 : zR d 11 Q 29 (some (.ref c) :: l) st h = zR d 11 Q 30 (some (.ref c) :: l) (.ref c :: st) h := q_in rfl rfl
theorem r11_30 : zR d 11 Q 30 (some (.ref c) :: l) st h = zR d 11 Q 31 (some (.ref c) :: l) (.ref c :: st) h := q_in rfl rfl
theorem r11_31 : zR d 11 Q 31 lv (.ref 7 :: st) h = zR d 11 Q 34 lv (.int (h 7 2) :: st) h := (q_and rfl rfl).trans (zand_t rfl)
theorem r11_34 : zR d 11 Q 34 lv [.int x0, .ref 7] h = zM d 13 [.ref 7, .int x0] h (fun r h' => zR d 11 Q 37 lv (r.toList ++ []) h') := (q_clV rfl rfl (Nat.le_of_ble_eq_true rfl)).trans (zand_t ⟨rfl, Nat.le_of_ble_eq_true rfl⟩)
theorem r11_37 : zR d 11 Q 37 lv st h = zR d 11 Q 39 lv (.int 32 :: st) h := q_in rfl rfl
theorem r11_39 : zR d 11 Q 39 lv (.int z :: .int x :: st) h = if x = z then zR d 11 Q 42 lv st h else zR d 11 Q 55 lv st h := q_if rfl rfl
theorem r11_42 : zR d 11 Q 42 (some (.ref c) :: l) st h = zR d 11 Q 43 (some (.ref c) :: l) (.ref c :: st) h := q_in rfl rfl
theorem r11_43 : zR d 11 Q 43 lv (.ref c :: st) h = zR d 11 Q 44 lv (.ref c :: .ref c :: st) h := q_in rfl rfl
theorem r11_44 : zR d 11 Q 44 lv (.ref 7 :: st) h = zR d 11 Q 47 lv (.int (h 7 2) :: st) h := (q_and rfl rfl).trans (zand_t rfl)
theorem r11_47 : zR d 11 Q 47 lv st h = zR d 11 Q 48 lv (.int 1 :: st) h := q_in rfl rfl
theorem r11_48 : zR d 11 Q 48 lv (.int z :: .int x :: st) h = zR d 11 Q 49 lv (.int (x + z) :: st) h := q_in rfl rfl
theorem r11_49 : zR d 11 Q 49 lv (.int x :: .ref 7 :: st) h = zR d 11 Q 52 lv st (zhr h 7 (upd (h 7) 2 x)) := (q_and rfl rfl).trans (zand_t ⟨rfl, Or.inl rfl⟩)
theorem r11_52 : zR d 11 Q 52 lv st h = zR d 11 Q 18 lv st h := q_in rfl rfl
theorem r11_55 : zR d 11 Q 55 (some (.ref c) :: l) st h = zR d 11 Q 56 (some (.ref c) :: l) (.ref c :: st) h := q_in rfl rfl
theorem r11_56 : zR d 11 Q 56 (some (.ref c) :: l) st h = zR d 11 Q 57 (some (.ref c) :: l) (.ref c :: st) h := q_in rfl rfl
theorem r11_57 : zR d 11 Q 57 (some (.ref c) :: l) st h = zR d 11 Q 58 (some (.ref c) :: l) (.ref c :: st) h := q_in rfl rfl
theorem r11_58 : zR d 11 Q 58 lv (.ref 7 :: st) h = zR d 11 Q 61 lv (.int (h 7 2) :: st) h := (q_and rfl rfl).trans (zand_t rfl)
theorem r11_61 : zR d 11 Q 61 lv [.int x0, .ref 7, .ref a0] h = zM d 14 [.ref 7, .int x0] h (fun r h' => zR d 11 Q 64 lv (r.toList ++ [.ref a0]) h') := (q_clV rfl rfl (Nat.le_of_ble_eq_true rfl)).trans (zand_t ⟨rfl, Nat.le_of_ble_eq_true rfl⟩)
theorem r11_64 : zR d 11 Q 64 lv (.int x :: .ref 7 :: st) h = zR d 11 Q 67 lv st (zhr h 7 (upd (h 7) 4 x)) := (q_and rfl rfl).trans (zand_t ⟨rfl, Or.inl rfl⟩)
theorem r11_67 : zR d 11 Q 67 (some (.ref c) :: l) st h = zR d 11 Q 68 (some (.ref c) :: l) (.ref c :: st) h := q_in rfl rfl
theorem r11_68 : zR d 11 Q 68 (some (.ref c) :: l) st h = zR d 11 Q 69 (some (.ref c) :: l) (.ref c :: st) h := q_in rfl rfl
theorem r11_69 : zR d 11 Q 69 lv (.ref 7 :: st) h = zR d 11 Q 72 lv (.int (h 7 2) :: st) h := (q_and rfl rfl).trans (zand_t rfl)
theorem r11_72 : zR d 11 Q 72 lv st h = zR d 11 Q 73 lv (.int 1 :: st) h := q_in rfl rfl
theorem r11_73 : zR d 11 Q 73 lv (.int z :: .int x :: st) h = zR d 11 Q 74 lv (.int (x + z) :: st) h := q_in rfl rfl
theorem r11_74 : zR d 11 Q 74 (some (.ref c) :: l) st h = zR d 11 Q 75 (some (.ref c) :: l) (.ref c :: st) h := q_in rfl rfl
theorem r11_75 : zR d 11 Q 75 lv (.ref 7 :: st) h = zR d 11 Q 78 lv (.int (h 7 1) :: st) h := (q_and rfl rfl).trans (zand_t rfl)
theorem r11_78 : zR d 11 Q 78 lv [.int x1, .int x0, .ref a0] h = zM d 1001 [.int x0, .int x1] h (fun r h' => zR d 11 Q 81 lv (r.toList ++ [.ref a0]) h') := q_clS rfl rfl ⟨Nat.le_of_ble_eq_true rfl, Nat.le_of_ble_eq_true rfl⟩
theorem r11_81 : zR d 11 Q 81 lv (.int x :: .ref 7 :: st) h = zR d 11 Q 84 lv st (zhr h 7 (upd (h 7) 3 x)) := (q_and rfl rfl).trans (zand_t ⟨rfl, Or.inl rfl⟩)
theorem r11_84 : zR d 11 Q 84 (some (.ref c) :: l) st h = zR d 11 Q 85 (some (.ref c) :: l) (.ref c :: st) h := q_in rfl rfl
theorem r11_85 : zR d 11 Q 85 lv [.ref 7] h = zM d 12 [.ref 7] h (fun r h' => zR d 11 Q 88 lv (r.toList ++ []) h') := (q_clV rfl rfl (Nat.le_of_ble_eq_true rfl)).trans (zand_t ⟨rfl, Nat.le_of_ble_eq_true rfl⟩)
theorem r11_88 : zR d 11 Q 88 lv (.int x :: st) h = if x = 0 then zR d 11 Q 130 lv st h else zR d 11 Q 91 lv st h := q_if rfl rfl
theorem r11_91 : zR d 11 Q 91 (some (.ref c) :: l) st h = zR d 11 Q 92 (some (.ref c) :: l) (.ref c :: st) h := q_in rfl rfl
theorem r11_92 : zR d 11 Q 92 lv (.ref 7 :: st) h = zR d 11 Q 95 lv (.int (h 7 3) :: st) h := (q_and rfl rfl).trans (zand_t rfl)
theorem r11_95 : zR d 11 Q 95 (some (.ref c) :: l) st h = zR d 11 Q 96 (some (.ref c) :: l) (.ref c :: st) h := q_in rfl rfl
theorem r11_96 : zR d 11 Q 96 lv (.ref 7 :: st) h = zR d 11 Q 99 lv (.int (h 7 1) :: st) h := (q_and rfl rfl).trans (zand_t rfl)
theorem r11_99 : zR d 11 Q 99 lv (.int z :: .int x :: st) h = if x < z then zR d 11 Q 102 lv st h else zR d 11 Q 130 lv st h := q_if rfl rfl
theorem r11_102 : zR d 11 Q 102 (some (.ref c) :: l) st h = zR d 11 Q 103 (some (.ref c) :: l) (.ref c :: st) h := q_in rfl rfl
theorem r11_103 : zR d 11 Q 103 (some (.ref c) :: l) st h = zR d 11 Q 104 (some (.ref c) :: l) (.ref c :: st) h := q_in rfl rfl
theorem r11_104 : zR d 11 Q 104 lv (.ref 7 :: st) h = zR d 11 Q 107 lv (.int (h 7 3) :: st) h := (q_and rfl rfl).trans (zand_t rfl)
theorem r11_107 : zR d 11 Q 107 lv [.int x0, .ref 7] h = zM d 14 [.ref 7, .int x0] h (fun r h' => zR d 11 Q 110 lv (r.toList ++ []) h') := (q_clV rfl rfl (Nat.le_of_ble_eq_true rfl)).trans (zand_t ⟨rfl, Nat.le_of_ble_eq_true rfl⟩)
theorem r11_110 : zR d 11 Q 110 (some (.ref c) :: l) st h = zR d 11 Q 111 (some (.ref c) :: l) (.ref c :: st) h := q_in rfl rfl
theorem r11_111 : zR d 11 Q 111 lv (.ref 7 :: st) h = zR d 11 Q 114 lv (.int (h 7 4) :: st) h := (q_and rfl rfl).trans (zand_t rfl)
theorem r11_114 : zR d 11 Q 114 lv (.int z :: .int x :: st) h = if x = z then zR d 11 Q 117 lv st h else zR d 11 Q 130 lv st h := q_if rfl rfl
theorem r11_117 : zR d 11 Q 117 (some (.ref c) :: l) st h = zR d 11 Q 118 (some (.ref c) :: l) (.ref c :: st) h := q_in rfl rfl
theorem r11_118 : zR d 11 Q 118 lv (.ref c :: st) h = zR d 11 Q 119 lv (.ref c :: .ref c :: st) h := q_in rfl rfl
theorem r11_119 : zR d 11 Q 119 lv (.ref 7 :: st) h = zR d 11 Q 122 lv (.int (h 7 3) :: st) h := (q_and rfl rfl).trans (zand_t rfl)
theorem r11_122 : zR d 11 Q 122 lv st h = zR d 11 Q 123 lv (.int 1 :: st) h := q_in rfl rfl
theorem r11_123 : zR d 11 Q 123 lv (.int z :: .int x :: st) h = zR d 11 Q 124 lv (.int (x + z) :: st) h := q_in rfl rfl
theorem r11_124 : zR d 11 Q 124 lv (.int x :: .ref 7 :: st) h = zR d 11 Q 127 lv st (zhr h 7 (upd (h 7) 3 x)) := (q_and rfl rfl).trans (zand_t ⟨rfl, Or.inl rfl⟩)
theorem r11_127 : zR d 11 Q 127 lv st h = zR d 11 Q 84 lv st h := q_in rfl rfl
theorem r11_130 : zR d 11 Q 130 (some (.ref c) :: l) st h = zR d 11 Q 131 (some (.ref c) :: l) (.ref c :: st) h := q_in rfl rfl
theorem r11_131 : zR d 11 Q 131 (o0 :: some (.int x) :: l) st h = zR d 11 Q 132 (o0 :: some (.int x) :: l) (.int x :: st) h := q_in rfl rfl
theorem r11_132 : zR d 11 Q 132 lv (.int x :: st) h = if x = 0 then zR d 11 Q 154 lv st h else zR d 11 Q 135 lv st h := q_if rfl rfl
theorem r11_135 : zR d 11 Q 135 (some (.ref c) :: l) st h = zR d 11 Q 136 (some (.ref c) :: l) (.ref c :: st) h := q_in rfl rfl
theorem r11_136 : zR d 11 Q 136 lv [.ref 7, .ref a0] h = zM d 12 [.ref 7] h (fun r h' => zR d 11 Q 139 lv (r.toList ++ [.ref a0]) h') := (q_clV rfl rfl (Nat.le_of_ble_eq_true rfl)).trans (zand_t ⟨rfl, Nat.le_of_ble_eq_true rfl⟩)
theorem r11_139 : zR d 11 Q 139 lv (.int x :: st) h = if x = 0 then zR d 11 Q 154 lv st h else zR d 11 Q 142 lv st h := q_if rfl rfl
theorem r11_142 : zR d 11 Q 142 (some (.ref c) :: l) st h = zR d 11 Q 143 (some (.ref c) :: l) (.ref c :: st) h := q_in rfl rfl
theorem r11_143 : zR d 11 Q 143 lv (.ref 7 :: st) h = zR d 11 Q 146 lv (.int (h 7 2) :: st) h := (q_and rfl rfl).trans (zand_t rfl)
theorem r11_146 : zR d 11 Q 146 (o0 :: o1 :: some (.int x) :: l) st h = zR d 11 Q 147 (o0 :: o1 :: some (.int x) :: l) (.int x :: st) h := q_in rfl rfl
theorem r11_147 : zR d 11 Q 147 lv (.int z :: .int x :: st) h = if x = z then zR d 11 Q 150 lv st h else zR d 11 Q 154 lv st h := q_if rfl rfl
theorem r11_150 : zR d 11 Q 150 lv st h = zR d 11 Q 151 lv (.int 1 :: st) h := q_in rfl rfl
theorem r11_151 : zR d 11 Q 151 lv st h = zR d 11 Q 155 lv st h := q_in rfl rfl
theorem r11_154 : zR d 11 Q 154 lv st h = zR d 11 Q 155 lv (.int 0 :: st) h := q_in rfl rfl
theorem r11_155 : zR d 11 Q 155 lv (.int x :: .ref 7 :: st) h = ((x = 0 ∨ x = 1) ∧ zR d 11 Q 158 lv st (zhr h 7 (upd (h 7) 5 x))) := (q_and rfl rfl).trans zand_b
theorem r11_158 : zR d 11 Q 158 lv [] h = Q none h := q_ret rfl rfl
theorem r12_0 : zR d 12 Q 0 (some (.ref c) :: l) st h = zR d 12 Q 1 (some (.ref c) :: l) (.ref c :: st) h := q_in rfl rfl
theorem r12_1 : zR d 12 Q 1 lv (.ref 7 :: st) h = zR d 12 Q 4 lv (.int (h 7 4) :: st) h := (q_and rfl rfl).trans (zand_t rfl)
theorem r12_4 : zR d 12 Q 4 lv st h = zR d 12 Q 6 lv (.int (-2) :: st) h := q_in rfl rfl
theorem r12_6 : zR d 12 Q 6 lv (.int z :: .int x :: st) h = if x = z then zR d 12 Q 18 lv st h else zR d 12 Q 9 lv st h := q_if rfl rfl
theorem r12_9 : zR d 12 Q 9 (some (.ref c) :: l) st h = zR d 12 Q 10 (some (.ref c) :: l) (.ref c :: st) h := q_in rfl rfl
theorem r12_10 : zR d 12 Q 10 lv (.ref 7 :: st) h = zR d 12 Q 13 lv (.int (h 7 4) :: st) h := (q_and rfl rfl).trans (zand_t rfl)
theorem r12_13 : zR d 12 Q 13 lv st h = zR d 12 Q 15 lv (.int (-3) :: st) h := q_in rfl rfl
theorem r12_15 : zR d 12 Q 15 lv (.int z :: .int x :: st) h = if x = z then zR d 12 Q 18 lv st h else zR d 12 Q 22 lv st h := q_if rfl rfl
theorem r12_18 : zR d 12 Q 18 lv st h = zR d 12 Q 19 lv (.int 1 :: st) h := q_in rfl rfl
theorem r12_19 : zR d 12 Q 19 lv st h = zR d 12 Q 23 lv st h := q_in rfl rfl
theorem r12_22 : zR d 12 Q 22 lv st h = zR d 12 Q 23 lv (.int 0 :: st) h := q_in rfl rfl
theorem r12_23f : zR d 12 Q 23 lv [.int 0] h = Q (some (.int 0)) h := q_retz rfl rfl (Or.inr (Or.inl rfl))
theorem r12_23t : zR d 12 Q 23 lv [.int 1] h = Q (some (.int 1)) h := q_retz rfl rfl (Or.inr (Or.inr rfl))
theorem r13_0 : zR d 13 Q 0 (o0 :: some (.int x) :: l) st h = zR d 13 Q 1 (o0 :: some (.int x) :: l) (.int x :: st) h := q_in rfl rfl
theorem r13_1 : zR d 13 Q 1 lv (.int x :: st) h = if x < 0 then zR d 13 Q 27 lv st h else zR d 13 Q 4 lv st h := q_if rfl rfl
theorem r13_4 : zR d 13 Q 4 (o0 :: some (.int x) :: l) st h = zR d 13 Q 5 (o0 :: some (.int x) :: l) (.int x :: st) h := q_in rfl rfl
theorem r13_5 : zR d 13 Q 5 (some (.ref c) :: l) st h = zR d 13 Q 6 (some (.ref c) :: l) (.ref c :: st) h := q_in rfl rfl
theorem r13_6 : zR d 13 Q 6 lv (.ref 7 :: st) h = zR d 13 Q 9 lv (.int (h 7 1) :: st) h := (q_and rfl rfl).trans (zand_t rfl)
theorem r13_9 : zR d 13 Q 9 lv (.int z :: .int x :: st) h = if x < z then zR d 13 Q 12 lv st h else zR d 13 Q 27 lv st h := q_if rfl rfl
theorem r13_12 : zR d 13 Q 12 (o0 :: some (.int x) :: l) st h = zR d 13 Q 13 (o0 :: some (.int x) :: l) (.int x :: st) h := q_in rfl rfl
theorem r13_13 : zR d 13 Q 13 lv st h = zR d 13 Q 15 lv (.int 96 :: st) h := q_in rfl rfl
theorem r13_15 : zR d 13 Q 15 lv (.int z :: .int x :: st) h = if x < z then zR d 13 Q 18 lv st h else zR d 13 Q 27 lv st h := q_if rfl rfl
theorem r13_18 : zR d 13 Q 18 (some (.ref c) :: l) st h = zR d 13 Q 19 (some (.ref c) :: l) (.ref c :: st) h := q_in rfl rfl
theorem r13_19 : zR d 13 Q 19 lv (.ref 7 :: st) h = zR d 13 Q 22 lv (.ref 8 :: st) h := (q_and rfl rfl).trans (zand_t rfl)
theorem r13_22 : zR d 13 Q 22 (o0 :: some (.int x) :: l) st h = zR d 13 Q 23 (o0 :: some (.int x) :: l) (.int x :: st) h := q_in rfl rfl
theorem r13_23 : zR d 13 Q 23 lv (.int x :: .ref c :: st) h = zal c x h (fun w => zR d 13 Q 24 lv (.int w :: st) h) := q_iald rfl
theorem r13_24 : zR d 13 Q 24 lv st h = zR d 13 Q 28 lv st h := q_in rfl rfl
theorem r13_27 : zR d 13 Q 27 lv st h = zR d 13 Q 28 lv (.int (-1) :: st) h := q_in rfl rfl
theorem r13_28 : zR d 13 Q 28 lv [.int x] h = Q (some (.int x)) h := q_retz rfl rfl (Or.inl rfl)
theorem r14_0 : zR d 14 Q 0 (some (.ref c) :: l) st h = zR d 14 Q 1 (some (.ref c) :: l) (.ref c :: st) h := q_in rfl rfl
theorem r14_1 : zR d 14 Q 1 (o0 :: some (.int x) :: l) st h = zR d 14 Q 2 (o0 :: some (.int x) :: l) (.int x :: st) h := q_in rfl rfl
theorem r14_2 : zR d 14 Q 2 lv [.int x0, .ref 7] h = zM d 13 [.ref 7, .int x0] h (fun r h' => zR d 14 Q 5 lv (r.toList ++ []) h') := (q_clV rfl rfl (Nat.le_of_ble_eq_true rfl)).trans (zand_t ⟨rfl, Nat.le_of_ble_eq_true rfl⟩)
theorem r14_5 : zR d 14 Q 5 (o0 :: o1 :: o2 :: l) (.int x :: st) h = zR d 14 Q 6 (o0 :: o1 :: some (.int x) :: l) st h := q_in rfl rfl
theorem r14_6 : zR d 14 Q 6 (o0 :: o1 :: some (.int x) :: l) st h = zR d 14 Q 7 (o0 :: o1 :: some (.int x) :: l) (.int x :: st) h := q_in rfl rfl
theorem r14_7 : zR d 14 Q 7 lv st h = zR d 14 Q 9 lv (.int 97 :: st) h := q_in rfl rfl
theorem r14_9 : zR d 14 Q 9 lv st h = zR d 14 Q 11 lv (.int 122 :: st) h := q_in rfl rfl
theorem r14_11 : zR d 14 Q 11 lv [.int x2, .int x1, .int x0] h = zM d 103 [.int x0, .int x1, .int x2] h (fun r h' => zR d 14 Q 14 lv (r.toList ++ []) h') := q_clS rfl rfl ⟨Nat.le_of_ble_eq_true rfl, Nat.le_of_ble_eq_true rfl⟩
theorem r14_14 : zR d 14 Q 14 lv (.int x :: st) h = if x = 0 then zR d 14 Q 20 lv st h else zR d 14 Q 17 lv st h := q_if rfl rfl
theorem r14_17 : zR d 14 Q 17 lv st h = zR d 14 Q 19 lv (.int (-2) :: st) h := q_in rfl rfl
theorem r14_19 : zR d 14 Q 19 lv [.int x] h = Q (some (.int x)) h := q_retz rfl rfl (Or.inl rfl)
theorem r14_20 : zR d 14 Q 20 (o0 :: o1 :: some (.int x) :: l) st h = zR d 14 Q 21 (o0 :: o1 :: some (.int x) :: l) (.int x :: st) h := q_in rfl rfl
theorem r14_21 : zR d 14 Q 21 lv st h = zR d 14 Q 23 lv (.int 48 :: st) h := q_in rfl rfl
theorem r14_23 : zR d 14 Q 23 lv st h = zR d 14 Q 25 lv (.int 57 :: st) h := q_in rfl rfl
theorem r14_25 : zR d 14 Q 25 lv [.int x2, .int x1, .int x0] h = zM d 103 [.int x0, .int x1, .int x2] h (fun r h' => zR d 14 Q 28 lv (r.toList ++ []) h') := q_clS rfl rfl ⟨Nat.le_of_ble_eq_true rfl, Nat.le_of_ble_eq_true rfl⟩
theorem r14_28 : zR d 14 Q 28 lv (.int x :: st) h = if x = 0 then zR d 14 Q 36 lv st h else zR d 14 Q 31 lv st h := q_if rfl rfl
theorem r14_31 : zR d 14 Q 31 lv st h = zR d 14 Q 33 lv (.int (-3) :: st) h := q_in rfl rfl
theorem r14_33 : zR d 14 Q 33 lv st h = zR d 14 Q 37 lv st h := q_in rfl rfl
theorem r14_36 : zR d 14 Q 36 (o0 :: o1 :: some (.int x) :: l) st h = zR d 14 Q 37 (o0 :: o1 :: some (.int x) :: l) (.int x :: st) h := q_in rfl rfl
theorem r14_37 : zR d 14 Q 37 lv [.int x] h = Q (some (.int x)) h := q_retz rfl rfl (Or.inl rfl)
theorem r15_0 : zR d 15 Q 0 (some (.ref c) :: l) st h = zR d 15 Q 1 (some (.ref c) :: l) (.ref c :: st) h := q_in rfl rfl
theorem r15_1 : zR d 15 Q 1 lv (.ref 7 :: st) h = zR d 15 Q 4 lv (.int (h 7 6) :: st) h := (q_and rfl rfl).trans (zand_t rfl)
theorem r15_4 : zR d 15 Q 4 lv st h = zR d 15 Q 5 lv (.int (-1) :: st) h := q_in rfl rfl
theorem r15_5 : zR d 15 Q 5 lv (.int z :: .int x :: st) h = if x = z then zR d 15 Q 8 lv st h else zR d 15 Q 16 lv st h := q_if rfl rfl
theorem r15_8 : zR d 15 Q 8 (some (.ref c) :: l) st h = zR d 15 Q 9 (some (.ref c) :: l) (.ref c :: st) h := q_in rfl rfl
theorem r15_9 : zR d 15 Q 9 (some (.ref c) :: l) st h = zR d 15 Q 10 (some (.ref c) :: l) (.ref c :: st) h := q_in rfl rfl
theorem r15_10 : zR d 15 Q 10 lv (.ref 7 :: st) h = zR d 15 Q 13 lv (.int (h 7 2) :: st) h := (q_and rfl rfl).trans (zand_t rfl)
theorem r15_13 : zR d 15 Q 13 lv (.int x :: .ref 7 :: st) h = zR d 15 Q 16 lv st (zhr h 7 (upd (h 7) 6 x)) := (q_and rfl rfl).trans (zand_t ⟨rfl, Or.inl rfl⟩)
theorem r15_16 : zR d 15 Q 16 lv [] h = Q none h := q_ret rfl rfl
theorem r16_0 : zR d 16 Q 0 (some (.ref c) :: l) st h = zR d 16 Q 1 (some (.ref c) :: l) (.ref c :: st) h := q_in rfl rfl
theorem r16_1 : zR d 16 Q 1 lv (.ref 7 :: st) h = zR d 16 Q 4 lv (.int (h 7 6) :: st) h := (q_and rfl rfl).trans (zand_t rfl)
theorem r16_4 : zR d 16 Q 4 lv st h = zR d 16 Q 5 lv (.int (-1) :: st) h := q_in rfl rfl
theorem r16_5 : zR d 16 Q 5 lv (.int z :: .int x :: st) h = if x = z then zR d 16 Q 8 lv st h else zR d 16 Q 20 lv st h := q_if rfl rfl
theorem r16_8 : zR d 16 Q 8 (some (.ref c) :: l) st h = zR d 16 Q 9 (some (.ref c) :: l) (.ref c :: st) h := q_in rfl rfl
theorem r16_9 : zR d 16 Q 9 lv (.ref 7 :: st) h = zR d 16 Q 12 lv (.int (h 7 4) :: st) h := (q_and rfl rfl).trans (zand_t rfl)
theorem r16_12 : zR d 16 Q 12 (o0 :: some (.int x) :: l) st h = zR d 16 Q 13 (o0 :: some (.int x) :: l) (.int x :: st) h := q_in rfl rfl
theorem r16_13 : zR d 16 Q 13 lv (.int z :: .int x :: st) h = if x = z then zR d 16 Q 16 lv st h else zR d 16 Q 20 lv st h := q_if rfl rfl
theorem r16_16 : zR d 16 Q 16 lv st h = zR d 16 Q 17 lv (.int 1 :: st) h := q_in rfl rfl
theorem r16_17 : zR d 16 Q 17 lv st h = zR d 16 Q 21 lv st h := q_in rfl rfl
theorem r16_20 : zR d 16 Q 20 lv st h = zR d 16 Q 21 lv (.int 0 :: st) h := q_in rfl rfl
theorem r16_21f : zR d 16 Q 21 lv [.int 0] h = Q (some (.int 0)) h := q_retz rfl rfl (Or.inr (Or.inl rfl))
theorem r16_21t : zR d 16 Q 21 lv [.int 1] h = Q (some (.int 1)) h := q_retz rfl rfl (Or.inr (Or.inr rfl))
theorem r17_0 : zR d 17 Q 0 (some (.ref c) :: l) st h = zR d 17 Q 1 (some (.ref c) :: l) (.ref c :: st) h := q_in rfl rfl
theorem r17_1 : zR d 17 Q 1 lv (.ref 7 :: st) h = zR d 17 Q 4 lv (.int (h 7 9) :: st) h := (q_and rfl rfl).trans (zand_t rfl)
theorem r17_4 : zR d 17 Q 4 lv st h = zR d 17 Q 6 lv (.int 96 :: st) h := q_in rfl rfl
theorem r17_6 : zR d 17 Q 6 lv (.int z :: .int x :: st) h = if x < z then zR d 17 Q 9 lv st h else zR d 17 Q 29 lv st h := q_if rfl rfl
theorem r17_9 : zR d 17 Q 9 (some (.ref c) :: l) st h = zR d 17 Q 10 (some (.ref c) :: l) (.ref c :: st) h := q_in rfl rfl
theorem r17_10 : zR d 17 Q 10 lv (.ref 7 :: st) h = zR d 17 Q 13 lv (.ref 9 :: st) h := (q_and rfl rfl).trans (zand_t rfl)
theorem r17_13 : zR d 17 Q 13 (some (.ref c) :: l) st h = zR d 17 Q 14 (some (.ref c) :: l) (.ref c :: st) h := q_in rfl rfl
theorem r17_14 : zR d 17 Q 14 lv (.ref 7 :: st) h = zR d 17 Q 17 lv (.int (h 7 9) :: st) h := (q_and rfl rfl).trans (zand_t rfl)
theorem r17_17 : zR d 17 Q 17 (o0 :: some (.int x) :: l) st h = zR d 17 Q 18 (o0 :: some (.int x) :: l) (.int x :: st) h := q_in rfl rfl
theorem r17_18 : zR d 17 Q 18 lv (.int z :: .int x :: .ref c :: st) h = zas c x z h (fun h' => zR d 17 Q 19 lv st h') := q_iast rfl
theorem r17_19 : zR d 17 Q 19 (some (.ref c) :: l) st h = zR d 17 Q 20 (some (.ref c) :: l) (.ref c :: st) h := q_in rfl rfl
theorem r17_20 : zR d 17 Q 20 lv (.ref c :: st) h = zR d 17 Q 21 lv (.ref c :: .ref c :: st) h := q_in rfl rfl
theorem r17_21 : zR d 17 Q 21 lv (.ref 7 :: st) h = zR d 17 Q 24 lv (.int (h 7 9) :: st) h := (q_and rfl rfl).trans (zand_t rfl)
theorem r17_24 : zR d 17 Q 24 lv st h = zR d 17 Q 25 lv (.int 1 :: st) h := q_in rfl rfl
theorem r17_25 : zR d 17 Q 25 lv (.int z :: .int x :: st) h = zR d 17 Q 26 lv (.int (x + z) :: st) h := q_in rfl rfl
theorem r17_26 : zR d 17 Q 26 lv (.int x :: .ref 7 :: st) h = zR d 17 Q 29 lv st (zhr h 7 (upd (h 7) 9 x)) := (q_and rfl rfl).trans (zand_t ⟨rfl, Or.inl rfl⟩)
theorem r17_29 : zR d 17 Q 29 lv [] h = Q none h := q_ret rfl rfl
theorem r18_0 : zR d 18 Q 0 (some (.ref c) :: l) st h = zR d 18 Q 1 (some (.ref c) :: l) (.ref c :: st) h := q_in rfl rfl
theorem r18_1 : zR d 18 Q 1 lv st h = zR d 18 Q 3 lv (.ref 86 :: st) h := q_in rfl rfl
theorem r18_3 : zR d 18 Q 3 lv [.ref c0, .ref 7] h = zM d 19 [.ref 7, .ref c0] h (fun r h' => zR d 18 Q 6 lv (r.toList ++ []) h') := (q_clV rfl rfl (Nat.le_of_ble_eq_true rfl)).trans (zand_t ⟨rfl, Nat.le_of_ble_eq_true rfl⟩)
theorem r18_6 : zR d 18 Q 6 lv (.int x :: st) h = if x = 0 then zR d 18 Q 17 lv st h else zR d 18 Q 9 lv st h := q_if rfl rfl
theorem r18_9 : zR d 18 Q 9 (some (.ref c) :: l) st h = zR d 18 Q 10 (some (.ref c) :: l) (.ref c :: st) h := q_in rfl rfl
theorem r18_10 : zR d 18 Q 10 lv st h = zR d 18 Q 11 lv (.int 0 :: st) h := q_in rfl rfl
theorem r18_11 : zR d 18 Q 11 lv (.int x :: .ref 7 :: st) h = zR d 18 Q 14 lv st (zhr h 7 (upd (h 7) 7 x)) := (q_and rfl rfl).trans (zand_t ⟨rfl, Or.inl rfl⟩)
theorem r18_14 : zR d 18 Q 14 lv st h = zR d 18 Q 56 lv st h := q_in rfl rfl
theorem r18_17 : zR d 18 Q 17 (some (.ref c) :: l) st h = zR d 18 Q 18 (some (.ref c) :: l) (.ref c :: st) h := q_in rfl rfl
theorem r18_18 : zR d 18 Q 18 lv st h = zR d 18 Q 20 lv (.ref 87 :: st) h := q_in rfl rfl
theorem r18_20 : zR d 18 Q 20 lv [.ref c0, .ref 7] h = zM d 19 [.ref 7, .ref c0] h (fun r h' => zR d 18 Q 23 lv (r.toList ++ []) h') := (q_clV rfl rfl (Nat.le_of_ble_eq_true rfl)).trans (zand_t ⟨rfl, Nat.le_of_ble_eq_true rfl⟩)
theorem r18_23 : zR d 18 Q 23 lv (.int x :: st) h = if x = 0 then zR d 18 Q 34 lv st h else zR d 18 Q 26 lv st h := q_if rfl rfl
theorem r18_26 : zR d 18 Q 26 (some (.ref c) :: l) st h = zR d 18 Q 27 (some (.ref c) :: l) (.ref c :: st) h := q_in rfl rfl
theorem r18_27 : zR d 18 Q 27 lv st h = zR d 18 Q 28 lv (.int 1 :: st) h := q_in rfl rfl
theorem r18_28 : zR d 18 Q 28 lv (.int x :: .ref 7 :: st) h = zR d 18 Q 31 lv st (zhr h 7 (upd (h 7) 7 x)) := (q_and rfl rfl).trans (zand_t ⟨rfl, Or.inl rfl⟩)
theorem r18_31 : zR d 18 Q 31 lv st h = zR d 18 Q 56 lv st h := q_in rfl rfl
theorem r18_34 : zR d 18 Q 34 (some (.ref c) :: l) st h = zR d 18 Q 35 (some (.ref c) :: l) (.ref c :: st) h := q_in rfl rfl
theorem r18_35 : zR d 18 Q 35 lv st h = zR d 18 Q 37 lv (.ref 88 :: st) h := q_in rfl rfl
theorem r18_37 : zR d 18 Q 37 lv [.ref c0, .ref 7] h = zM d 19 [.ref 7, .ref c0] h (fun r h' => zR d 18 Q 40 lv (r.toList ++ []) h') := (q_clV rfl rfl (Nat.le_of_ble_eq_true rfl)).trans (zand_t ⟨rfl, Nat.le_of_ble_eq_true rfl⟩)
theorem r18_40 : zR d 18 Q 40 lv (.int x :: st) h = if x = 0 then zR d 18 Q 51 lv st h else zR d 18 Q 43 lv st h := q_if rfl rfl
theorem r18_43 : zR d 18 Q 43 (some (.ref c) :: l) st h = zR d 18 Q 44 (some (.ref c) :: l) (.ref c :: st) h := q_in rfl rfl
theorem r18_44 : zR d 18 Q 44 lv st h = zR d 18 Q 45 lv (.int 2 :: st) h := q_in rfl rfl
theorem r18_45 : zR d 18 Q 45 lv (.int x :: .ref 7 :: st) h = zR d 18 Q 48 lv st (zhr h 7 (upd (h 7) 7 x)) := (q_and rfl rfl).trans (zand_t ⟨rfl, Or.inl rfl⟩)
theorem r18_48 : zR d 18 Q 48 lv st h = zR d 18 Q 56 lv st h := q_in rfl rfl
theorem r18_51 : zR d 18 Q 51 (some (.ref c) :: l) st h = zR d 18 Q 52 (some (.ref c) :: l) (.ref c :: st) h := q_in rfl rfl
theorem r18_52 : zR d 18 Q 52 lv [.ref 7] h = zM d 15 [.ref 7] h (fun r h' => zR d 18 Q 55 lv (r.toList ++ []) h') := (q_clV rfl rfl (Nat.le_of_ble_eq_true rfl)).trans (zand_t ⟨rfl, Nat.le_of_ble_eq_true rfl⟩)
theorem r18_55 : zR d 18 Q 55 lv [] h = Q none h := q_ret rfl rfl
theorem r18_56 : zR d 18 Q 56 (some (.ref c) :: l) st h = zR d 18 Q 57 (some (.ref c) :: l) (.ref c :: st) h := q_in rfl rfl
theorem r18_57 : zR d 18 Q 57 lv [.ref 7] h = zM d 11 [.ref 7] h (fun r h' => zR d 18 Q 60 lv (r.toList ++ []) h') := (q_clV rfl rfl (Nat.le_of_ble_eq_true rfl)).trans (zand_t ⟨rfl, Nat.le_of_ble_eq_true rfl⟩)
theorem r18_60 : zR d 18 Q 60 lv [] h = Q none h := q_ret rfl rfl
theorem r19_0 : zR d 19 Q 0 (some (.ref c) :: l) st h = zR d 19 Q 1 (some (.ref c) :: l) (.ref c :: st) h := q_in rfl rfl
theorem r19_1 : zR d 19 Q 1 lv (.ref 7 :: st) h = zR d 19 Q 4 lv (.int (h 7 4) :: st) h := (q_and rfl rfl).trans (zand_t rfl)
theorem r19_4 : zR d 19 Q 4 lv st h = zR d 19 Q 6 lv (.int (-2) :: st) h := q_in rfl rfl
theorem r19_6 : zR d 19 Q 6 lv (.int z :: .int x :: st) h = if x = z then zR d 19 Q 9 lv st h else zR d 19 Q 25 lv st h := q_if rfl rfl
theorem r19_9 : zR d 19 Q 9 (some (.ref c) :: l) st h = zR d 19 Q 10 (some (.ref c) :: l) (.ref c :: st) h := q_in rfl rfl
theorem r19_10 : zR d 19 Q 10 lv (.ref 7 :: st) h = zR d 19 Q 13 lv (.int (h 7 3) :: st) h := (q_and rfl rfl).trans (zand_t rfl)
theorem r19_13 : zR d 19 Q 13 (some (.ref c) :: l) st h = zR d 19 Q 14 (some (.ref c) :: l) (.ref c :: st) h := q_in rfl rfl
theorem r19_14 : zR d 19 Q 14 lv (.ref 7 :: st) h = zR d 19 Q 17 lv (.int (h 7 2) :: st) h := (q_and rfl rfl).trans (zand_t rfl)
theorem r19_17 : zR d 19 Q 17 lv (.int z :: .int x :: st) h = zR d 19 Q 18 lv (.int (x - z) :: st) h := q_in rfl rfl
theorem r19_18 : zR d 19 Q 18 (o0 :: some (.ref c) :: l) st h = zR d 19 Q 19 (o0 :: some (.ref c) :: l) (.ref c :: st) h := q_in rfl rfl
theorem r19_19 : zR d 19 Q 19 lv [.ref c, .int y0] h = (zcls c = 23 ∧ zM d 1004 [.ref c] h (fun r h' => zR d 19 Q 22 lv (r.toList ++ [.int y0]) h')) := (q_clV rfl rfl (Nat.le_of_ble_eq_true rfl)).trans (zand_r (Nat.le_of_ble_eq_true rfl))
theorem r19_22 : zR d 19 Q 22 lv (.int z :: .int x :: st) h = if x = z then zR d 19 Q 27 lv st h else zR d 19 Q 25 lv st h := q_if rfl rfl
theorem r19_25 : zR d 19 Q 25 lv st h = zR d 19 Q 26 lv (.int 0 :: st) h := q_in rfl rfl
theorem r19_26f : zR d 19 Q 26 lv [.int 0] h = Q (some (.int 0)) h := q_retz rfl rfl (Or.inr (Or.inl rfl))
theorem r19_26t : zR d 19 Q 26 lv [.int 1] h = Q (some (.int 1)) h := q_retz rfl rfl (Or.inr (Or.inr rfl))
theorem r19_27 : zR d 19 Q 27 lv st h = zR d 19 Q 28 lv (.int 0 :: st) h := q_in rfl rfl
theorem r19_28 : zR d 19 Q 28 (o0 :: o1 :: o2 :: l) (.int x :: st) h = zR d 19 Q 29 (o0 :: o1 :: some (.int x) :: l) st h := q_in rfl rfl
theorem r19_29 : zR d 19 Q 29 (o0 :: o1 :: some (.int x) :: l) st h = zR d 19 Q 30 (o0 :: o1 :: some (.int x) :: l) (.int x :: st) h := q_in rfl rfl
theorem r19_30 : zR d 19 Q 30 (o0 :: some (.ref c) :: l) st h = zR d 19 Q 31 (o0 :: some (.ref c) :: l) (.ref c :: st) h := q_in rfl rfl
theorem r19_31 : zR d 19 Q 31 lv [.ref c, .int y0] h = (zcls c = 23 ∧ zM d 1004 [.ref c] h (fun r h' => zR d 19 Q 34 lv (r.toList ++ [.int y0]) h')) := (q_clV rfl rfl (Nat.le_of_ble_eq_true rfl)).trans (zand_r (Nat.le_of_ble_eq_true rfl))
theorem r19_34 : zR d 19 Q 34 lv (.int z :: .int x :: st) h = if x < z then zR d 19 Q 37 lv st h else zR d 19 Q 63 lv st h := q_if rfl rfl
theorem r19_37 : zR d 19 Q 37 (some (.ref c) :: l) st h = zR d 19 Q 38 (some (.ref c) :: l) (.ref c :: st) h := q_in rfl rfl
theorem r19_38 : zR d 19 Q 38 (some (.ref c) :: l) st h = zR d 19 Q 39 (some (.ref c) :: l) (.ref c :: st) h := q_in rfl rfl
theorem r19_39 : zR d 19 Q 39 lv (.ref 7 :: st) h = zR d 19 Q 42 lv (.int (h 7 2) :: st) h := (q_and rfl rfl).trans (zand_t rfl)
theorem r19_42 : zR d 19 Q 42 (o0 :: o1 :: some (.int x) :: l) st h = zR d 19 Q 43 (o0 :: o1 :: some (.int x) :: l) (.int x :: st) h := q_in rfl rfl
theorem r19_43 : zR d 19 Q 43 lv (.int z :: .int x :: st) h = zR d 19 Q 44 lv (.int (x + z) :: st) h := q_in rfl rfl
theorem r19_44 : zR d 19 Q 44 lv [.int x0, .ref 7] h = zM d 13 [.ref 7, .int x0] h (fun r h' => zR d 19 Q 47 lv (r.toList ++ []) h') := (q_clV rfl rfl (Nat.le_of_ble_eq_true rfl)).trans (zand_t ⟨rfl, Nat.le_of_ble_eq_true rfl⟩)
theorem r19_47 : zR d 19 Q 47 (o0 :: some (.ref c) :: l) st h = zR d 19 Q 48 (o0 :: some (.ref c) :: l) (.ref c :: st) h := q_in rfl rfl
theorem r19_48 : zR d 19 Q 48 (o0 :: o1 :: some (.int x) :: l) st h = zR d 19 Q 49 (o0 :: o1 :: some (.int x) :: l) (.int x :: st) h := q_in rfl rfl
theorem r19_49 : zR d 19 Q 49 lv [.int x0, .ref c, .int y0] h = (zcls c = 23 ∧ zM d 1005 [.ref c, .int x0] h (fun r h' => zR d 19 Q 52 lv (r.toList ++ [.int y0]) h')) := (q_clV rfl rfl (Nat.le_of_ble_eq_true rfl)).trans (zand_r (Nat.le_of_ble_eq_true rfl))
theorem r19_52 : zR d 19 Q 52 lv (.int z :: .int x :: st) h = if x = z then zR d 19 Q 57 lv st h else zR d 19 Q 55 lv st h := q_if rfl rfl
theorem r19_55 : zR d 19 Q 55 lv st h = zR d 19 Q 56 lv (.int 0 :: st) h := q_in rfl rfl
theorem r19_56f : zR d 19 Q 56 lv [.int 0] h = Q (some (.int 0)) h := q_retz rfl rfl (Or.inr (Or.inl rfl))
theorem r19_56t : zR d 19 Q 56 lv [.int 1] h = Q (some (.int 1)) h := q_retz rfl rfl (Or.inr (Or.inr rfl))
theorem r19_57 : zR d 19 Q 57 (o0 :: o1 :: some (.int x) :: l) st h = zR d 19 Q 60 (o0 :: o1 :: some (.int (x + 1)) :: l) st h := q_in rfl rfl
theorem r19_60 : zR d 19 Q 60 lv st h = zR d 19 Q 29 lv st h := q_in rfl rfl
theorem r19_63 : zR d 19 Q 63 lv st h = zR d 19 Q 64 lv (.int 1 :: st) h := q_in rfl rfl
theorem r19_64f : zR d 19 Q 64 lv [.int 0] h = Q (some (.int 0)) h := q_retz rfl rfl (Or.inr (Or.inl rfl))
theorem r19_64t : zR d 19 Q 64 lv [.int 1] h = Q (some (.int 1)) h := q_retz rfl rfl (Or.inr (Or.inr rfl))
theorem r20_0 : zR d 20 Q 0 (some (.ref c) :: l) st h = zR d 20 Q 1 (some (.ref c) :: l) (.ref c :: st) h := q_in rfl rfl
theorem r20_1 : zR d 20 Q 1 (o0 :: some (.int x) :: l) st h = zR d 20 Q 2 (o0 :: some (.int x) :: l) (.int x :: st) h := q_in rfl rfl
theorem r20_2 : zR d 20 Q 2 (o0 :: o1 :: some (.int x) :: l) st h = zR d 20 Q 3 (o0 :: o1 :: some (.int x) :: l) (.int x :: st) h := q_in rfl rfl
theorem r20_3 : zR d 20 Q 3 lv [.int x1, .int x0, .ref 7] h = zM d 21 [.ref 7, .int x0, .int x1] h (fun r h' => zR d 20 Q 6 lv (r.toList ++ []) h') := (q_clV rfl rfl (Nat.le_of_ble_eq_true rfl)).trans (zand_t ⟨rfl, Nat.le_of_ble_eq_true rfl⟩)
theorem r20_6 : zR d 20 Q 6 lv st h = zR d 20 Q 7 lv (.int 0 :: st) h := q_in rfl rfl
theorem r20_7 : zR d 20 Q 7 (o0 :: o1 :: o2 :: o3 :: l) (.int x :: st) h = zR d 20 Q 8 (o0 :: o1 :: o2 :: some (.int x) :: l) st h := q_in rfl rfl
theorem r20_8 : zR d 20 Q 8 (o0 :: o1 :: o2 :: some (.int x) :: l) st h = zR d 20 Q 9 (o0 :: o1 :: o2 :: some (.int x) :: l) (.int x :: st) h := q_in rfl rfl
theorem r20_9 : zR d 20 Q 9 lv st h = zR d 20 Q 11 lv (.int 96 :: st) h := q_in rfl rfl
theorem r20_11 : zR d 20 Q 11 lv (.int z :: .int x :: st) h = if x < z then zR d 20 Q 14 lv st h else zR d 20 Q 45 lv st h := q_if rfl rfl
theorem r20_14 : zR d 20 Q 14 (some (.ref c) :: l) st h = zR d 20 Q 15 (some (.ref c) :: l) (.ref c :: st) h := q_in rfl rfl
theorem r20_15 : zR d 20 Q 15 lv st h = zR d 20 Q 17 lv (.int 124 :: st) h := q_in rfl rfl
theorem r20_17 : zR d 20 Q 17 lv [.int x0, .ref 7] h = zM d 16 [.ref 7, .int x0] h (fun r h' => zR d 20 Q 20 lv (r.toList ++ []) h') := (q_clV rfl rfl (Nat.le_of_ble_eq_true rfl)).trans (zand_t ⟨rfl, Nat.le_of_ble_eq_true rfl⟩)
theorem r20_20 : zR d 20 Q 20 lv (.int x :: st) h = if x = 0 then zR d 20 Q 45 lv st h else zR d 20 Q 23 lv st h := q_if rfl rfl
theorem r20_23 : zR d 20 Q 23 (some (.ref c) :: l) st h = zR d 20 Q 24 (some (.ref c) :: l) (.ref c :: st) h := q_in rfl rfl
theorem r20_24 : zR d 20 Q 24 lv [.ref 7] h = zM d 11 [.ref 7] h (fun r h' => zR d 20 Q 27 lv (r.toList ++ []) h') := (q_clV rfl rfl (Nat.le_of_ble_eq_true rfl)).trans (zand_t ⟨rfl, Nat.le_of_ble_eq_true rfl⟩)
theorem r20_27 : zR d 20 Q 27 (some (.ref c) :: l) st h = zR d 20 Q 28 (some (.ref c) :: l) (.ref c :: st) h := q_in rfl rfl
theorem r20_28 : zR d 20 Q 28 (o0 :: some (.int x) :: l) st h = zR d 20 Q 29 (o0 :: some (.int x) :: l) (.int x :: st) h := q_in rfl rfl
theorem r20_29 : zR d 20 Q 29 (o0 :: o1 :: some (.int x) :: l) st h = zR d 20 Q 30 (o0 :: o1 :: some (.int x) :: l) (.int x :: st) h := q_in rfl rfl
theorem r20_30 : zR d 20 Q 30 lv [.int x1, .int x0, .ref 7] h = zM d 21 [.ref 7, .int x0, .int x1] h (fun r h' => zR d 20 Q 33 lv (r.toList ++ []) h') := (q_clV rfl rfl (Nat.le_of_ble_eq_true rfl)).trans (zand_t ⟨rfl, Nat.le_of_ble_eq_true rfl⟩)
theorem r20_33 : zR d 20 Q 33 (some (.ref c) :: l) st h = zR d 20 Q 34 (some (.ref c) :: l) (.ref c :: st) h := q_in rfl rfl
theorem r20_34 : zR d 20 Q 34 lv st h = zR d 20 Q 36 lv (.int (-124) :: st) h := q_in rfl rfl
theorem r20_36 : zR d 20 Q 36 lv [.int x0, .ref 7] h = zM d 17 [.ref 7, .int x0] h (fun r h' => zR d 20 Q 39 lv (r.toList ++ []) h') := (q_clV rfl rfl (Nat.le_of_ble_eq_true rfl)).trans (zand_t ⟨rfl, Nat.le_of_ble_eq_true rfl⟩)
theorem r20_39 : zR d 20 Q 39 (o0 :: o1 :: o2 :: some (.int x) :: l) st h = zR d 20 Q 42 (o0 :: o1 :: o2 :: some (.int (x + 1)) :: l) st h := q_in rfl rfl
theorem r20_42 : zR d 20 Q 42 lv st h = zR d 20 Q 8 lv st h := q_in rfl rfl
theorem r20_45 : zR d 20 Q 45 lv [] h = Q none h := q_ret rfl rfl
theorem r21_0 : zR d 21 Q 0 (some (.ref c) :: l) st h = zR d 21 Q 1 (some (.ref c) :: l) (.ref c :: st) h := q_in rfl rfl
theorem r21_1 : zR d 21 Q 1 (o0 :: some (.int x) :: l) st h = zR d 21 Q 2 (o0 :: some (.int x) :: l) (.int x :: st) h := q_in rfl rfl
theorem r21_2 : zR d 21 Q 2 (o0 :: o1 :: some (.int x) :: l) st h = zR d 21 Q 3 (o0 :: o1 :: some (.int x) :: l) (.int x :: st) h := q_in rfl rfl
theorem r21_3 : zR d 21 Q 3 lv [.int x1, .int x0, .ref 7] h = zM d 22 [.ref 7, .int x0, .int x1] h (fun r h' => zR d 21 Q 6 lv (r.toList ++ []) h') := (q_clV rfl rfl (Nat.le_of_ble_eq_true rfl)).trans (zand_t ⟨rfl, Nat.le_of_ble_eq_true rfl⟩)
theorem r21_6 : zR d 21 Q 6 lv st h = zR d 21 Q 7 lv (.int 0 :: st) h := q_in rfl rfl
theorem r21_7 : zR d 21 Q 7 (o0 :: o1 :: o2 :: o3 :: l) (.int x :: st) h = zR d 21 Q 8 (o0 :: o1 :: o2 :: some (.int x) :: l) st h := q_in rfl rfl
theorem r21_8 : zR d 21 Q 8 (o0 :: o1 :: o2 :: some (.int x) :: l) st h = zR d 21 Q 9 (o0 :: o1 :: o2 :: some (.int x) :: l) (.int x :: st) h := q_in rfl rfl
theorem r21_9 : zR d 21 Q 9 lv st h = zR d 21 Q 11 lv (.int 96 :: st) h := q_in rfl rfl
theorem r21_11 : zR d 21 Q 11 lv (.int z :: .int x :: st) h = if x < z then zR d 21 Q 14 lv st h else zR d 21 Q 45 lv st h := q_if rfl rfl
theorem r21_14 : zR d 21 Q 14 (some (.ref c) :: l) st h = zR d 21 Q 15 (some (.ref c) :: l) (.ref c :: st) h := q_in rfl rfl
theorem r21_15 : zR d 21 Q 15 lv st h = zR d 21 Q 17 lv (.int 38 :: st) h := q_in rfl rfl
theorem r21_17 : zR d 21 Q 17 lv [.int x0, .ref 7] h = zM d 16 [.ref 7, .int x0] h (fun r h' => zR d 21 Q 20 lv (r.toList ++ []) h') := (q_clV rfl rfl (Nat.le_of_ble_eq_true rfl)).trans (zand_t ⟨rfl, Nat.le_of_ble_eq_true rfl⟩)
theorem r21_20 : zR d 21 Q 20 lv (.int x :: st) h = if x = 0 then zR d 21 Q 45 lv st h else zR d 21 Q 23 lv st h := q_if rfl rfl
theorem r21_23 : zR d 21 Q 23 (some (.ref c) :: l) st h = zR d 21 Q 24 (some (.ref c) :: l) (.ref c :: st) h := q_in rfl rfl
theorem r21_24 : zR d 21 Q 24 lv [.ref 7] h = zM d 11 [.ref 7] h (fun r h' => zR d 21 Q 27 lv (r.toList ++ []) h') := (q_clV rfl rfl (Nat.le_of_ble_eq_true rfl)).trans (zand_t ⟨rfl, Nat.le_of_ble_eq_true rfl⟩)
theorem r21_27 : zR d 21 Q 27 (some (.ref c) :: l) st h = zR d 21 Q 28 (some (.ref c) :: l) (.ref c :: st) h := q_in rfl rfl
theorem r21_28 : zR d 21 Q 28 (o0 :: some (.int x) :: l) st h = zR d 21 Q 29 (o0 :: some (.int x) :: l) (.int x :: st) h := q_in rfl rfl
theorem r21_29 : zR d 21 Q 29 (o0 :: o1 :: some (.int x) :: l) st h = zR d 21 Q 30 (o0 :: o1 :: some (.int x) :: l) (.int x :: st) h := q_in rfl rfl
theorem r21_30 : zR d 21 Q 30 lv [.int x1, .int x0, .ref 7] h = zM d 22 [.ref 7, .int x0, .int x1] h (fun r h' => zR d 21 Q 33 lv (r.toList ++ []) h') := (q_clV rfl rfl (Nat.le_of_ble_eq_true rfl)).trans (zand_t ⟨rfl, Nat.le_of_ble_eq_true rfl⟩)
theorem r21_33 : zR d 21 Q 33 (some (.ref c) :: l) st h = zR d 21 Q 34 (some (.ref c) :: l) (.ref c :: st) h := q_in rfl rfl
theorem r21_34 : zR d 21 Q 34 lv st h = zR d 21 Q 36 lv (.int (-38) :: st) h := q_in rfl rfl
theorem r21_36 : zR d 21 Q 36 lv [.int x0, .ref 7] h = zM d 17 [.ref 7, .int x0] h (fun r h' => zR d 21 Q 39 lv (r.toList ++ []) h') := (q_clV rfl rfl (Nat.le_of_ble_eq_true rfl)).trans (zand_t ⟨rfl, Nat.le_of_ble_eq_true rfl⟩)
theorem r21_39 : zR d 21 Q 39 (o0 :: o1 :: o2 :: some (.int x) :: l) st h = zR d 21 Q 42 (o0 :: o1 :: o2 :: some (.int (x + 1)) :: l) st h := q_in rfl rfl
theorem r21_42 : zR d 21 Q 42 lv st h = zR d 21 Q 8 lv st h := q_in rfl rfl
theorem r21_45 : zR d 21 Q 45 lv [] h = Q none h := q_ret rfl rfl
theorem r22_0 : zR d 22 Q 0 (some (.ref c) :: l) st h = zR d 22 Q 1 (some (.ref c) :: l) (.ref c :: st) h := q_in rfl rfl
theorem r22_1 : zR d 22 Q 1 (o0 :: some (.int x) :: l) st h = zR d 22 Q 2 (o0 :: some (.int x) :: l) (.int x :: st) h := q_in rfl rfl
theorem r22_2 : zR d 22 Q 2 (o0 :: o1 :: some (.int x) :: l) st h = zR d 22 Q 3 (o0 :: o1 :: some (.int x) :: l) (.int x :: st) h := q_in rfl rfl
theorem r22_3 : zR d 22 Q 3 lv [.int x1, .int x0, .ref 7] h = zM d 23 [.ref 7, .int x0, .int x1] h (fun r h' => zR d 22 Q 6 lv (r.toList ++ []) h') := (q_clV rfl rfl (Nat.le_of_ble_eq_true rfl)).trans (zand_t ⟨rfl, Nat.le_of_ble_eq_true rfl⟩)
theorem r22_6 : zR d 22 Q 6 (some (.ref c) :: l) st h = zR d 22 Q 7 (some (.ref c) :: l) (.ref c :: st) h := q_in rfl rfl
theorem r22_7 : zR d 22 Q 7 lv st h = zR d 22 Q 9 lv (.int 60 :: st) h := q_in rfl rfl
theorem r22_9 : zR d 22 Q 9 lv [.int x0, .ref 7] h = zM d 16 [.ref 7, .int x0] h (fun r h' => zR d 22 Q 12 lv (r.toList ++ []) h') := (q_clV rfl rfl (Nat.le_of_ble_eq_true rfl)).trans (zand_t ⟨rfl, Nat.le_of_ble_eq_true rfl⟩)
theorem r22_12 : zR d 22 Q 12 lv (.int x :: st) h = if x = 0 then zR d 22 Q 15 lv st h else zR d 22 Q 33 lv st h := q_if rfl rfl
theorem r22_15 : zR d 22 Q 15 (some (.ref c) :: l) st h = zR d 22 Q 16 (some (.ref c) :: l) (.ref c :: st) h := q_in rfl rfl
theorem r22_16 : zR d 22 Q 16 lv st h = zR d 22 Q 18 lv (.int 61 :: st) h := q_in rfl rfl
theorem r22_18 : zR d 22 Q 18 lv [.int x0, .ref 7] h = zM d 16 [.ref 7, .int x0] h (fun r h' => zR d 22 Q 21 lv (r.toList ++ []) h') := (q_clV rfl rfl (Nat.le_of_ble_eq_true rfl)).trans (zand_t ⟨rfl, Nat.le_of_ble_eq_true rfl⟩)
theorem r22_21 : zR d 22 Q 21 lv (.int x :: st) h = if x = 0 then zR d 22 Q 24 lv st h else zR d 22 Q 33 lv st h := q_if rfl rfl
theorem r22_24 : zR d 22 Q 24 (some (.ref c) :: l) st h = zR d 22 Q 25 (some (.ref c) :: l) (.ref c :: st) h := q_in rfl rfl
theorem r22_25 : zR d 22 Q 25 lv st h = zR d 22 Q 27 lv (.int 62 :: st) h := q_in rfl rfl
theorem r22_27 : zR d 22 Q 27 lv [.int x0, .ref 7] h = zM d 16 [.ref 7, .int x0] h (fun r h' => zR d 22 Q 30 lv (r.toList ++ []) h') := (q_clV rfl rfl (Nat.le_of_ble_eq_true rfl)).trans (zand_t ⟨rfl, Nat.le_of_ble_eq_true rfl⟩)
theorem r22_30 : zR d 22 Q 30 lv (.int x :: st) h = if x = 0 then zR d 22 Q 54 lv st h else zR d 22 Q 33 lv st h := q_if rfl rfl
theorem r22_33 : zR d 22 Q 33 (some (.ref c) :: l) st h = zR d 22 Q 34 (some (.ref c) :: l) (.ref c :: st) h := q_in rfl rfl
theorem r22_34 : zR d 22 Q 34 lv (.ref 7 :: st) h = zR d 22 Q 37 lv (.int (h 7 4) :: st) h := (q_and rfl rfl).trans (zand_t rfl)
theorem r22_37 : zR d 22 Q 37 (o0 :: o1 :: o2 :: o3 :: l) (.int x :: st) h = zR d 22 Q 38 (o0 :: o1 :: o2 :: some (.int x) :: l) st h := q_in rfl rfl
theorem r22_38 : zR d 22 Q 38 (some (.ref c) :: l) st h = zR d 22 Q 39 (some (.ref c) :: l) (.ref c :: st) h := q_in rfl rfl
theorem r22_39 : zR d 22 Q 39 lv [.ref 7] h = zM d 11 [.ref 7] h (fun r h' => zR d 22 Q 42 lv (r.toList ++ []) h') := (q_clV rfl rfl (Nat.le_of_ble_eq_true rfl)).trans (zand_t ⟨rfl, Nat.le_of_ble_eq_true rfl⟩)
theorem r22_42 : zR d 22 Q 42 (some (.ref c) :: l) st h = zR d 22 Q 43 (some (.ref c) :: l) (.ref c :: st) h := q_in rfl rfl
theorem r22_43 : zR d 22 Q 43 (o0 :: some (.int x) :: l) st h = zR d 22 Q 44 (o0 :: some (.int x) :: l) (.int x :: st) h := q_in rfl rfl
theorem r22_44 : zR d 22 Q 44 (o0 :: o1 :: some (.int x) :: l) st h = zR d 22 Q 45 (o0 :: o1 :: some (.int x) :: l) (.int x :: st) h := q_in rfl rfl
theorem r22_45 : zR d 22 Q 45 lv [.int x1, .int x0, .ref 7] h = zM d 23 [.ref 7, .int x0, .int x1] h (fun r h' => zR d 22 Q 48 lv (r.toList ++ []) h') := (q_clV rfl rfl (Nat.le_of_ble_eq_true rfl)).trans (zand_t ⟨rfl, Nat.le_of_ble_eq_true rfl⟩)
theorem r22_48 : zR d 22 Q 48 (some (.ref c) :: l) st h = zR d 22 Q 49 (some (.ref c) :: l) (.ref c :: st) h := q_in rfl rfl
theorem r22_49 : zR d 22 Q 49 (o0 :: o1 :: o2 :: some (.int x) :: l) st h = zR d 22 Q 50 (o0 :: o1 :: o2 :: some (.int x) :: l) (.int x :: st) h := q_in rfl rfl
theorem r22_50 : zR d 22 Q 50 lv (.int x :: st) h = zR d 22 Q 51 lv (.int (-x) :: st) h := q_in rfl rfl
theorem r22_51 : zR d 22 Q 51 lv [.int x0, .ref 7] h = zM d 17 [.ref 7, .int x0] h (fun r h' => zR d 22 Q 54 lv (r.toList ++ []) h') := (q_clV rfl rfl (Nat.le_of_ble_eq_true rfl)).trans (zand_t ⟨rfl, Nat.le_of_ble_eq_true rfl⟩)
theorem r22_54 : zR d 22 Q 54 lv [] h = Q none h := q_ret rfl rfl
theorem r23_0 : zR d 23 Q 0 (some (.ref c) :: l) st h = zR d 23 Q 1 (some (.ref c) :: l) (.ref c :: st) h := q_in rfl rfl
theorem r23_1 : zR d 23 Q 1 (o0 :: some (.int x) :: l) st h = zR d 23 Q 2 (o0 :: some (.int x) :: l) (.int x :: st) h := q_in rfl rfl
theorem r23_2 : zR d 23 Q 2 (o0 :: o1 :: some (.int x) :: l) st h = zR d 23 Q 3 (o0 :: o1 :: some (.int x) :: l) (.int x :: st) h := q_in rfl rfl
theorem r23_3 : zR d 23 Q 3 lv [.int x1, .int x0, .ref 7] h = zM d 24 [.ref 7, .int x0, .int x1] h (fun r h' => zR d 23 Q 6 lv (r.toList ++ []) h') := (q_clV rfl rfl (Nat.le_of_ble_eq_true rfl)).trans (zand_t ⟨rfl, Nat.le_of_ble_eq_true rfl⟩)
theorem r23_6 : zR d 23 Q 6 lv st h = zR d 23 Q 7 lv (.int 0 :: st) h := q_in rfl rfl
theorem r23_7 : zR d 23 Q 7 (o0 :: o1 :: o2 :: o3 :: l) (.int x :: st) h = zR d 23 Q 8 (o0 :: o1 :: o2 :: some (.int x) :: l) st h := q_in rfl rfl
theorem r23_8 : zR d 23 Q 8 (o0 :: o1 :: o2 :: some (.int x) :: l) st h = zR d 23 Q 9 (o0 :: o1 :: o2 :: some (.int x) :: l) (.int x :: st) h := q_in rfl rfl
theorem r23_9 : zR d 23 Q 9 lv st h = zR d 23 Q 11 lv (.int 96 :: st) h := q_in rfl rfl
theorem r23_11 : zR d 23 Q 11 lv (.int z :: .int x :: st) h = if x < z then zR d 23 Q 14 lv st h else zR d 23 Q 61 lv st h := q_if rfl rfl
theorem r23_14 : zR d 23 Q 14 (some (.ref c) :: l) st h = zR d 23 Q 15 (some (.ref c) :: l) (.ref c :: st) h := q_in rfl rfl
theorem r23_15 : zR d 23 Q 15 lv st h = zR d 23 Q 17 lv (.int 43 :: st) h := q_in rfl rfl
theorem r23_17 : zR d 23 Q 17 lv [.int x0, .ref 7] h = zM d 16 [.ref 7, .int x0] h (fun r h' => zR d 23 Q 20 lv (r.toList ++ []) h') := (q_clV rfl rfl (Nat.le_of_ble_eq_true rfl)).trans (zand_t ⟨rfl, Nat.le_of_ble_eq_true rfl⟩)
theorem r23_20 : zR d 23 Q 20 lv (.int x :: st) h = if x = 0 then zR d 23 Q 23 lv st h else zR d 23 Q 32 lv st h := q_if rfl rfl
theorem r23_23 : zR d 23 Q 23 (some (.ref c) :: l) st h = zR d 23 Q 24 (some (.ref c) :: l) (.ref c :: st) h := q_in rfl rfl
theorem r23_24 : zR d 23 Q 24 lv st h = zR d 23 Q 26 lv (.int 45 :: st) h := q_in rfl rfl
theorem r23_26 : zR d 23 Q 26 lv [.int x0, .ref 7] h = zM d 16 [.ref 7, .int x0] h (fun r h' => zR d 23 Q 29 lv (r.toList ++ []) h') := (q_clV rfl rfl (Nat.le_of_ble_eq_true rfl)).trans (zand_t ⟨rfl, Nat.le_of_ble_eq_true rfl⟩)
theorem r23_29 : zR d 23 Q 29 lv (.int x :: st) h = if x = 0 then zR d 23 Q 61 lv st h else zR d 23 Q 32 lv st h := q_if rfl rfl
theorem r23_32 : zR d 23 Q 32 (some (.ref c) :: l) st h = zR d 23 Q 33 (some (.ref c) :: l) (.ref c :: st) h := q_in rfl rfl
theorem r23_33 : zR d 23 Q 33 lv (.ref 7 :: st) h = zR d 23 Q 36 lv (.int (h 7 4) :: st) h := (q_and rfl rfl).trans (zand_t rfl)
theorem r23_36 : zR d 23 Q 36 (o0 :: o1 :: o2 :: o3 :: o4 :: l) (.int x :: st) h = zR d 23 Q 38 (o0 :: o1 :: o2 :: o3 :: some (.int x) :: l) st h := q_in rfl rfl
theorem r23_38 : zR d 23 Q 38 (some (.ref c) :: l) st h = zR d 23 Q 39 (some (.ref c) :: l) (.ref c :: st) h := q_in rfl rfl
theorem r23_39 : zR d 23 Q 39 lv [.ref 7] h = zM d 11 [.ref 7] h (fun r h' => zR d 23 Q 42 lv (r.toList ++ []) h') := (q_clV rfl rfl (Nat.le_of_ble_eq_true rfl)).trans (zand_t ⟨rfl, Nat.le_of_ble_eq_true rfl⟩)
theorem r23_42 : zR d 23 Q 42 (some (.ref c) :: l) st h = zR d 23 Q 43 (some (.ref c) :: l) (.ref c :: st) h := q_in rfl rfl
theorem r23_43 : zR d 23 Q 43 (o0 :: some (.int x) :: l) st h = zR d 23 Q 44 (o0 :: some (.int x) :: l) (.int x :: st) h := q_in rfl rfl
theorem r23_44 : zR d 23 Q 44 (o0 :: o1 :: some (.int x) :: l) st h = zR d 23 Q 45 (o0 :: o1 :: some (.int x) :: l) (.int x :: st) h := q_in rfl rfl
theorem r23_45 : zR d 23 Q 45 lv [.int x1, .int x0, .ref 7] h = zM d 24 [.ref 7, .int x0, .int x1] h (fun r h' => zR d 23 Q 48 lv (r.toList ++ []) h') := (q_clV rfl rfl (Nat.le_of_ble_eq_true rfl)).trans (zand_t ⟨rfl, Nat.le_of_ble_eq_true rfl⟩)
theorem r23_48 : zR d 23 Q 48 (some (.ref c) :: l) st h = zR d 23 Q 49 (some (.ref c) :: l) (.ref c :: st) h := q_in rfl rfl
theorem r23_49 : zR d 23 Q 49 (o0 :: o1 :: o2 :: o3 :: some (.int x) :: l) st h = zR d 23 Q 51 (o0 :: o1 :: o2 :: o3 :: some (.int x) :: l) (.int x :: st) h := q_in rfl rfl
theorem r23_51 : zR d 23 Q 51 lv (.int x :: st) h = zR d 23 Q 52 lv (.int (-x) :: st) h := q_in rfl rfl
theorem r23_52 : zR d 23 Q 52 lv [.int x0, .ref 7] h = zM d 17 [.ref 7, .int x0] h (fun r h' => zR d 23 Q 55 lv (r.toList ++ []) h') := (q_clV rfl rfl (Nat.le_of_ble_eq_true rfl)).trans (zand_t ⟨rfl, Nat.le_of_ble_eq_true rfl⟩)
theorem r23_55 : zR d 23 Q 55 (o0 :: o1 :: o2 :: some (.int x) :: l) st h = zR d 23 Q 58 (o0 :: o1 :: o2 :: some (.int (x + 1)) :: l) st h := q_in rfl rfl
theorem r23_58 : zR d 23 Q 58 lv st h = zR d 23 Q 8 lv st h := q_in rfl rfl
theorem r23_61 : zR d 23 Q 61 lv [] h = Q none h := q_ret rfl rfl
theorem r24_0 : zR d 24 Q 0 (some (.ref c) :: l) st h = zR d 24 Q 1 (some (.ref c) :: l) (.ref c :: st) h := q_in rfl rfl
theorem r24_1 : zR d 24 Q 1 (o0 :: some (.int x) :: l) st h = zR d 24 Q 2 (o0 :: some (.int x) :: l) (.int x :: st) h := q_in rfl rfl
theorem r24_2 : zR d 24 Q 2 (o0 :: o1 :: some (.int x) :: l) st h = zR d 24 Q 3 (o0 :: o1 :: some (.int x) :: l) (.int x :: st) h := q_in rfl rfl
theorem r24_3 : zR d 24 Q 3 lv [.int x1, .int x0, .ref 7] h = zM d 25 [.ref 7, .int x0, .int x1] h (fun r h' => zR d 24 Q 6 lv (r.toList ++ []) h') := (q_clV rfl rfl (Nat.le_of_ble_eq_true rfl)).trans (zand_t ⟨rfl, Nat.le_of_ble_eq_true rfl⟩)
theorem r24_6 : zR d 24 Q 6 lv st h = zR d 24 Q 7 lv (.int 0 :: st) h := q_in rfl rfl
theorem r24_7 : zR d 24 Q 7 (o0 :: o1 :: o2 :: o3 :: l) (.int x :: st) h = zR d 24 Q 8 (o0 :: o1 :: o2 :: some (.int x) :: l) st h := q_in rfl rfl
theorem r24_8 : zR d 24 Q 8 (o0 :: o1 :: o2 :: some (.int x) :: l) st h = zR d 24 Q 9 (o0 :: o1 :: o2 :: some (.int x) :: l) (.int x :: st) h := q_in rfl rfl
theorem r24_9 : zR d 24 Q 9 lv st h = zR d 24 Q 11 lv (.int 96 :: st) h := q_in rfl rfl
theorem r24_11 : zR d 24 Q 11 lv (.int z :: .int x :: st) h = if x < z then zR d 24 Q 14 lv st h else zR d 24 Q 61 lv st h := q_if rfl rfl
theorem r24_14 : zR d 24 Q 14 (some (.ref c) :: l) st h = zR d 24 Q 15 (some (.ref c) :: l) (.ref c :: st) h := q_in rfl rfl
theorem r24_15 : zR d 24 Q 15 lv st h = zR d 24 Q 17 lv (.int 42 :: st) h := q_in rfl rfl
theorem r24_17 : zR d 24 Q 17 lv [.int x0, .ref 7] h = zM d 16 [.ref 7, .int x0] h (fun r h' => zR d 24 Q 20 lv (r.toList ++ []) h') := (q_clV rfl rfl (Nat.le_of_ble_eq_true rfl)).trans (zand_t ⟨rfl, Nat.le_of_ble_eq_true rfl⟩)
theorem r24_20 : zR d 24 Q 20 lv (.int x :: st) h = if x = 0 then zR d 24 Q 23 lv st h else zR d 24 Q 32 lv st h := q_if rfl rfl
theorem r24_23 : zR d 24 Q 23 (some (.ref c) :: l) st h = zR d 24 Q 24 (some (.ref c) :: l) (.ref c :: st) h := q_in rfl rfl
theorem r24_24 : zR d 24 Q 24 lv st h = zR d 24 Q 26 lv (.int 47 :: st) h := q_in rfl rfl
theorem r24_26 : zR d 24 Q 26 lv [.int x0, .ref 7] h = zM d 16 [.ref 7, .int x0] h (fun r h' => zR d 24 Q 29 lv (r.toList ++ []) h') := (q_clV rfl rfl (Nat.le_of_ble_eq_true rfl)).trans (zand_t ⟨rfl, Nat.le_of_ble_eq_true rfl⟩)
theorem r24_29 : zR d 24 Q 29 lv (.int x :: st) h = if x = 0 then zR d 24 Q 61 lv st h else zR d 24 Q 32 lv st h := q_if rfl rfl
theorem r24_32 : zR d 24 Q 32 (some (.ref c) :: l) st h = zR d 24 Q 33 (some (.ref c) :: l) (.ref c :: st) h := q_in rfl rfl
theorem r24_33 : zR d 24 Q 33 lv (.ref 7 :: st) h = zR d 24 Q 36 lv (.int (h 7 4) :: st) h := (q_and rfl rfl).trans (zand_t rfl)
theorem r24_36 : zR d 24 Q 36 (o0 :: o1 :: o2 :: o3 :: o4 :: l) (.int x :: st) h = zR d 24 Q 38 (o0 :: o1 :: o2 :: o3 :: some (.int x) :: l) st h := q_in rfl rfl
theorem r24_38 : zR d 24 Q 38 (some (.ref c) :: l) st h = zR d 24 Q 39 (some (.ref c) :: l) (.ref c :: st) h := q_in rfl rfl
theorem r24_39 : zR d 24 Q 39 lv [.ref 7] h = zM d 11 [.ref 7] h (fun r h' => zR d 24 Q 42 lv (r.toList ++ []) h') := (q_clV rfl rfl (Nat.le_of_ble_eq_true rfl)).trans (zand_t ⟨rfl, Nat.le_of_ble_eq_true rfl⟩)
theorem r24_42 : zR d 24 Q 42 (some (.ref c) :: l) st h = zR d 24 Q 43 (some (.ref c) :: l) (.ref c :: st) h := q_in rfl rfl
theorem r24_43 : zR d 24 Q 43 (o0 :: some (.int x) :: l) st h = zR d 24 Q 44 (o0 :: some (.int x) :: l) (.int x :: st) h := q_in rfl rfl
theorem r24_44 : zR d 24 Q 44 (o0 :: o1 :: some (.int x) :: l) st h = zR d 24 Q 45 (o0 :: o1 :: some (.int x) :: l) (.int x :: st) h := q_in rfl rfl
theorem r24_45 : zR d 24 Q 45 lv [.int x1, .int x0, .ref 7] h = zM d 25 [.ref 7, .int x0, .int x1] h (fun r h' => zR d 24 Q 48 lv (r.toList ++ []) h') := (q_clV rfl rfl (Nat.le_of_ble_eq_true rfl)).trans (zand_t ⟨rfl, Nat.le_of_ble_eq_true rfl⟩)
theorem r24_48 : zR d 24 Q 48 (some (.ref c) :: l) st h = zR d 24 Q 49 (some (.ref c) :: l) (.ref c :: st) h := q_in rfl rfl
theorem r24_49 : zR d 24 Q 49 (o0 :: o1 :: o2 :: o3 :: some (.int x) :: l) st h = zR d 24 Q 51 (o0 :: o1 :: o2 :: o3 :: some (.int x) :: l) (.int x :: st) h := q_in rfl rfl
theorem r24_51 : zR d 24 Q 51 lv (.int x :: st) h = zR d 24 Q 52 lv (.int (-x) :: st) h := q_in rfl rfl
theorem r24_52 : zR d 24 Q 52 lv [.int x0, .ref 7] h = zM d 17 [.ref 7, .int x0] h (fun r h' => zR d 24 Q 55 lv (r.toList ++ []) h') := (q_clV rfl rfl (Nat.le_of_ble_eq_true rfl)).trans (zand_t ⟨rfl, Nat.le_of_ble_eq_true rfl⟩)
theorem r24_55 : zR d 24 Q 55 (o0 :: o1 :: o2 :: some (.int x) :: l) st h = zR d 24 Q 58 (o0 :: o1 :: o2 :: some (.int (x + 1)) :: l) st h := q_in rfl rfl
theorem r24_58 : zR d 24 Q 58 lv st h = zR d 24 Q 8 lv st h := q_in rfl rfl
theorem r24_61 : zR d 24 Q 61 lv [] h = Q none h := q_ret rfl rfl
theorem r25_0 : zR d 25 Q 0 (some (.ref c) :: l) st h = zR d 25 Q 1 (some (.ref c) :: l) (.ref c :: st) h := q_in rfl rfl
theorem r25_1 : zR d 25 Q 1 lv (.ref 7 :: st) h = zR d 25 Q 4 lv (.int (h 7 6) :: st) h := (q_and rfl rfl).trans (zand_t rfl)
theorem r25_4 : zR d 25 Q 4 lv st h = zR d 25 Q 5 lv (.int (-1) :: st) h := q_in rfl rfl
theorem r25_5 : zR d 25 Q 5 lv (.int z :: .int x :: st) h = if x = z then zR d 25 Q 9 lv st h else zR d 25 Q 8 lv st h := q_if rfl rfl
theorem r25_8 : zR d 25 Q 8 lv [] h = Q none h := q_ret rfl rfl
theorem r25_9 : zR d 25 Q 9 (some (.ref c) :: l) st h = zR d 25 Q 10 (some (.ref c) :: l) (.ref c :: st) h := q_in rfl rfl
theorem r25_10 : zR d 25 Q 10 lv (.ref 7 :: st) h = zR d 25 Q 13 lv (.int (h 7 4) :: st) h := (q_and rfl rfl).trans (zand_t rfl)
theorem r25_13 : zR d 25 Q 13 lv st h = zR d 25 Q 15 lv (.int (-3) :: st) h := q_in rfl rfl
theorem r25_15 : zR d 25 Q 15 lv (.int z :: .int x :: st) h = if x = z then zR d 25 Q 18 lv st h else zR d 25 Q 32 lv st h := q_if rfl rfl
theorem r25_18 : zR d 25 Q 18 (some (.ref c) :: l) st h = zR d 25 Q 19 (some (.ref c) :: l) (.ref c :: st) h := q_in rfl rfl
theorem r25_19 : zR d 25 Q 19 lv (.ref 7 :: st) h = zR d 25 Q 22 lv (.int (h 7 5) :: st) h := (q_and rfl rfl).trans (zand_t rfl)
theorem r25_22 : zR d 25 Q 22 lv (.int x :: st) h = if x = 0 then zR d 25 Q 25 lv st h else zR d 25 Q 32 lv st h := q_if rfl rfl
theorem r25_25 : zR d 25 Q 25 (some (.ref c) :: l) st h = zR d 25 Q 26 (some (.ref c) :: l) (.ref c :: st) h := q_in rfl rfl
theorem r25_26 : zR d 25 Q 26 lv [.ref 7] h = zM d 27 [.ref 7] h (fun r h' => zR d 25 Q 29 lv (r.toList ++ []) h') := (q_clV rfl rfl (Nat.le_of_ble_eq_true rfl)).trans (zand_t ⟨rfl, Nat.le_of_ble_eq_true rfl⟩)
theorem r25_29 : zR d 25 Q 29 lv st h = zR d 25 Q 129 lv st h := q_in rfl rfl
theorem r25_32 : zR d 25 Q 32 (some (.ref c) :: l) st h = zR d 25 Q 33 (some (.ref c) :: l) (.ref c :: st) h := q_in rfl rfl
theorem r25_33 : zR d 25 Q 33 lv (.ref 7 :: st) h = zR d 25 Q 36 lv (.int (h 7 4) :: st) h := (q_and rfl rfl).trans (zand_t rfl)
theorem r25_36 : zR d 25 Q 36 lv st h = zR d 25 Q 38 lv (.int (-2) :: st) h := q_in rfl rfl
theorem r25_38 : zR d 25 Q 38 lv (.int z :: .int x :: st) h = if x = z then zR d 25 Q 41 lv st h else zR d 25 Q 55 lv st h := q_if rfl rfl
theorem r25_41 : zR d 25 Q 41 (some (.ref c) :: l) st h = zR d 25 Q 42 (some (.ref c) :: l) (.ref c :: st) h := q_in rfl rfl
theorem r25_42 : zR d 25 Q 42 lv (.ref 7 :: st) h = zR d 25 Q 45 lv (.int (h 7 5) :: st) h := (q_and rfl rfl).trans (zand_t rfl)
theorem r25_45 : zR d 25 Q 45 lv (.int x :: st) h = if x = 0 then zR d 25 Q 48 lv st h else zR d 25 Q 55 lv st h := q_if rfl rfl
theorem r25_48 : zR d 25 Q 48 (some (.ref c) :: l) st h = zR d 25 Q 49 (some (.ref c) :: l) (.ref c :: st) h := q_in rfl rfl
theorem r25_49 : zR d 25 Q 49 lv [.ref 7] h = zM d 28 [.ref 7] h (fun r h' => zR d 25 Q 52 lv (r.toList ++ []) h') := (q_clV rfl rfl (Nat.le_of_ble_eq_true rfl)).trans (zand_t ⟨rfl, Nat.le_of_ble_eq_true rfl⟩)
theorem r25_52 : zR d 25 Q 52 lv st h = zR d 25 Q 129 lv st h := q_in rfl rfl
theorem r25_55 : zR d 25 Q 55 (some (.ref c) :: l) st h = zR d 25 Q 56 (some (.ref c) :: l) (.ref c :: st) h := q_in rfl rfl
theorem r25_56 : zR d 25 Q 56 lv (.ref 7 :: st) h = zR d 25 Q 59 lv (.int (h 7 4) :: st) h := (q_and rfl rfl).trans (zand_t rfl)
theorem r25_59 : zR d 25 Q 59 lv st h = zR d 25 Q 61 lv (.int 33 :: st) h := q_in rfl rfl
theorem r25_61 : zR d 25 Q 61 lv (.int z :: .int x :: st) h = if x = z then zR d 25 Q 64 lv st h else zR d 25 Q 91 lv st h := q_if rfl rfl
theorem r25_64 : zR d 25 Q 64 (o0 :: o1 :: some (.int x) :: l) st h = zR d 25 Q 65 (o0 :: o1 :: some (.int x) :: l) (.int x :: st) h := q_in rfl rfl
theorem r25_65 : zR d 25 Q 65 lv st h = zR d 25 Q 67 lv (.int 8 :: st) h := q_in rfl rfl
theorem r25_67 : zR d 25 Q 67 lv (.int z :: .int x :: st) h = if x < z then zR d 25 Q 70 lv st h else zR d 25 Q 91 lv st h := q_if rfl rfl
theorem r25_70 : zR d 25 Q 70 (some (.ref c) :: l) st h = zR d 25 Q 71 (some (.ref c) :: l) (.ref c :: st) h := q_in rfl rfl
theorem r25_71 : zR d 25 Q 71 lv [.ref 7] h = zM d 11 [.ref 7] h (fun r h' => zR d 25 Q 74 lv (r.toList ++ []) h') := (q_clV rfl rfl (Nat.le_of_ble_eq_true rfl)).trans (zand_t ⟨rfl, Nat.le_of_ble_eq_true rfl⟩)
theorem r25_74 : zR d 25 Q 74 (some (.ref c) :: l) st h = zR d 25 Q 75 (some (.ref c) :: l) (.ref c :: st) h := q_in rfl rfl
theorem r25_75 : zR d 25 Q 75 (o0 :: some (.int x) :: l) st h = zR d 25 Q 76 (o0 :: some (.int x) :: l) (.int x :: st) h := q_in rfl rfl
theorem r25_76 : zR d 25 Q 76 (o0 :: o1 :: some (.int x) :: l) st h = zR d 25 Q 77 (o0 :: o1 :: some (.int x) :: l) (.int x :: st) h := q_in rfl rfl
theorem r25_77 : zR d 25 Q 77 lv st h = zR d 25 Q 78 lv (.int 1 :: st) h := q_in rfl rfl
theorem r25_78 : zR d 25 Q 78 lv (.int z :: .int x :: st) h = zR d 25 Q 79 lv (.int (x + z) :: st) h := q_in rfl rfl
theorem r25_79 : zR d 25 Q 79 lv [.int x1, .int x0, .ref 7] h = zM d 25 [.ref 7, .int x0, .int x1] h (fun r h' => zR d 25 Q 82 lv (r.toList ++ []) h') := (q_clV rfl rfl (Nat.le_of_ble_eq_true rfl)).trans (zand_t ⟨rfl, Nat.le_of_ble_eq_true rfl⟩)
theorem r25_82 : zR d 25 Q 82 (some (.ref c) :: l) st h = zR d 25 Q 83 (some (.ref c) :: l) (.ref c :: st) h := q_in rfl rfl
theorem r25_83 : zR d 25 Q 83 lv st h = zR d 25 Q 85 lv (.int (-33) :: st) h := q_in rfl rfl
theorem r25_85 : zR d 25 Q 85 lv [.int x0, .ref 7] h = zM d 17 [.ref 7, .int x0] h (fun r h' => zR d 25 Q 88 lv (r.toList ++ []) h') := (q_clV rfl rfl (Nat.le_of_ble_eq_true rfl)).trans (zand_t ⟨rfl, Nat.le_of_ble_eq_true rfl⟩)
theorem r25_88 : zR d 25 Q 88 lv st h = zR d 25 Q 129 lv st h := q_in rfl rfl
theorem r25_91 : zR d 25 Q 91 (some (.ref c) :: l) st h = zR d 25 Q 92 (some (.ref c) :: l) (.ref c :: st) h := q_in rfl rfl
theorem r25_92 : zR d 25 Q 92 lv (.ref 7 :: st) h = zR d 25 Q 95 lv (.int (h 7 4) :: st) h := (q_and rfl rfl).trans (zand_t rfl)
theorem r25_95 : zR d 25 Q 95 lv st h = zR d 25 Q 97 lv (.int 40 :: st) h := q_in rfl rfl
theorem r25_97 : zR d 25 Q 97 lv (.int z :: .int x :: st) h = if x = z then zR d 25 Q 100 lv st h else zR d 25 Q 125 lv st h := q_if rfl rfl
theorem r25_100 : zR d 25 Q 100 (o0 :: some (.int x) :: l) st h = zR d 25 Q 101 (o0 :: some (.int x) :: l) (.int x :: st) h := q_in rfl rfl
theorem r25_101 : zR d 25 Q 101 lv st h = zR d 25 Q 103 lv (.int 8 :: st) h := q_in rfl rfl
theorem r25_103 : zR d 25 Q 103 lv (.int z :: .int x :: st) h = if x < z then zR d 25 Q 106 lv st h else zR d 25 Q 125 lv st h := q_if rfl rfl
theorem r25_106 : zR d 25 Q 106 (some (.ref c) :: l) st h = zR d 25 Q 107 (some (.ref c) :: l) (.ref c :: st) h := q_in rfl rfl
theorem r25_107 : zR d 25 Q 107 lv [.ref 7] h = zM d 11 [.ref 7] h (fun r h' => zR d 25 Q 110 lv (r.toList ++ []) h') := (q_clV rfl rfl (Nat.le_of_ble_eq_true rfl)).trans (zand_t ⟨rfl, Nat.le_of_ble_eq_true rfl⟩)
theorem r25_110 : zR d 25 Q 110 (some (.ref c) :: l) st h = zR d 25 Q 111 (some (.ref c) :: l) (.ref c :: st) h := q_in rfl rfl
theorem r25_111 : zR d 25 Q 111 (o0 :: some (.int x) :: l) st h = zR d 25 Q 112 (o0 :: some (.int x) :: l) (.int x :: st) h := q_in rfl rfl
theorem r25_112 : zR d 25 Q 112 lv st h = zR d 25 Q 113 lv (.int 1 :: st) h := q_in rfl rfl
theorem r25_113 : zR d 25 Q 113 lv (.int z :: .int x :: st) h = zR d 25 Q 114 lv (.int (x + z) :: st) h := q_in rfl rfl
theorem r25_114 : zR d 25 Q 114 (o0 :: o1 :: some (.int x) :: l) st h = zR d 25 Q 115 (o0 :: o1 :: some (.int x) :: l) (.int x :: st) h := q_in rfl rfl
theorem r25_115 : zR d 25 Q 115 lv [.int x1, .int x0, .ref 7] h = zM d 20 [.ref 7, .int x0, .int x1] h (fun r h' => zR d 25 Q 118 lv (r.toList ++ []) h') := (q_clV rfl rfl (Nat.le_of_ble_eq_true rfl)).trans (zand_t ⟨rfl, Nat.le_of_ble_eq_true rfl⟩)
theorem r25_118 : zR d 25 Q 118 (some (.ref c) :: l) st h = zR d 25 Q 119 (some (.ref c) :: l) (.ref c :: st) h := q_in rfl rfl
theorem r25_119 : zR d 25 Q 119 lv [.ref 7] h = zM d 26 [.ref 7] h (fun r h' => zR d 25 Q 122 lv (r.toList ++ []) h') := (q_clV rfl rfl (Nat.le_of_ble_eq_true rfl)).trans (zand_t ⟨rfl, Nat.le_of_ble_eq_true rfl⟩)
theorem r25_122 : zR d 25 Q 122 lv st h = zR d 25 Q 129 lv st h := q_in rfl rfl
theorem r25_125 : zR d 25 Q 125 (some (.ref c) :: l) st h = zR d 25 Q 126 (some (.ref c) :: l) (.ref c :: st) h := q_in rfl rfl
theorem r25_126 : zR d 25 Q 126 lv [.ref 7] h = zM d 15 [.ref 7] h (fun r h' => zR d 25 Q 129 lv (r.toList ++ []) h') := (q_clV rfl rfl (Nat.le_of_ble_eq_true rfl)).trans (zand_t ⟨rfl, Nat.le_of_ble_eq_true rfl⟩)
theorem r25_129 : zR d 25 Q 129 lv [] h = Q none h := q_ret rfl rfl
theorem r26_0 : zR d 26 Q 0 (some (.ref c) :: l) st h = zR d 26 Q 1 (some (.ref c) :: l) (.ref c :: st) h := q_in rfl rfl
theorem r26_1 : zR d 26 Q 1 lv st h = zR d 26 Q 3 lv (.int 41 :: st) h := q_in rfl rfl
theorem r26_3 : zR d 26 Q 3 lv [.int x0, .ref 7] h = zM d 16 [.ref 7, .int x0] h (fun r h' => zR d 26 Q 6 lv (r.toList ++ []) h') := (q_clV rfl rfl (Nat.le_of_ble_eq_true rfl)).trans (zand_t ⟨rfl, Nat.le_of_ble_eq_true rfl⟩)
theorem r26_6 : zR d 26 Q 6 lv (.int x :: st) h = if x = 0 then zR d 26 Q 16 lv st h else zR d 26 Q 9 lv st h := q_if rfl rfl
theorem r26_9 : zR d 26 Q 9 (some (.ref c) :: l) st h = zR d 26 Q 10 (some (.ref c) :: l) (.ref c :: st) h := q_in rfl rfl
theorem r26_10 : zR d 26 Q 10 lv [.ref 7] h = zM d 11 [.ref 7] h (fun r h' => zR d 26 Q 13 lv (r.toList ++ []) h') := (q_clV rfl rfl (Nat.le_of_ble_eq_true rfl)).trans (zand_t ⟨rfl, Nat.le_of_ble_eq_true rfl⟩)
theorem r26_13 : zR d 26 Q 13 lv st h = zR d 26 Q 20 lv st h := q_in rfl rfl
theorem r26_16 : zR d 26 Q 16 (some (.ref c) :: l) st h = zR d 26 Q 17 (some (.ref c) :: l) (.ref c :: st) h := q_in rfl rfl
theorem r26_17 : zR d 26 Q 17 lv [.ref 7] h = zM d 15 [.ref 7] h (fun r h' => zR d 26 Q 20 lv (r.toList ++ []) h') := (q_clV rfl rfl (Nat.le_of_ble_eq_true rfl)).trans (zand_t ⟨rfl, Nat.le_of_ble_eq_true rfl⟩)
theorem r26_20 : zR d 26 Q 20 lv [] h = Q none h := q_ret rfl rfl
theorem r27_0 : zR d 27 Q 0 (some (.ref c) :: l) st h = zR d 27 Q 1 (some (.ref c) :: l) (.ref c :: st) h := q_in rfl rfl
theorem r27_1 : zR d 27 Q 1 lv (.ref 7 :: st) h = zR d 27 Q 4 lv (.int (h 7 3) :: st) h := (q_and rfl rfl).trans (zand_t rfl)
theorem r27_4 : zR d 27 Q 4 (some (.ref c) :: l) st h = zR d 27 Q 5 (some (.ref c) :: l) (.ref c :: st) h := q_in rfl rfl
theorem r27_5 : zR d 27 Q 5 lv (.ref 7 :: st) h = zR d 27 Q 8 lv (.int (h 7 2) :: st) h := (q_and rfl rfl).trans (zand_t rfl)
theorem r27_8 : zR d 27 Q 8 lv (.int z :: .int x :: st) h = zR d 27 Q 9 lv (.int (x - z) :: st) h := q_in rfl rfl
theorem r27_9 : zR d 27 Q 9 lv st h = zR d 27 Q 10 lv (.int 4 :: st) h := q_in rfl rfl
theorem r27_10 : zR d 27 Q 10 lv (.int z :: .int x :: st) h = if x ≤ z then zR d 27 Q 18 lv st h else zR d 27 Q 13 lv st h := q_if rfl rfl
theorem r27_13 : zR d 27 Q 13 (some (.ref c) :: l) st h = zR d 27 Q 14 (some (.ref c) :: l) (.ref c :: st) h := q_in rfl rfl
theorem r27_14 : zR d 27 Q 14 lv [.ref 7] h = zM d 15 [.ref 7] h (fun r h' => zR d 27 Q 17 lv (r.toList ++ []) h') := (q_clV rfl rfl (Nat.le_of_ble_eq_true rfl)).trans (zand_t ⟨rfl, Nat.le_of_ble_eq_true rfl⟩)
theorem r27_17 : zR d 27 Q 17 lv [] h = Q none h := q_ret rfl rfl
theorem r27_18 : zR d 27 Q 18 lv st h = zR d 27 Q 19 lv (.int 0 :: st) h := q_in rfl rfl
theorem r27_19 : zR d 27 Q 19 (o0 :: o1 :: l) (.int x :: st) h = zR d 27 Q 20 (o0 :: some (.int x) :: l) st h := q_in rfl rfl
theorem r27_20 : zR d 27 Q 20 (some (.ref c) :: l) st h = zR d 27 Q 21 (some (.ref c) :: l) (.ref c :: st) h := q_in rfl rfl
theorem r27_21 : zR d 27 Q 21 lv (.ref 7 :: st) h = zR d 27 Q 24 lv (.int (h 7 2) :: st) h := (q_and rfl rfl).trans (zand_t rfl)
theorem r27_24 : zR d 27 Q 24 (o0 :: o1 :: o2 :: l) (.int x :: st) h = zR d 27 Q 25 (o0 :: o1 :: some (.int x) :: l) st h := q_in rfl rfl
theorem r27_25 : zR d 27 Q 25 (o0 :: o1 :: some (.int x) :: l) st h = zR d 27 Q 26 (o0 :: o1 :: some (.int x) :: l) (.int x :: st) h := q_in rfl rfl
theorem r27_26 : zR d 27 Q 26 (some (.ref c) :: l) st h = zR d 27 Q 27 (some (.ref c) :: l) (.ref c :: st) h := q_in rfl rfl
theorem r27_27 : zR d 27 Q 27 lv (.ref 7 :: st) h = zR d 27 Q 30 lv (.int (h 7 3) :: st) h := (q_and rfl rfl).trans (zand_t rfl)
theorem r27_30 : zR d 27 Q 30 lv (.int z :: .int x :: st) h = if x < z then zR d 27 Q 33 lv st h else zR d 27 Q 53 lv st h := q_if rfl rfl
theorem r27_33 : zR d 27 Q 33 (o0 :: some (.int x) :: l) st h = zR d 27 Q 34 (o0 :: some (.int x) :: l) (.int x :: st) h := q_in rfl rfl
theorem r27_34 : zR d 27 Q 34 lv st h = zR d 27 Q 36 lv (.int 10 :: st) h := q_in rfl rfl
theorem r27_36 : zR d 27 Q 36 lv (.int z :: .int x :: st) h = zR d 27 Q 37 lv (.int (x * z) :: st) h := q_in rfl rfl
theorem r27_37 : zR d 27 Q 37 (some (.ref c) :: l) st h = zR d 27 Q 38 (some (.ref c) :: l) (.ref c :: st) h := q_in rfl rfl
theorem r27_38 : zR d 27 Q 38 (o0 :: o1 :: some (.int x) :: l) st h = zR d 27 Q 39 (o0 :: o1 :: some (.int x) :: l) (.int x :: st) h := q_in rfl rfl
theorem r27_39 : zR d 27 Q 39 lv [.int x0, .ref 7, .int y0] h = zM d 13 [.ref 7, .int x0] h (fun r h' => zR d 27 Q 42 lv (r.toList ++ [.int y0]) h') := (q_clV rfl rfl (Nat.le_of_ble_eq_true rfl)).trans (zand_t ⟨rfl, Nat.le_of_ble_eq_true rfl⟩)
theorem r27_42 : zR d 27 Q 42 lv st h = zR d 27 Q 44 lv (.int 48 :: st) h := q_in rfl rfl
theorem r27_44 : zR d 27 Q 44 lv (.int z :: .int x :: st) h = zR d 27 Q 45 lv (.int (x - z) :: st) h := q_in rfl rfl
theorem r27_45 : zR d 27 Q 45 lv (.int z :: .int x :: st) h = zR d 27 Q 46 lv (.int (x + z) :: st) h := q_in rfl rfl
theorem r27_46 : zR d 27 Q 46 (o0 :: o1 :: l) (.int x :: st) h = zR d 27 Q 47 (o0 :: some (.int x) :: l) st h := q_in rfl rfl
theorem r27_47 : zR d 27 Q 47 (o0 :: o1 :: some (.int x) :: l) st h = zR d 27 Q 50 (o0 :: o1 :: some (.int (x + 1)) :: l) st h := q_in rfl rfl
theorem r27_50 : zR d 27 Q 50 lv st h = zR d 27 Q 25 lv st h := q_in rfl rfl
theorem r27_53 : zR d 27 Q 53 (some (.ref c) :: l) st h = zR d 27 Q 54 (some (.ref c) :: l) (.ref c :: st) h := q_in rfl rfl
theorem r27_54 : zR d 27 Q 54 (o0 :: some (.int x) :: l) st h = zR d 27 Q 55 (o0 :: some (.int x) :: l) (.int x :: st) h := q_in rfl rfl
theorem r27_55 : zR d 27 Q 55 lv [.int x0, .ref 7] h = zM d 17 [.ref 7, .int x0] h (fun r h' => zR d 27 Q 58 lv (r.toList ++ []) h') := (q_clV rfl rfl (Nat.le_of_ble_eq_true rfl)).trans (zand_t ⟨rfl, Nat.le_of_ble_eq_true rfl⟩)
theorem r27_58 : zR d 27 Q 58 (some (.ref c) :: l) st h = zR d 27 Q 59 (some (.ref c) :: l) (.ref c :: st) h := q_in rfl rfl
theorem r27_59 : zR d 27 Q 59 lv (.ref c :: st) h = zR d 27 Q 60 lv (.ref c :: .ref c :: st) h := q_in rfl rfl
theorem r27_60 : zR d 27 Q 60 lv (.ref 7 :: st) h = zR d 27 Q 63 lv (.int (h 7 10) :: st) h := (q_and rfl rfl).trans (zand_t rfl)
theorem r27_63 : zR d 27 Q 63 lv st h = zR d 27 Q 64 lv (.int 1 :: st) h := q_in rfl rfl
theorem r27_64 : zR d 27 Q 64 lv (.int z :: .int x :: st) h = zR d 27 Q 65 lv (.int (x + z) :: st) h := q_in rfl rfl
theorem r27_65 : zR d 27 Q 65 lv (.int x :: .ref 7 :: st) h = zR d 27 Q 68 lv st (zhr h 7 (upd (h 7) 10 x)) := (q_and rfl rfl).trans (zand_t ⟨rfl, Or.inl rfl⟩)
theorem r27_68 : zR d 27 Q 68 (some (.ref c) :: l) st h = zR d 27 Q 69 (some (.ref c) :: l) (.ref c :: st) h := q_in rfl rfl
theorem r27_69 : zR d 27 Q 69 lv [.ref 7] h = zM d 11 [.ref 7] h (fun r h' => zR d 27 Q 72 lv (r.toList ++ []) h') := (q_clV rfl rfl (Nat.le_of_ble_eq_true rfl)).trans (zand_t ⟨rfl, Nat.le_of_ble_eq_true rfl⟩)
theorem r27_72 : zR d 27 Q 72 lv [] h = Q none h := q_ret rfl rfl
theorem r28_0 : zR d 28 Q 0 (some (.ref c) :: l) st h = zR d 28 Q 1 (some (.ref c) :: l) (.ref c :: st) h := q_in rfl rfl
theorem r28_1 : zR d 28 Q 1 lv [.ref 7] h = zM d 29 [.ref 7] h (fun r h' => zR d 28 Q 4 lv (r.toList ++ []) h') := (q_clV rfl rfl (Nat.le_of_ble_eq_true rfl)).trans (zand_t ⟨rfl, Nat.le_of_ble_eq_true rfl⟩)
theorem r28_4 : zR d 28 Q 4 (o0 :: o1 :: l) (.int x :: st) h = zR d 28 Q 5 (o0 :: some (.int x) :: l) st h := q_in rfl rfl
theorem r28_5 : zR d 28 Q 5 (o0 :: some (.int x) :: l) st h = zR d 28 Q 6 (o0 :: some (.int x) :: l) (.int x :: st) h := q_in rfl rfl
theorem r28_6 : zR d 28 Q 6 lv st h = zR d 28 Q 7 lv (.int (-1) :: st) h := q_in rfl rfl
theorem r28_7 : zR d 28 Q 7 lv (.int z :: .int x :: st) h = if x = z then zR d 28 Q 10 lv st h else zR d 28 Q 15 lv st h := q_if rfl rfl
theorem r28_10 : zR d 28 Q 10 (some (.ref c) :: l) st h = zR d 28 Q 11 (some (.ref c) :: l) (.ref c :: st) h := q_in rfl rfl
theorem r28_11 : zR d 28 Q 11 lv [.ref 7] h = zM d 15 [.ref 7] h (fun r h' => zR d 28 Q 14 lv (r.toList ++ []) h') := (q_clV rfl rfl (Nat.le_of_ble_eq_true rfl)).trans (zand_t ⟨rfl, Nat.le_of_ble_eq_true rfl⟩)
theorem r28_14 : zR d 28 Q 14 lv [] h = Q none h := q_ret rfl rfl
theorem r28_15 : zR d 28 Q 15 (some (.ref c) :: l) st h = zR d 28 Q 16 (some (.ref c) :: l) (.ref c :: st) h := q_in rfl rfl
theorem r28_16 : zR d 28 Q 16 lv st h = zR d 28 Q 17 lv (.int (-1) :: st) h := q_in rfl rfl
theorem r28_17 : zR d 28 Q 17 (o0 :: some (.int x) :: l) st h = zR d 28 Q 18 (o0 :: some (.int x) :: l) (.int x :: st) h := q_in rfl rfl
theorem r28_18 : zR d 28 Q 18 lv (.int z :: .int x :: st) h = zR d 28 Q 19 lv (.int (x - z) :: st) h := q_in rfl rfl
theorem r28_19 : zR d 28 Q 19 lv [.int x0, .ref 7] h = zM d 17 [.ref 7, .int x0] h (fun r h' => zR d 28 Q 22 lv (r.toList ++ []) h') := (q_clV rfl rfl (Nat.le_of_ble_eq_true rfl)).trans (zand_t ⟨rfl, Nat.le_of_ble_eq_true rfl⟩)
theorem r28_22 : zR d 28 Q 22 (some (.ref c) :: l) st h = zR d 28 Q 23 (some (.ref c) :: l) (.ref c :: st) h := q_in rfl rfl
theorem r28_23 : zR d 28 Q 23 lv (.ref c :: st) h = zR d 28 Q 24 lv (.ref c :: .ref c :: st) h := q_in rfl rfl
theorem r28_24 : zR d 28 Q 24 lv (.ref 7 :: st) h = zR d 28 Q 27 lv (.int (h 7 10) :: st) h := (q_and rfl rfl).trans (zand_t rfl)
theorem r28_27 : zR d 28 Q 27 lv st h = zR d 28 Q 28 lv (.int 1 :: st) h := q_in rfl rfl
theorem r28_28 : zR d 28 Q 28 lv (.int z :: .int x :: st) h = zR d 28 Q 29 lv (.int (x + z) :: st) h := q_in rfl rfl
theorem r28_29 : zR d 28 Q 29 lv (.int x :: .ref 7 :: st) h = zR d 28 Q 32 lv st (zhr h 7 (upd (h 7) 10 x)) := (q_and rfl rfl).trans (zand_t ⟨rfl, Or.inl rfl⟩)
theorem r28_32 : zR d 28 Q 32 (some (.ref c) :: l) st h = zR d 28 Q 33 (some (.ref c) :: l) (.ref c :: st) h := q_in rfl rfl
theorem r28_33 : zR d 28 Q 33 lv [.ref 7] h = zM d 11 [.ref 7] h (fun r h' => zR d 28 Q 36 lv (r.toList ++ []) h') := (q_clV rfl rfl (Nat.le_of_ble_eq_true rfl)).trans (zand_t ⟨rfl, Nat.le_of_ble_eq_true rfl⟩)
theorem r28_36 : zR d 28 Q 36 lv [] h = Q none h := q_ret rfl rfl
end
end
