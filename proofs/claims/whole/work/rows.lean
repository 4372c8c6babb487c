section
-- ===== PART A: goes FIRST, ahead of the names: the tables' words, and 'selects' of the private methods out of them =====
/-- a private method of a class that the tables say can be made, by its rows of tables_1 -/
def lw_okq (q : MethodName × Nat) : Prop := (q.1.cls ≠ "java/lang/invoke/MethodHandle" ∧ q.1.cls ≠ "java/lang/invoke/VarHandle") ∧ Cond.instantiable q.1.cls q.2 ∈ tables_1 ∧ Cond.privateMethod q.1 ∈ tables_1 ∧ Cond.instanceMethod q.1 ∈ tables_1
theorem lw_p0 : lw_okq (⟨"RopeFerry$State", "mostUrging", "(I)I"⟩, 15) := ⟨⟨by decide +kernel, by decide +kernel⟩, List.mem_of_getElem? (i := 100) (by decide +kernel), List.mem_of_getElem? (i := 369) (by decide +kernel), List.mem_of_getElem? (i := 370) (by decide +kernel)⟩
theorem lw_p1 : lw_okq (⟨"RopeFerry$State", "waitsForMore", "()Z"⟩, 15) := ⟨⟨by decide +kernel, by decide +kernel⟩, List.mem_of_getElem? (i := 100) (by decide +kernel), List.mem_of_getElem? (i := 401) (by decide +kernel), List.mem_of_getElem? (i := 402) (by decide +kernel)⟩
theorem lw_p2 : lw_okq (⟨"RopeFerry$State", "isDoctorHere", "()Z"⟩, 15) := ⟨⟨by decide +kernel, by decide +kernel⟩, List.mem_of_getElem? (i := 100) (by decide +kernel), List.mem_of_getElem? (i := 409) (by decide +kernel), List.mem_of_getElem? (i := 410) (by decide +kernel)⟩
theorem lw_p3 : lw_okq (⟨"RopeFerry$State", "crosses", "(I)V"⟩, 15) := ⟨⟨by decide +kernel, by decide +kernel⟩, List.mem_of_getElem? (i := 100) (by decide +kernel), List.mem_of_getElem? (i := 421) (by decide +kernel), List.mem_of_getElem? (i := 422) (by decide +kernel)⟩
theorem lw_p4 : lw_okq (⟨"RopeFerry$State", "setOn", "(I)I"⟩, 15) := ⟨⟨by decide +kernel, by decide +kernel⟩, List.mem_of_getElem? (i := 100) (by decide +kernel), List.mem_of_getElem? (i := 447) (by decide +kernel), List.mem_of_getElem? (i := 448) (by decide +kernel)⟩
theorem lw_p5 : lw_okq (⟨"RopeFerry$State", "mayCross", "(I)Z"⟩, 15) := ⟨⟨by decide +kernel, by decide +kernel⟩, List.mem_of_getElem? (i := 100) (by decide +kernel), List.mem_of_getElem? (i := 451) (by decide +kernel), List.mem_of_getElem? (i := 452) (by decide +kernel)⟩
theorem lw_p6 : lw_okq (⟨"RopeFerry", "sheetAt", "(I)LRopeFerry$Sheet;"⟩, 10) := ⟨⟨by decide +kernel, by decide +kernel⟩, List.mem_of_getElem? (i := 17) (by decide +kernel), List.mem_of_getElem? (i := 498) (by decide +kernel), List.mem_of_getElem? (i := 499) (by decide +kernel)⟩
theorem lw_p7 : lw_okq (⟨"RopeFerry", "differences", "(LRopeFerry$Sheet;I)I"⟩, 10) := ⟨⟨by decide +kernel, by decide +kernel⟩, List.mem_of_getElem? (i := 17) (by decide +kernel), List.mem_of_getElem? (i := 507) (by decide +kernel), List.mem_of_getElem? (i := 508) (by decide +kernel)⟩
theorem lw_p8 : lw_okq (⟨"RopeFerry$Reader", "goAhead", "()V"⟩, 11) := ⟨⟨by decide +kernel, by decide +kernel⟩, List.mem_of_getElem? (i := 25) (by decide +kernel), List.mem_of_getElem? (i := 547) (by decide +kernel), List.mem_of_getElem? (i := 548) (by decide +kernel)⟩
theorem lw_p9 : lw_okq (⟨"RopeFerry$Reader", "isWord", "()Z"⟩, 11) := ⟨⟨by decide +kernel, by decide +kernel⟩, List.mem_of_getElem? (i := 25) (by decide +kernel), List.mem_of_getElem? (i := 551) (by decide +kernel), List.mem_of_getElem? (i := 552) (by decide +kernel)⟩
theorem lw_p10 : lw_okq (⟨"RopeFerry$Reader", "byteAt", "(I)I"⟩, 11) := ⟨⟨by decide +kernel, by decide +kernel⟩, List.mem_of_getElem? (i := 25) (by decide +kernel), List.mem_of_getElem? (i := 555) (by decide +kernel), List.mem_of_getElem? (i := 556) (by decide +kernel)⟩
theorem lw_p11 : lw_okq (⟨"RopeFerry$Reader", "sortAt", "(I)I"⟩, 11) := ⟨⟨by decide +kernel, by decide +kernel⟩, List.mem_of_getElem? (i := 25) (by decide +kernel), List.mem_of_getElem? (i := 559) (by decide +kernel), List.mem_of_getElem? (i := 560) (by decide +kernel)⟩
theorem lw_p12 : lw_okq (⟨"RopeFerry$Reader", "readKey", "()V"⟩, 11) := ⟨⟨by decide +kernel, by decide +kernel⟩, List.mem_of_getElem? (i := 25) (by decide +kernel), List.mem_of_getElem? (i := 565) (by decide +kernel), List.mem_of_getElem? (i := 566) (by decide +kernel)⟩
theorem lw_p13 : lw_okq (⟨"RopeFerry$Reader", "spells", "(Ljava/lang/String;)Z"⟩, 11) := ⟨⟨by decide +kernel, by decide +kernel⟩, List.mem_of_getElem? (i := 25) (by decide +kernel), List.mem_of_getElem? (i := 570) (by decide +kernel), List.mem_of_getElem? (i := 571) (by decide +kernel)⟩
theorem lw_p14 : lw_okq (⟨"RopeFerry$Reader", "meetsFault", "()V"⟩, 11) := ⟨⟨by decide +kernel, by decide +kernel⟩, List.mem_of_getElem? (i := 25) (by decide +kernel), List.mem_of_getElem? (i := 624) (by decide +kernel), List.mem_of_getElem? (i := 625) (by decide +kernel)⟩
theorem lw_p15 : lw_okq (⟨"RopeFerry$Reader", "readOr", "(II)V"⟩, 11) := ⟨⟨by decide +kernel, by decide +kernel⟩, List.mem_of_getElem? (i := 25) (by decide +kernel), List.mem_of_getElem? (i := 628) (by decide +kernel), List.mem_of_getElem? (i := 629) (by decide +kernel)⟩
def lw_privs_1 : List (MethodName × Nat) := [(⟨"RopeFerry$State", "mostUrging", "(I)I"⟩, 15), (⟨"RopeFerry$State", "waitsForMore", "()Z"⟩, 15), (⟨"RopeFerry$State", "isDoctorHere", "()Z"⟩, 15), (⟨"RopeFerry$State", "crosses", "(I)V"⟩, 15), (⟨"RopeFerry$State", "setOn", "(I)I"⟩, 15), (⟨"RopeFerry$State", "mayCross", "(I)Z"⟩, 15), (⟨"RopeFerry", "sheetAt", "(I)LRopeFerry$Sheet;"⟩, 10), (⟨"RopeFerry", "differences", "(LRopeFerry$Sheet;I)I"⟩, 10), (⟨"RopeFerry$Reader", "goAhead", "()V"⟩, 11), (⟨"RopeFerry$Reader", "isWord", "()Z"⟩, 11), (⟨"RopeFerry$Reader", "byteAt", "(I)I"⟩, 11), (⟨"RopeFerry$Reader", "sortAt", "(I)I"⟩, 11), (⟨"RopeFerry$Reader", "readKey", "()V"⟩, 11), (⟨"RopeFerry$Reader", "spells", "(Ljava/lang/String;)Z"⟩, 11), (⟨"RopeFerry$Reader", "meetsFault", "()V"⟩, 11), (⟨"RopeFerry$Reader", "readOr", "(II)V"⟩, 11)]
theorem lw_r1 : ∀ q ∈ lw_privs_1, lw_okq q := List.forall_mem_cons.mpr ⟨lw_p0, List.forall_mem_cons.mpr ⟨lw_p1, List.forall_mem_cons.mpr ⟨lw_p2, List.forall_mem_cons.mpr ⟨lw_p3, List.forall_mem_cons.mpr ⟨lw_p4, List.forall_mem_cons.mpr ⟨lw_p5, List.forall_mem_cons.mpr ⟨lw_p6, List.forall_mem_cons.mpr ⟨lw_p7, List.forall_mem_cons.mpr ⟨lw_p8, List.forall_mem_cons.mpr ⟨lw_p9, List.forall_mem_cons.mpr ⟨lw_p10, List.forall_mem_cons.mpr ⟨lw_p11, List.forall_mem_cons.mpr ⟨lw_p12, List.forall_mem_cons.mpr ⟨lw_p13, List.forall_mem_cons.mpr ⟨lw_p14, List.forall_mem_cons.mpr ⟨lw_p15, fun _ h => absurd h List.not_mem_nil⟩⟩⟩⟩⟩⟩⟩⟩⟩⟩⟩⟩⟩⟩⟩⟩
theorem lw_p16 : lw_okq (⟨"RopeFerry$Reader", "readAnd", "(II)V"⟩, 11) := ⟨⟨by decide +kernel, by decide +kernel⟩, List.mem_of_getElem? (i := 25) (by decide +kernel), List.mem_of_getElem? (i := 632) (by decide +kernel), List.mem_of_getElem? (i := 633) (by decide +kernel)⟩
theorem lw_p17 : lw_okq (⟨"RopeFerry$Reader", "readTest", "(II)V"⟩, 11) := ⟨⟨by decide +kernel, by decide +kernel⟩, List.mem_of_getElem? (i := 25) (by decide +kernel), List.mem_of_getElem? (i := 636) (by decide +kernel), List.mem_of_getElem? (i := 637) (by decide +kernel)⟩
theorem lw_p18 : lw_okq (⟨"RopeFerry$Reader", "readSum", "(II)V"⟩, 11) := ⟨⟨by decide +kernel, by decide +kernel⟩, List.mem_of_getElem? (i := 25) (by decide +kernel), List.mem_of_getElem? (i := 640) (by decide +kernel), List.mem_of_getElem? (i := 641) (by decide +kernel)⟩
theorem lw_p19 : lw_okq (⟨"RopeFerry$Reader", "readTerm", "(II)V"⟩, 11) := ⟨⟨by decide +kernel, by decide +kernel⟩, List.mem_of_getElem? (i := 25) (by decide +kernel), List.mem_of_getElem? (i := 644) (by decide +kernel), List.mem_of_getElem? (i := 645) (by decide +kernel)⟩
theorem lw_p20 : lw_okq (⟨"RopeFerry$Reader", "readPiece", "(II)V"⟩, 11) := ⟨⟨by decide +kernel, by decide +kernel⟩, List.mem_of_getElem? (i := 25) (by decide +kernel), List.mem_of_getElem? (i := 648) (by decide +kernel), List.mem_of_getElem? (i := 649) (by decide +kernel)⟩
theorem lw_p21 : lw_okq (⟨"RopeFerry$Reader", "readNumber", "()V"⟩, 11) := ⟨⟨by decide +kernel, by decide +kernel⟩, List.mem_of_getElem? (i := 25) (by decide +kernel), List.mem_of_getElem? (i := 652) (by decide +kernel), List.mem_of_getElem? (i := 653) (by decide +kernel)⟩
theorem lw_p22 : lw_okq (⟨"RopeFerry$Reader", "puts", "(I)V"⟩, 11) := ⟨⟨by decide +kernel, by decide +kernel⟩, List.mem_of_getElem? (i := 25) (by decide +kernel), List.mem_of_getElem? (i := 656) (by decide +kernel), List.mem_of_getElem? (i := 657) (by decide +kernel)⟩
theorem lw_p23 : lw_okq (⟨"RopeFerry$Reader", "readName", "()V"⟩, 11) := ⟨⟨by decide +kernel, by decide +kernel⟩, List.mem_of_getElem? (i := 25) (by decide +kernel), List.mem_of_getElem? (i := 660) (by decide +kernel), List.mem_of_getElem? (i := 661) (by decide +kernel)⟩
theorem lw_p24 : lw_okq (⟨"RopeFerry$Reader", "name", "()I"⟩, 11) := ⟨⟨by decide +kernel, by decide +kernel⟩, List.mem_of_getElem? (i := 25) (by decide +kernel), List.mem_of_getElem? (i := 664) (by decide +kernel), List.mem_of_getElem? (i := 665) (by decide +kernel)⟩
theorem lw_p25 : lw_okq (⟨"RopeFerry$Reader", "readClosing", "()V"⟩, 11) := ⟨⟨by decide +kernel, by decide +kernel⟩, List.mem_of_getElem? (i := 25) (by decide +kernel), List.mem_of_getElem? (i := 670) (by decide +kernel), List.mem_of_getElem? (i := 671) (by decide +kernel)⟩
theorem lw_p26 : lw_okq (⟨"RopeFerry$Reader", "isSign", "(I)Z"⟩, 11) := ⟨⟨by decide +kernel, by decide +kernel⟩, List.mem_of_getElem? (i := 25) (by decide +kernel), List.mem_of_getElem? (i := 674) (by decide +kernel), List.mem_of_getElem? (i := 675) (by decide +kernel)⟩
theorem lw_p27 : lw_okq (⟨"RopeFerry", "slotAt", "(I)LRopeFerry$Slot;"⟩, 10) := ⟨⟨by decide +kernel, by decide +kernel⟩, List.mem_of_getElem? (i := 17) (by decide +kernel), List.mem_of_getElem? (i := 733) (by decide +kernel), List.mem_of_getElem? (i := 734) (by decide +kernel)⟩
theorem lw_p28 : lw_okq (⟨"RopeFerry", "isNumberAt", "(III)Z"⟩, 10) := ⟨⟨by decide +kernel, by decide +kernel⟩, List.mem_of_getElem? (i := 17) (by decide +kernel), List.mem_of_getElem? (i := 763) (by decide +kernel), List.mem_of_getElem? (i := 764) (by decide +kernel)⟩
theorem lw_p29 : lw_okq (⟨"RopeFerryModel", "comes", "(III)V"⟩, 33) := ⟨⟨by decide +kernel, by decide +kernel⟩, List.mem_of_getElem? (i := 780) (by decide +kernel), List.mem_of_getElem? (i := 897) (by decide +kernel), List.mem_of_getElem? (i := 898) (by decide +kernel)⟩
theorem lw_p30 : lw_okq (⟨"RopeFerryModel", "sets", "(III)V"⟩, 33) := ⟨⟨by decide +kernel, by decide +kernel⟩, List.mem_of_getElem? (i := 780) (by decide +kernel), List.mem_of_getElem? (i := 901) (by decide +kernel), List.mem_of_getElem? (i := 902) (by decide +kernel)⟩
theorem lw_p31 : lw_okq (⟨"RopeFerryModel", "isLoad", "(I)Z"⟩, 33) := ⟨⟨by decide +kernel, by decide +kernel⟩, List.mem_of_getElem? (i := 780) (by decide +kernel), List.mem_of_getElem? (i := 909) (by decide +kernel), List.mem_of_getElem? (i := 910) (by decide +kernel)⟩
def lw_privs_2 : List (MethodName × Nat) := [(⟨"RopeFerry$Reader", "readAnd", "(II)V"⟩, 11), (⟨"RopeFerry$Reader", "readTest", "(II)V"⟩, 11), (⟨"RopeFerry$Reader", "readSum", "(II)V"⟩, 11), (⟨"RopeFerry$Reader", "readTerm", "(II)V"⟩, 11), (⟨"RopeFerry$Reader", "readPiece", "(II)V"⟩, 11), (⟨"RopeFerry$Reader", "readNumber", "()V"⟩, 11), (⟨"RopeFerry$Reader", "puts", "(I)V"⟩, 11), (⟨"RopeFerry$Reader", "readName", "()V"⟩, 11), (⟨"RopeFerry$Reader", "name", "()I"⟩, 11), (⟨"RopeFerry$Reader", "readClosing", "()V"⟩, 11), (⟨"RopeFerry$Reader", "isSign", "(I)Z"⟩, 11), (⟨"RopeFerry", "slotAt", "(I)LRopeFerry$Slot;"⟩, 10), (⟨"RopeFerry", "isNumberAt", "(III)Z"⟩, 10), (⟨"RopeFerryModel", "comes", "(III)V"⟩, 33), (⟨"RopeFerryModel", "sets", "(III)V"⟩, 33), (⟨"RopeFerryModel", "isLoad", "(I)Z"⟩, 33)]
theorem lw_r2 : ∀ q ∈ lw_privs_2, lw_okq q := List.forall_mem_cons.mpr ⟨lw_p16, List.forall_mem_cons.mpr ⟨lw_p17, List.forall_mem_cons.mpr ⟨lw_p18, List.forall_mem_cons.mpr ⟨lw_p19, List.forall_mem_cons.mpr ⟨lw_p20, List.forall_mem_cons.mpr ⟨lw_p21, List.forall_mem_cons.mpr ⟨lw_p22, List.forall_mem_cons.mpr ⟨lw_p23, List.forall_mem_cons.mpr ⟨lw_p24, List.forall_mem_cons.mpr ⟨lw_p25, List.forall_mem_cons.mpr ⟨lw_p26, List.forall_mem_cons.mpr ⟨lw_p27, List.forall_mem_cons.mpr ⟨lw_p28, List.forall_mem_cons.mpr ⟨lw_p29, List.forall_mem_cons.mpr ⟨lw_p30, List.forall_mem_cons.mpr ⟨lw_p31, fun _ h => absurd h List.not_mem_nil⟩⟩⟩⟩⟩⟩⟩⟩⟩⟩⟩⟩⟩⟩⟩⟩
theorem lw_p32 : lw_okq (⟨"RopeFerryModel", "of", "(II)I"⟩, 33) := ⟨⟨by decide +kernel, by decide +kernel⟩, List.mem_of_getElem? (i := 780) (by decide +kernel), List.mem_of_getElem? (i := 913) (by decide +kernel), List.mem_of_getElem? (i := 914) (by decide +kernel)⟩
theorem lw_p33 : lw_okq (⟨"RopeFerryModel", "pays", "(I)I"⟩, 33) := ⟨⟨by decide +kernel, by decide +kernel⟩, List.mem_of_getElem? (i := 780) (by decide +kernel), List.mem_of_getElem? (i := 917) (by decide +kernel), List.mem_of_getElem? (i := 918) (by decide +kernel)⟩
theorem lw_p34 : lw_okq (⟨"RopeFerryModel", "counts", "(I)I"⟩, 33) := ⟨⟨by decide +kernel, by decide +kernel⟩, List.mem_of_getElem? (i := 780) (by decide +kernel), List.mem_of_getElem? (i := 921) (by decide +kernel), List.mem_of_getElem? (i := 922) (by decide +kernel)⟩
theorem lw_p35 : lw_okq (⟨"RopeFerryModel", "textAt", "(I)I"⟩, 33) := ⟨⟨by decide +kernel, by decide +kernel⟩, List.mem_of_getElem? (i := 780) (by decide +kernel), List.mem_of_getElem? (i := 925) (by decide +kernel), List.mem_of_getElem? (i := 926) (by decide +kernel)⟩
theorem lw_p36 : lw_okq (⟨"RopeFerryModel", "worked", "(I)I"⟩, 33) := ⟨⟨by decide +kernel, by decide +kernel⟩, List.mem_of_getElem? (i := 780) (by decide +kernel), List.mem_of_getElem? (i := 929) (by decide +kernel), List.mem_of_getElem? (i := 930) (by decide +kernel)⟩
theorem lw_p37 : lw_okq (⟨"RopeFerryModel", "takes", "(I)I"⟩, 33) := ⟨⟨by decide +kernel, by decide +kernel⟩, List.mem_of_getElem? (i := 780) (by decide +kernel), List.mem_of_getElem? (i := 939) (by decide +kernel), List.mem_of_getElem? (i := 940) (by decide +kernel)⟩
theorem lw_p38 : lw_okq (⟨"RopeFerryModel", "urges", "(I)I"⟩, 33) := ⟨⟨by decide +kernel, by decide +kernel⟩, List.mem_of_getElem? (i := 780) (by decide +kernel), List.mem_of_getElem? (i := 943) (by decide +kernel), List.mem_of_getElem? (i := 944) (by decide +kernel)⟩
theorem lw_p39 : lw_okq (⟨"RopeFerryModel", "worth", "(I)I"⟩, 33) := ⟨⟨by decide +kernel, by decide +kernel⟩, List.mem_of_getElem? (i := 780) (by decide +kernel), List.mem_of_getElem? (i := 947) (by decide +kernel), List.mem_of_getElem? (i := 948) (by decide +kernel)⟩
theorem lw_p40 : lw_okq (⟨"RopeFerryModel", "becomes", "(II)I"⟩, 33) := ⟨⟨by decide +kernel, by decide +kernel⟩, List.mem_of_getElem? (i := 780) (by decide +kernel), List.mem_of_getElem? (i := 963) (by decide +kernel), List.mem_of_getElem? (i := 964) (by decide +kernel)⟩
theorem lw_p41 : lw_okq (⟨"RopeFerryModel", "effect", "()I"⟩, 33) := ⟨⟨by decide +kernel, by decide +kernel⟩, List.mem_of_getElem? (i := 780) (by decide +kernel), List.mem_of_getElem? (i := 978) (by decide +kernel), List.mem_of_getElem? (i := 979) (by decide +kernel)⟩
theorem lw_p42 : lw_okq (⟨"RopeFerryModel", "minutes", "()I"⟩, 33) := ⟨⟨by decide +kernel, by decide +kernel⟩, List.mem_of_getElem? (i := 780) (by decide +kernel), List.mem_of_getElem? (i := 985) (by decide +kernel), List.mem_of_getElem? (i := 986) (by decide +kernel)⟩
theorem lw_p43 : lw_okq (⟨"RopeFerryModel", "pullOf", "(I)I"⟩, 33) := ⟨⟨by decide +kernel, by decide +kernel⟩, List.mem_of_getElem? (i := 780) (by decide +kernel), List.mem_of_getElem? (i := 1001) (by decide +kernel), List.mem_of_getElem? (i := 1002) (by decide +kernel)⟩
theorem lw_p44 : lw_okq (⟨"RopeFerryModel", "loads", "()I"⟩, 33) := ⟨⟨by decide +kernel, by decide +kernel⟩, List.mem_of_getElem? (i := 780) (by decide +kernel), List.mem_of_getElem? (i := 1009) (by decide +kernel), List.mem_of_getElem? (i := 1010) (by decide +kernel)⟩
theorem lw_p45 : lw_okq (⟨"RopeFerryModel", "nextUrging", "(I)I"⟩, 33) := ⟨⟨by decide +kernel, by decide +kernel⟩, List.mem_of_getElem? (i := 780) (by decide +kernel), List.mem_of_getElem? (i := 1013) (by decide +kernel), List.mem_of_getElem? (i := 1014) (by decide +kernel)⟩
theorem lw_p46 : lw_okq (⟨"RopeFerryModel", "drawn", "()I"⟩, 33) := ⟨⟨by decide +kernel, by decide +kernel⟩, List.mem_of_getElem? (i := 780) (by decide +kernel), List.mem_of_getElem? (i := 1022) (by decide +kernel), List.mem_of_getElem? (i := 1023) (by decide +kernel)⟩
theorem lw_p47 : lw_okq (⟨"RopeFerryModel", "goesOn", "()V"⟩, 33) := ⟨⟨by decide +kernel, by decide +kernel⟩, List.mem_of_getElem? (i := 780) (by decide +kernel), List.mem_of_getElem? (i := 1036) (by decide +kernel), List.mem_of_getElem? (i := 1037) (by decide +kernel)⟩
def lw_privs_3 : List (MethodName × Nat) := [(⟨"RopeFerryModel", "of", "(II)I"⟩, 33), (⟨"RopeFerryModel", "pays", "(I)I"⟩, 33), (⟨"RopeFerryModel", "counts", "(I)I"⟩, 33), (⟨"RopeFerryModel", "textAt", "(I)I"⟩, 33), (⟨"RopeFerryModel", "worked", "(I)I"⟩, 33), (⟨"RopeFerryModel", "takes", "(I)I"⟩, 33), (⟨"RopeFerryModel", "urges", "(I)I"⟩, 33), (⟨"RopeFerryModel", "worth", "(I)I"⟩, 33), (⟨"RopeFerryModel", "becomes", "(II)I"⟩, 33), (⟨"RopeFerryModel", "effect", "()I"⟩, 33), (⟨"RopeFerryModel", "minutes", "()I"⟩, 33), (⟨"RopeFerryModel", "pullOf", "(I)I"⟩, 33), (⟨"RopeFerryModel", "loads", "()I"⟩, 33), (⟨"RopeFerryModel", "nextUrging", "(I)I"⟩, 33), (⟨"RopeFerryModel", "drawn", "()I"⟩, 33), (⟨"RopeFerryModel", "goesOn", "()V"⟩, 33)]
theorem lw_r3 : ∀ q ∈ lw_privs_3, lw_okq q := List.forall_mem_cons.mpr ⟨lw_p32, List.forall_mem_cons.mpr ⟨lw_p33, List.forall_mem_cons.mpr ⟨lw_p34, List.forall_mem_cons.mpr ⟨lw_p35, List.forall_mem_cons.mpr ⟨lw_p36, List.forall_mem_cons.mpr ⟨lw_p37, List.forall_mem_cons.mpr ⟨lw_p38, List.forall_mem_cons.mpr ⟨lw_p39, List.forall_mem_cons.mpr ⟨lw_p40, List.forall_mem_cons.mpr ⟨lw_p41, List.forall_mem_cons.mpr ⟨lw_p42, List.forall_mem_cons.mpr ⟨lw_p43, List.forall_mem_cons.mpr ⟨lw_p44, List.forall_mem_cons.mpr ⟨lw_p45, List.forall_mem_cons.mpr ⟨lw_p46, List.forall_mem_cons.mpr ⟨lw_p47, fun _ h => absurd h List.not_mem_nil⟩⟩⟩⟩⟩⟩⟩⟩⟩⟩⟩⟩⟩⟩⟩⟩
theorem lw_p48 : lw_okq (⟨"RopeFerryModel", "stays", "()I"⟩, 33) := ⟨⟨by decide +kernel, by decide +kernel⟩, List.mem_of_getElem? (i := 780) (by decide +kernel), List.mem_of_getElem? (i := 1040) (by decide +kernel), List.mem_of_getElem? (i := 1041) (by decide +kernel)⟩
theorem lw_p49 : lw_okq (⟨"RopeFerryModel", "manyOn", "(I)I"⟩, 33) := ⟨⟨by decide +kernel, by decide +kernel⟩, List.mem_of_getElem? (i := 780) (by decide +kernel), List.mem_of_getElem? (i := 1044) (by decide +kernel), List.mem_of_getElem? (i := 1045) (by decide +kernel)⟩
theorem lw_p50 : lw_okq (⟨"RopeFerryModel", "hasDoctor", "(I)Z"⟩, 33) := ⟨⟨by decide +kernel, by decide +kernel⟩, List.mem_of_getElem? (i := 780) (by decide +kernel), List.mem_of_getElem? (i := 1048) (by decide +kernel), List.mem_of_getElem? (i := 1049) (by decide +kernel)⟩
theorem lw_p51 : lw_okq (⟨"RopeFerryModel", "allOf", "(I)I"⟩, 33) := ⟨⟨by decide +kernel, by decide +kernel⟩, List.mem_of_getElem? (i := 780) (by decide +kernel), List.mem_of_getElem? (i := 1056) (by decide +kernel), List.mem_of_getElem? (i := 1057) (by decide +kernel)⟩
theorem lw_p52 : lw_okq (⟨"RopeFerryModel", "laysBy", "()V"⟩, 33) := ⟨⟨by decide +kernel, by decide +kernel⟩, List.mem_of_getElem? (i := 780) (by decide +kernel), List.mem_of_getElem? (i := 1080) (by decide +kernel), List.mem_of_getElem? (i := 1081) (by decide +kernel)⟩
theorem lw_p53 : lw_okq (⟨"RopeFerryModel", "goesOnMany", "(I)V"⟩, 33) := ⟨⟨by decide +kernel, by decide +kernel⟩, List.mem_of_getElem? (i := 780) (by decide +kernel), List.mem_of_getElem? (i := 1084) (by decide +kernel), List.mem_of_getElem? (i := 1085) (by decide +kernel)⟩
theorem lw_p54 : lw_okq (⟨"RopeFerryModel", "laysBack", "()V"⟩, 33) := ⟨⟨by decide +kernel, by decide +kernel⟩, List.mem_of_getElem? (i := 780) (by decide +kernel), List.mem_of_getElem? (i := 1088) (by decide +kernel), List.mem_of_getElem? (i := 1089) (by decide +kernel)⟩
theorem lw_p55 : lw_okq (⟨"RopeFerryModel", "areOver", "()Z"⟩, 33) := ⟨⟨by decide +kernel, by decide +kernel⟩, List.mem_of_getElem? (i := 780) (by decide +kernel), List.mem_of_getElem? (i := 1109) (by decide +kernel), List.mem_of_getElem? (i := 1110) (by decide +kernel)⟩
theorem lw_p56 : lw_okq (⟨"RopeFerryModel", "parse", "()I"⟩, 33) := ⟨⟨by decide +kernel, by decide +kernel⟩, List.mem_of_getElem? (i := 780) (by decide +kernel), List.mem_of_getElem? (i := 1129) (by decide +kernel), List.mem_of_getElem? (i := 1130) (by decide +kernel)⟩
theorem lw_p57 : lw_okq (⟨"RopeFerryModel", "nextToken", "()V"⟩, 33) := ⟨⟨by decide +kernel, by decide +kernel⟩, List.mem_of_getElem? (i := 780) (by decide +kernel), List.mem_of_getElem? (i := 1133) (by decide +kernel), List.mem_of_getElem? (i := 1134) (by decide +kernel)⟩
theorem lw_p58 : lw_okq (⟨"RopeFerryModel", "isLetter", "(I)Z"⟩, 33) := ⟨⟨by decide +kernel, by decide +kernel⟩, List.mem_of_getElem? (i := 780) (by decide +kernel), List.mem_of_getElem? (i := 1137) (by decide +kernel), List.mem_of_getElem? (i := 1138) (by decide +kernel)⟩
theorem lw_p59 : lw_okq (⟨"RopeFerryModel", "isDigit", "(I)Z"⟩, 33) := ⟨⟨by decide +kernel, by decide +kernel⟩, List.mem_of_getElem? (i := 780) (by decide +kernel), List.mem_of_getElem? (i := 1143) (by decide +kernel), List.mem_of_getElem? (i := 1144) (by decide +kernel)⟩
theorem lw_p60 : lw_okq (⟨"RopeFerryModel", "key", "()I"⟩, 33) := ⟨⟨by decide +kernel, by decide +kernel⟩, List.mem_of_getElem? (i := 780) (by decide +kernel), List.mem_of_getElem? (i := 1149) (by decide +kernel), List.mem_of_getElem? (i := 1150) (by decide +kernel)⟩
theorem lw_p61 : lw_okq (⟨"RopeFerryModel", "isWordAt", "(IIII)Z"⟩, 33) := ⟨⟨by decide +kernel, by decide +kernel⟩, List.mem_of_getElem? (i := 780) (by decide +kernel), List.mem_of_getElem? (i := 1153) (by decide +kernel), List.mem_of_getElem? (i := 1154) (by decide +kernel)⟩
theorem lw_p62 : lw_okq (⟨"RopeFerryModel", "either", "(I)Z"⟩, 33) := ⟨⟨by decide +kernel, by decide +kernel⟩, List.mem_of_getElem? (i := 780) (by decide +kernel), List.mem_of_getElem? (i := 1157) (by decide +kernel), List.mem_of_getElem? (i := 1158) (by decide +kernel)⟩
theorem lw_p63 : lw_okq (⟨"RopeFerryModel", "both", "(I)Z"⟩, 33) := ⟨⟨by decide +kernel, by decide +kernel⟩, List.mem_of_getElem? (i := 780) (by decide +kernel), List.mem_of_getElem? (i := 1161) (by decide +kernel), List.mem_of_getElem? (i := 1162) (by decide +kernel)⟩
def lw_privs_4 : List (MethodName × Nat) := [(⟨"RopeFerryModel", "stays", "()I"⟩, 33), (⟨"RopeFerryModel", "manyOn", "(I)I"⟩, 33), (⟨"RopeFerryModel", "hasDoctor", "(I)Z"⟩, 33), (⟨"RopeFerryModel", "allOf", "(I)I"⟩, 33), (⟨"RopeFerryModel", "laysBy", "()V"⟩, 33), (⟨"RopeFerryModel", "goesOnMany", "(I)V"⟩, 33), (⟨"RopeFerryModel", "laysBack", "()V"⟩, 33), (⟨"RopeFerryModel", "areOver", "()Z"⟩, 33), (⟨"RopeFerryModel", "parse", "()I"⟩, 33), (⟨"RopeFerryModel", "nextToken", "()V"⟩, 33), (⟨"RopeFerryModel", "isLetter", "(I)Z"⟩, 33), (⟨"RopeFerryModel", "isDigit", "(I)Z"⟩, 33), (⟨"RopeFerryModel", "key", "()I"⟩, 33), (⟨"RopeFerryModel", "isWordAt", "(IIII)Z"⟩, 33), (⟨"RopeFerryModel", "either", "(I)Z"⟩, 33), (⟨"RopeFerryModel", "both", "(I)Z"⟩, 33)]
theorem lw_r4 : ∀ q ∈ lw_privs_4, lw_okq q := List.forall_mem_cons.mpr ⟨lw_p48, List.forall_mem_cons.mpr ⟨lw_p49, List.forall_mem_cons.mpr ⟨lw_p50, List.forall_mem_cons.mpr ⟨lw_p51, List.forall_mem_cons.mpr ⟨lw_p52, List.forall_mem_cons.mpr ⟨lw_p53, List.forall_mem_cons.mpr ⟨lw_p54, List.forall_mem_cons.mpr ⟨lw_p55, List.forall_mem_cons.mpr ⟨lw_p56, List.forall_mem_cons.mpr ⟨lw_p57, List.forall_mem_cons.mpr ⟨lw_p58, List.forall_mem_cons.mpr ⟨lw_p59, List.forall_mem_cons.mpr ⟨lw_p60, List.forall_mem_cons.mpr ⟨lw_p61, List.forall_mem_cons.mpr ⟨lw_p62, List.forall_mem_cons.mpr ⟨lw_p63, fun _ h => absurd h List.not_mem_nil⟩⟩⟩⟩⟩⟩⟩⟩⟩⟩⟩⟩⟩⟩⟩⟩
theorem lw_p64 : lw_okq (⟨"RopeFerryModel", "test", "(I)Z"⟩, 33) := ⟨⟨by decide +kernel, by decide +kernel⟩, List.mem_of_getElem? (i := 780) (by decide +kernel), List.mem_of_getElem? (i := 1165) (by decide +kernel), List.mem_of_getElem? (i := 1166) (by decide +kernel)⟩
theorem lw_p65 : lw_okq (⟨"RopeFerryModel", "sum", "(I)Z"⟩, 33) := ⟨⟨by decide +kernel, by decide +kernel⟩, List.mem_of_getElem? (i := 780) (by decide +kernel), List.mem_of_getElem? (i := 1169) (by decide +kernel), List.mem_of_getElem? (i := 1170) (by decide +kernel)⟩
theorem lw_p66 : lw_okq (⟨"RopeFerryModel", "term", "(I)Z"⟩, 33) := ⟨⟨by decide +kernel, by decide +kernel⟩, List.mem_of_getElem? (i := 780) (by decide +kernel), List.mem_of_getElem? (i := 1173) (by decide +kernel), List.mem_of_getElem? (i := 1174) (by decide +kernel)⟩
theorem lw_p67 : lw_okq (⟨"RopeFerryModel", "part0", "(I)Z"⟩, 33) := ⟨⟨by decide +kernel, by decide +kernel⟩, List.mem_of_getElem? (i := 780) (by decide +kernel), List.mem_of_getElem? (i := 1177) (by decide +kernel), List.mem_of_getElem? (i := 1178) (by decide +kernel)⟩
theorem lw_p68 : lw_okq (⟨"RopeFerryModel", "step", "(II)V"⟩, 33) := ⟨⟨by decide +kernel, by decide +kernel⟩, List.mem_of_getElem? (i := 780) (by decide +kernel), List.mem_of_getElem? (i := 1181) (by decide +kernel), List.mem_of_getElem? (i := 1182) (by decide +kernel)⟩
theorem lw_p69 : lw_okq (⟨"RopeFerryModel", "isSign", "(I)Z"⟩, 33) := ⟨⟨by decide +kernel, by decide +kernel⟩, List.mem_of_getElem? (i := 780) (by decide +kernel), List.mem_of_getElem? (i := 1188) (by decide +kernel), List.mem_of_getElem? (i := 1189) (by decide +kernel)⟩
theorem lw_p70 : lw_okq (⟨"RopeFerryModel", "isText", "(I)Z"⟩, 33) := ⟨⟨by decide +kernel, by decide +kernel⟩, List.mem_of_getElem? (i := 780) (by decide +kernel), List.mem_of_getElem? (i := 1196) (by decide +kernel), List.mem_of_getElem? (i := 1197) (by decide +kernel)⟩
theorem lw_p71 : lw_okq (⟨"RopeFerryModel", "setAside", "([I[I)V"⟩, 33) := ⟨⟨by decide +kernel, by decide +kernel⟩, List.mem_of_getElem? (i := 780) (by decide +kernel), List.mem_of_getElem? (i := 1267) (by decide +kernel), List.mem_of_getElem? (i := 1268) (by decide +kernel)⟩
def lw_privs_5 : List (MethodName × Nat) := [(⟨"RopeFerryModel", "test", "(I)Z"⟩, 33), (⟨"RopeFerryModel", "sum", "(I)Z"⟩, 33), (⟨"RopeFerryModel", "term", "(I)Z"⟩, 33), (⟨"RopeFerryModel", "part0", "(I)Z"⟩, 33), (⟨"RopeFerryModel", "step", "(II)V"⟩, 33), (⟨"RopeFerryModel", "isSign", "(I)Z"⟩, 33), (⟨"RopeFerryModel", "isText", "(I)Z"⟩, 33), (⟨"RopeFerryModel", "setAside", "([I[I)V"⟩, 33)]
theorem lw_r5 : ∀ q ∈ lw_privs_5, lw_okq q := List.forall_mem_cons.mpr ⟨lw_p64, List.forall_mem_cons.mpr ⟨lw_p65, List.forall_mem_cons.mpr ⟨lw_p66, List.forall_mem_cons.mpr ⟨lw_p67, List.forall_mem_cons.mpr ⟨lw_p68, List.forall_mem_cons.mpr ⟨lw_p69, List.forall_mem_cons.mpr ⟨lw_p70, List.forall_mem_cons.mpr ⟨lw_p71, fun _ h => absurd h List.not_mem_nil⟩⟩⟩⟩⟩⟩⟩⟩
def lw_privs : List (MethodName × Nat) := lw_privs_1 ++ (lw_privs_2 ++ (lw_privs_3 ++ (lw_privs_4 ++ (lw_privs_5))))
def lw_tbl : List Cond := k2_sels lw_privs ++ tables_1
theorem lw_privs_ok : ∀ q ∈ lw_privs, lw_okq q := by
  show ∀ q ∈ lw_privs_1 ++ (lw_privs_2 ++ (lw_privs_3 ++ (lw_privs_4 ++ (lw_privs_5)))), lw_okq q
  exact List.forall_mem_append.mpr ⟨lw_r1, List.forall_mem_append.mpr ⟨lw_r2, List.forall_mem_append.mpr ⟨lw_r3, List.forall_mem_append.mpr ⟨lw_r4, lw_r5⟩⟩⟩⟩
end
section
def RX0 : String := "RopeFerry$Kinds"
def TX0 : u_T := fun k => match k with
  | _ => ("", "", "", false)
def tyX0 : Nat → FieldType := fun k => match k with
  | _ => .int
abbrev wsX00 : List Cond := u_ws RX0 TX0 0
theorem nmX0 : ∀ a, a < 0 → ∀ b, b < 0 → a ≠ b → (TX0 a).2.1 ≠ (TX0 b).2.1 := by decide +kernel
theorem tyX0_ok : ∀ k, k < 0 → parseFieldDescriptor (TX0 k).2.2.1 = some (tyX0 k) := by decide +kernel
abbrev cX0_isKind : ByteArray := prog_2_method_2_code
def yX0_isKind : MethodName := ⟨RX0, "isKind", "(I)Z"⟩
abbrev cX0_isOf : ByteArray := prog_2_method_3_code
def yX0_isOf : MethodName := ⟨RX0, "isOf", "(II)Z"⟩
abbrev cX0_pays : ByteArray := prog_2_method_4_code
def yX0_pays : MethodName := ⟨RX0, "pays", "(II)I"⟩
abbrev cX0_takes : ByteArray := prog_2_method_5_code
def yX0_takes : MethodName := ⟨RX0, "takes", "(I)I"⟩
abbrev cX0_urges : ByteArray := prog_2_method_6_code
def yX0_urges : MethodName := ⟨RX0, "urges", "(II)I"⟩
abbrev cX0_worth : ByteArray := prog_2_method_7_code
def yX0_worth : MethodName := ⟨RX0, "worth", "(II)I"⟩
def RX1 : String := "RopeFerry$Laws"
def TX1 : u_T := fun k => match k with
  | 0 => ("RopeFerry$Laws", "key", "[I", true)
  | 1 => ("RopeFerry$Laws", "pieces", "[I", true)
  | 2 => ("RopeFerry$Laws", "size", "[I", true)
  | 3 => ("RopeFerry$Laws", "code", "[I", true)
  | _ => ("RopeFerry$Laws", "stack", "[I", true)
def tyX1 : Nat → FieldType := fun k => match k with
  | 0 => .array .int
  | 1 => .array .int
  | 2 => .array .int
  | 3 => .array .int
  | _ => .array .int
abbrev wsX10 : List Cond := u_ws RX1 TX1 5
theorem nmX1 : ∀ a, a < 5 → ∀ b, b < 5 → a ≠ b → (TX1 a).2.1 ≠ (TX1 b).2.1 := by decide +kernel
theorem tyX1_ok : ∀ k, k < 5 → parseFieldDescriptor (TX1 k).2.2.1 = some (tyX1 k) := by decide +kernel
abbrev cX1_init : ByteArray := prog_3_method_1_code
def yX1_init : MethodName := ⟨RX1, "<init>", "()V"⟩
abbrev cX1_learn : ByteArray := prog_3_method_2_code
def yX1_learn : MethodName := ⟨RX1, "learn", "(ILRopeFerry$Reader;)V"⟩
abbrev cX1_gives : ByteArray := prog_3_method_3_code
def yX1_gives : MethodName := ⟨RX1, "gives", "(IIII)I"⟩
abbrev cX1_joined : ByteArray := prog_3_method_4_code
def yX1_joined : MethodName := ⟨RX1, "joined", "(III)I"⟩
def RX2 : String := "RopeFerry$Reader"
def TX2 : u_T := fun k => match k with
  | 0 => ("RopeFerry$Reader", "tape", "[I", true)
  | 1 => ("RopeFerry$Reader", "length", "I", false)
  | 2 => ("RopeFerry$Reader", "start", "I", false)
  | 3 => ("RopeFerry$Reader", "end", "I", false)
  | 4 => ("RopeFerry$Reader", "sort", "I", false)
  | 5 => ("RopeFerry$Reader", "isGlued", "Z", false)
  | 6 => ("RopeFerry$Reader", "fault", "I", false)
  | 7 => ("RopeFerry$Reader", "key", "I", false)
  | 8 => ("RopeFerry$Reader", "code", "[I", true)
  | 9 => ("RopeFerry$Reader", "size", "I", false)
  | _ => ("RopeFerry$Reader", "pieces", "I", false)
def tyX2 : Nat → FieldType := fun k => match k with
  | 0 => .array .int
  | 1 => .int
  | 2 => .int
  | 3 => .int
  | 4 => .int
  | 5 => .boolean
  | 6 => .int
  | 7 => .int
  | 8 => .array .int
  | 9 => .int
  | _ => .int
abbrev wsX20 : List Cond := u_ws RX2 TX2 11
theorem nmX2 : ∀ a, a < 11 → ∀ b, b < 11 → a ≠ b → (TX2 a).2.1 ≠ (TX2 b).2.1 := by decide +kernel
theorem tyX2_ok : ∀ k, k < 11 → parseFieldDescriptor (TX2 k).2.2.1 = some (tyX2 k) := by decide +kernel
abbrev cX2_init : ByteArray := prog_4_method_1_code
def yX2_init : MethodName := ⟨RX2, "<init>", "()V"⟩
abbrev cX2_take : ByteArray := prog_4_method_2_code
def yX2_take : MethodName := ⟨RX2, "take", "(I)V"⟩
abbrev cX2_readTape : ByteArray := prog_4_method_3_code
def yX2_readTape : MethodName := ⟨RX2, "readTape", "()I"⟩
abbrev cX2_goAhead : ByteArray := prog_4_method_4_code
def yX2_goAhead : MethodName := ⟨RX2, "goAhead", "()V"⟩
abbrev cX2_isWord : ByteArray := prog_4_method_5_code
def yX2_isWord : MethodName := ⟨RX2, "isWord", "()Z"⟩
abbrev cX2_byteAt : ByteArray := prog_4_method_6_code
def yX2_byteAt : MethodName := ⟨RX2, "byteAt", "(I)I"⟩
abbrev cX2_sortAt : ByteArray := prog_4_method_7_code
def yX2_sortAt : MethodName := ⟨RX2, "sortAt", "(I)I"⟩
abbrev cX2_meetsFault : ByteArray := prog_4_method_8_code
def yX2_meetsFault : MethodName := ⟨RX2, "meetsFault", "()V"⟩
abbrev cX2_isSign : ByteArray := prog_4_method_9_code
def yX2_isSign : MethodName := ⟨RX2, "isSign", "(I)Z"⟩
abbrev cX2_puts : ByteArray := prog_4_method_10_code
def yX2_puts : MethodName := ⟨RX2, "puts", "(I)V"⟩
abbrev cX2_readKey : ByteArray := prog_4_method_11_code
def yX2_readKey : MethodName := ⟨RX2, "readKey", "()V"⟩
abbrev cX2_spells : ByteArray := prog_4_method_12_code
def yX2_spells : MethodName := ⟨RX2, "spells", "(Ljava/lang/String;)Z"⟩
abbrev cX2_readOr : ByteArray := prog_4_method_13_code
def yX2_readOr : MethodName := ⟨RX2, "readOr", "(II)V"⟩
abbrev cX2_readAnd : ByteArray := prog_4_method_14_code
def yX2_readAnd : MethodName := ⟨RX2, "readAnd", "(II)V"⟩
abbrev cX2_readTest : ByteArray := prog_4_method_15_code
def yX2_readTest : MethodName := ⟨RX2, "readTest", "(II)V"⟩
abbrev cX2_readSum : ByteArray := prog_4_method_16_code
def yX2_readSum : MethodName := ⟨RX2, "readSum", "(II)V"⟩
abbrev cX2_readTerm : ByteArray := prog_4_method_17_code
def yX2_readTerm : MethodName := ⟨RX2, "readTerm", "(II)V"⟩
abbrev cX2_readPiece : ByteArray := prog_4_method_18_code
def yX2_readPiece : MethodName := ⟨RX2, "readPiece", "(II)V"⟩
abbrev cX2_readClosing : ByteArray := prog_4_method_19_code
def yX2_readClosing : MethodName := ⟨RX2, "readClosing", "()V"⟩
abbrev cX2_readNumber : ByteArray := prog_4_method_20_code
def yX2_readNumber : MethodName := ⟨RX2, "readNumber", "()V"⟩
abbrev cX2_readName : ByteArray := prog_4_method_21_code
def yX2_readName : MethodName := ⟨RX2, "readName", "()V"⟩
abbrev cX2_name : ByteArray := prog_4_method_22_code
def yX2_name : MethodName := ⟨RX2, "name", "()I"⟩
def RX3 : String := "RopeFerry$Sheet"
def TX3 : u_T := fun k => match k with
  | 0 => ("RopeFerry$Sheet", "sort", "I", false)
  | 1 => ("RopeFerry$Sheet", "size", "I", false)
  | _ => ("RopeFerry$Sheet", "places", "[I", true)
def tyX3 : Nat → FieldType := fun k => match k with
  | 0 => .int
  | 1 => .int
  | _ => .array .int
abbrev wsX30 : List Cond := u_ws RX3 TX3 3
theorem nmX3 : ∀ a, a < 3 → ∀ b, b < 3 → a ≠ b → (TX3 a).2.1 ≠ (TX3 b).2.1 := by decide +kernel
theorem tyX3_ok : ∀ k, k < 3 → parseFieldDescriptor (TX3 k).2.2.1 = some (tyX3 k) := by decide +kernel
abbrev cX3_init : ByteArray := prog_5_method_1_code
def yX3_init : MethodName := ⟨RX3, "<init>", "()V"⟩
abbrev cX3_becomesNew : ByteArray := prog_5_method_2_code
def yX3_becomesNew : MethodName := ⟨RX3, "becomesNew", "(II)V"⟩
abbrev cX3_become : ByteArray := prog_5_method_3_code
def yX3_become : MethodName := ⟨RX3, "become", "(LRopeFerry$Sheet;)V"⟩
abbrev cX3_isMissing : ByteArray := prog_5_method_4_code
def yX3_isMissing : MethodName := ⟨RX3, "isMissing", "()Z"⟩
abbrev cX3_hasPlace : ByteArray := prog_5_method_5_code
def yX3_hasPlace : MethodName := ⟨RX3, "hasPlace", "(I)Z"⟩
abbrev cX3_hasPlaces : ByteArray := prog_5_method_6_code
def yX3_hasPlaces : MethodName := ⟨RX3, "hasPlaces", "(II)Z"⟩
abbrev cX3_isNumber : ByteArray := prog_5_method_7_code
def yX3_isNumber : MethodName := ⟨RX3, "isNumber", "(I)Z"⟩
def RX4 : String := "RopeFerry$Slot"
def TX4 : u_T := fun k => match k with
  | 0 => ("RopeFerry$Slot", "thing", "I", false)
  | 1 => ("RopeFerry$Slot", "kind", "I", false)
  | 2 => ("RopeFerry$Slot", "weight", "I", false)
  | 3 => ("RopeFerry$Slot", "number", "I", false)
  | _ => ("RopeFerry$Slot", "row", "LRopeFerry$Sheet;", true)
def tyX4 : Nat → FieldType := fun k => match k with
  | 0 => .int
  | 1 => .int
  | 2 => .int
  | 3 => .int
  | _ => .object "RopeFerry$Sheet"
abbrev wsX40 : List Cond := u_ws RX4 TX4 5
theorem nmX4 : ∀ a, a < 5 → ∀ b, b < 5 → a ≠ b → (TX4 a).2.1 ≠ (TX4 b).2.1 := by decide +kernel
theorem tyX4_ok : ∀ k, k < 5 → parseFieldDescriptor (TX4 k).2.2.1 = some (tyX4 k) := by decide +kernel
abbrev cX4_init : ByteArray := prog_6_method_1_code
def yX4_init : MethodName := ⟨RX4, "<init>", "()V"⟩
def RX5 : String := "RopeFerry$State"
def TX5 : u_T := fun k => match k with
  | 0 => ("RopeFerry$State", "laws", "LRopeFerry$Laws;", true)
  | 1 => ("RopeFerry$State", "count", "I", false)
  | 2 => ("RopeFerry$State", "kind", "[I", true)
  | 3 => ("RopeFerry$State", "weight", "[I", true)
  | 4 => ("RopeFerry$State", "bank", "[I", true)
  | 5 => ("RopeFerry$State", "waits", "[I", true)
  | 6 => ("RopeFerry$State", "over", "[I", true)
  | 7 => ("RopeFerry$State", "rules", "[I", true)
  | 8 => ("RopeFerry$State", "time", "I", false)
  | 9 => ("RopeFerry$State", "tolls", "I", false)
  | 10 => ("RopeFerry$State", "step", "I", false)
  | 11 => ("RopeFerry$State", "z", "I", false)
  | 12 => ("RopeFerry$State", "texts", "I", false)
  | 13 => ("RopeFerry$State", "counts", "[I", true)
  | _ => ("RopeFerry$State", "leftOut", "I", false)
def tyX5 : Nat → FieldType := fun k => match k with
  | 0 => .object "RopeFerry$Laws"
  | 1 => .int
  | 2 => .array .int
  | 3 => .array .int
  | 4 => .array .int
  | 5 => .array .int
  | 6 => .array .int
  | 7 => .array .int
  | 8 => .int
  | 9 => .int
  | 10 => .int
  | 11 => .int
  | 12 => .int
  | 13 => .array .int
  | _ => .int
abbrev wsX50 : List Cond := u_ws RX5 TX5 15
theorem nmX5 : ∀ a, a < 15 → ∀ b, b < 15 → a ≠ b → (TX5 a).2.1 ≠ (TX5 b).2.1 := by decide +kernel
theorem tyX5_ok : ∀ k, k < 15 → parseFieldDescriptor (TX5 k).2.2.1 = some (tyX5 k) := by decide +kernel
abbrev cX5_init : ByteArray := prog_7_method_1_code
def yX5_init : MethodName := ⟨RX5, "<init>", "(LRopeFerry$Laws;)V"⟩
abbrev cX5_become : ByteArray := prog_7_method_2_code
def yX5_become : MethodName := ⟨RX5, "become", "(LRopeFerry$State;)V"⟩
abbrev cX5_has : ByteArray := prog_7_method_3_code
def yX5_has : MethodName := ⟨RX5, "has", "(I)Z"⟩
abbrev cX5_comes : ByteArray := prog_7_method_4_code
def yX5_comes : MethodName := ⟨RX5, "comes", "(III)I"⟩
abbrev cX5_draw : ByteArray := prog_7_method_5_code
def yX5_draw : MethodName := ⟨RX5, "draw", "()I"⟩
abbrev cX5_howManyOn : ByteArray := prog_7_method_6_code
def yX5_howManyOn : MethodName := ⟨RX5, "howManyOn", "(I)I"⟩
abbrev cX5_allOf : ByteArray := prog_7_method_7_code
def yX5_allOf : MethodName := ⟨RX5, "allOf", "([I)I"⟩
abbrev cX5_haveAllBeenOver : ByteArray := prog_7_method_8_code
def yX5_haveAllBeenOver : MethodName := ⟨RX5, "haveAllBeenOver", "()Z"⟩
abbrev cX5_pays : ByteArray := prog_7_method_9_code
def yX5_pays : MethodName := ⟨RX5, "pays", "(I)I"⟩
abbrev cX5_paidBy : ByteArray := prog_7_method_10_code
def yX5_paidBy : MethodName := ⟨RX5, "paidBy", "(I)I"⟩
abbrev cX5_pullAt : ByteArray := prog_7_method_11_code
def yX5_pullAt : MethodName := ⟨RX5, "pullAt", "(II)I"⟩
abbrev cX5_effect : ByteArray := prog_7_method_12_code
def yX5_effect : MethodName := ⟨RX5, "effect", "()I"⟩
abbrev cX5_minutes : ByteArray := prog_7_method_13_code
def yX5_minutes : MethodName := ⟨RX5, "minutes", "()I"⟩
abbrev cX5_whoBoards : ByteArray := prog_7_method_14_code
def yX5_whoBoards : MethodName := ⟨RX5, "whoBoards", "()I"⟩
abbrev cX5_mostUrging : ByteArray := prog_7_method_15_code
def yX5_mostUrging : MethodName := ⟨RX5, "mostUrging", "(I)I"⟩
abbrev cX5_bestSet : ByteArray := prog_7_method_16_code
def yX5_bestSet : MethodName := ⟨RX5, "bestSet", "()I"⟩
abbrev cX5_setOn : ByteArray := prog_7_method_17_code
def yX5_setOn : MethodName := ⟨RX5, "setOn", "(I)I"⟩
abbrev cX5_mayCross : ByteArray := prog_7_method_18_code
def yX5_mayCross : MethodName := ⟨RX5, "mayCross", "(I)Z"⟩
abbrev cX5_goOn : ByteArray := prog_7_method_19_code
def yX5_goOn : MethodName := ⟨RX5, "goOn", "(I)V"⟩
abbrev cX5_takeStep : ByteArray := prog_7_method_20_code
def yX5_takeStep : MethodName := ⟨RX5, "takeStep", "()V"⟩
abbrev cX5_waitsForMore : ByteArray := prog_7_method_21_code
def yX5_waitsForMore : MethodName := ⟨RX5, "waitsForMore", "()Z"⟩
abbrev cX5_isDoctorHere : ByteArray := prog_7_method_22_code
def yX5_isDoctorHere : MethodName := ⟨RX5, "isDoctorHere", "()Z"⟩
abbrev cX5_crosses : ByteArray := prog_7_method_23_code
def yX5_crosses : MethodName := ⟨RX5, "crosses", "(I)V"⟩
def RX6 : String := "RopeFerry"
def TX6 : u_T := fun k => match k with
  | 0 => ("RopeFerry", "laws", "LRopeFerry$Laws;", true)
  | 1 => ("RopeFerry", "reader", "LRopeFerry$Reader;", true)
  | 2 => ("RopeFerry", "now", "LRopeFerry$State;", true)
  | 3 => ("RopeFerry", "image", "LRopeFerry$State;", true)
  | 4 => ("RopeFerry", "thought", "LRopeFerry$State;", true)
  | 5 => ("RopeFerry", "imageKept", "Z", false)
  | 6 => ("RopeFerry", "sheets", "[LRopeFerry$Sheet;", true)
  | 7 => ("RopeFerry", "slots", "[LRopeFerry$Slot;", true)
  | 8 => ("RopeFerry", "numbers", "[I", true)
  | _ => ("RopeFerry", "waiting", "I", false)
def tyX6 : Nat → FieldType := fun k => match k with
  | 0 => .object "RopeFerry$Laws"
  | 1 => .object "RopeFerry$Reader"
  | 2 => .object "RopeFerry$State"
  | 3 => .object "RopeFerry$State"
  | 4 => .object "RopeFerry$State"
  | 5 => .boolean
  | 6 => .array (.object "RopeFerry$Sheet")
  | 7 => .array (.object "RopeFerry$Slot")
  | 8 => .array .int
  | _ => .int
abbrev wsX60 : List Cond := u_ws RX6 TX6 10
theorem nmX6 : ∀ a, a < 10 → ∀ b, b < 10 → a ≠ b → (TX6 a).2.1 ≠ (TX6 b).2.1 := by decide +kernel
theorem tyX6_ok : ∀ k, k < 10 → parseFieldDescriptor (TX6 k).2.2.1 = some (tyX6 k) := by decide +kernel
abbrev cX6_init : ByteArray := prog_1_method_1_code
def yX6_init : MethodName := ⟨RX6, "<init>", "()V"⟩
abbrev cX6_load : ByteArray := prog_1_method_2_code
def yX6_load : MethodName := ⟨RX6, "load", "(III)I"⟩
abbrev cX6_told : ByteArray := prog_1_method_3_code
def yX6_told : MethodName := ⟨RX6, "told", "(II)I"⟩
abbrev cX6_as : ByteArray := prog_1_method_4_code
def yX6_as : MethodName := ⟨RX6, "as", "(II)I"⟩
abbrev cX6_turns : ByteArray := prog_1_method_5_code
def yX6_turns : MethodName := ⟨RX6, "turns", "(II)I"⟩
abbrev cX6_set : ByteArray := prog_1_method_6_code
def yX6_set : MethodName := ⟨RX6, "set", "(III)I"⟩
abbrev cX6_boat : ByteArray := prog_1_method_7_code
def yX6_boat : MethodName := ⟨RX6, "boat", "(I)I"⟩
abbrev cX6_rule : ByteArray := prog_1_method_8_code
def yX6_rule : MethodName := ⟨RX6, "rule", "(II)I"⟩
abbrev cX6_pull : ByteArray := prog_1_method_9_code
def yX6_pull : MethodName := ⟨RX6, "pull", "(I)I"⟩
abbrev cX6_loading : ByteArray := prog_1_method_10_code
def yX6_loading : MethodName := ⟨RX6, "loading", "()I"⟩
abbrev cX6_deal : ByteArray := prog_1_method_11_code
def yX6_deal : MethodName := ⟨RX6, "deal", "(I)I"⟩
abbrev cX6_seed : ByteArray := prog_1_method_12_code
def yX6_seed : MethodName := ⟨RX6, "seed", "(I)I"⟩
abbrev cX6_steps : ByteArray := prog_1_method_13_code
def yX6_steps : MethodName := ⟨RX6, "steps", "(I)I"⟩
abbrev cX6_book : ByteArray := prog_1_method_14_code
def yX6_book : MethodName := ⟨RX6, "book", "(I)I"⟩
abbrev cX6_high : ByteArray := prog_1_method_15_code
def yX6_high : MethodName := ⟨RX6, "high", "()I"⟩
abbrev cX6_best : ByteArray := prog_1_method_16_code
def yX6_best : MethodName := ⟨RX6, "best", "(I)I"⟩
abbrev cX6_behind : ByteArray := prog_1_method_17_code
def yX6_behind : MethodName := ⟨RX6, "behind", "(II)I"⟩
abbrev cX6_slant : ByteArray := prog_1_method_18_code
def yX6_slant : MethodName := ⟨RX6, "slant", "(II)I"⟩
abbrev cX6_patience : ByteArray := prog_1_method_19_code
def yX6_patience : MethodName := ⟨RX6, "patience", "(II)I"⟩
abbrev cX6_left : ByteArray := prog_1_method_20_code
def yX6_left : MethodName := ⟨RX6, "left", "(II)I"⟩
abbrev cX6_allOver : ByteArray := prog_1_method_21_code
def yX6_allOver : MethodName := ⟨RX6, "allOver", "()I"⟩
abbrev cX6_slanted : ByteArray := prog_1_method_22_code
def yX6_slanted : MethodName := ⟨RX6, "slanted", "(II)I"⟩
abbrev cX6_differences : ByteArray := prog_1_method_23_code
def yX6_differences : MethodName := ⟨RX6, "differences", "(LRopeFerry$Sheet;I)I"⟩
abbrev cX6_fine : ByteArray := prog_1_method_24_code
def yX6_fine : MethodName := ⟨RX6, "fine", "()I"⟩
abbrev cX6_feed : ByteArray := prog_1_method_25_code
def yX6_feed : MethodName := ⟨RX6, "feed", "(III)I"⟩
abbrev cX6_trim : ByteArray := prog_1_method_26_code
def yX6_trim : MethodName := ⟨RX6, "trim", "(I)I"⟩
abbrev cX6_text : ByteArray := prog_1_method_27_code
def yX6_text : MethodName := ⟨RX6, "text", "()I"⟩
abbrev cX6_textTold : ByteArray := prog_1_method_28_code
def yX6_textTold : MethodName := ⟨RX6, "textTold", "(II)I"⟩
abbrev cX6_why : ByteArray := prog_1_method_29_code
def yX6_why : MethodName := ⟨RX6, "why", "(I)I"⟩
abbrev cX6_sheet : ByteArray := prog_1_method_30_code
def yX6_sheet : MethodName := ⟨RX6, "sheet", "(III)I"⟩
abbrev cX6_mark : ByteArray := prog_1_method_31_code
def yX6_mark : MethodName := ⟨RX6, "mark", "(III)I"⟩
abbrev cX6_pour : ByteArray := prog_1_method_32_code
def yX6_pour : MethodName := ⟨RX6, "pour", "(I)I"⟩
abbrev cX6_reads : ByteArray := prog_1_method_33_code
def yX6_reads : MethodName := ⟨RX6, "reads", "(I)I"⟩
abbrev cX6_copy : ByteArray := prog_1_method_34_code
def yX6_copy : MethodName := ⟨RX6, "copy", "(IIIII)I"⟩
abbrev cX6_lay : ByteArray := prog_1_method_35_code
def yX6_lay : MethodName := ⟨RX6, "lay", "(III)I"⟩
abbrev cX6_ask : ByteArray := prog_1_method_36_code
def yX6_ask : MethodName := ⟨RX6, "ask", "(II)I"⟩
abbrev cX6_item : ByteArray := prog_1_method_37_code
def yX6_item : MethodName := ⟨RX6, "item", "(II)I"⟩
abbrev cX6_rest : ByteArray := prog_1_method_38_code
def yX6_rest : MethodName := ⟨RX6, "rest", "(II)I"⟩
abbrev cX6_sheetAt : ByteArray := prog_1_method_39_code
def yX6_sheetAt : MethodName := ⟨RX6, "sheetAt", "(I)LRopeFerry$Sheet;"⟩
abbrev cX6_slotAt : ByteArray := prog_1_method_40_code
def yX6_slotAt : MethodName := ⟨RX6, "slotAt", "(I)LRopeFerry$Slot;"⟩
abbrev cX6_tell : ByteArray := prog_1_method_41_code
def yX6_tell : MethodName := ⟨RX6, "tell", "(I)I"⟩
abbrev cX6_check : ByteArray := prog_1_method_42_code
def yX6_check : MethodName := ⟨RX6, "check", "(I)I"⟩
abbrev cX6_isNumberAt : ByteArray := prog_1_method_43_code
def yX6_isNumberAt : MethodName := ⟨RX6, "isNumberAt", "(III)Z"⟩
abbrev cX6_keep : ByteArray := prog_1_method_44_code
def yX6_keep : MethodName := ⟨RX6, "keep", "()I"⟩
abbrev cX6_back : ByteArray := prog_1_method_45_code
def yX6_back : MethodName := ⟨RX6, "back", "()I"⟩
abbrev cX6_count : ByteArray := prog_1_method_46_code
def yX6_count : MethodName := ⟨RX6, "count", "(I)I"⟩
abbrev cX6_within : ByteArray := prog_1_method_47_code
def yX6_within : MethodName := ⟨RX6, "within", "(III)Z"⟩
abbrev cX6_held : ByteArray := prog_1_method_48_code
def yX6_held : MethodName := ⟨RX6, "held", "(III)I"⟩
abbrev cX6_swapped : ByteArray := prog_1_method_49_code
def yX6_swapped : MethodName := ⟨RX6, "swapped", "([IIIII)I"⟩
def RX7 : String := "RopeFerryModel"
def TX7 : u_T := fun k => match k with
  | 0 => ("RopeFerryModel", "s", "[I", true)
  | 1 => ("RopeFerryModel", "image", "[I", true)
  | 2 => ("RopeFerryModel", "aside", "[I", true)
  | 3 => ("RopeFerryModel", "hasImage", "Z", false)
  | 4 => ("RopeFerryModel", "tSort", "[I", true)
  | 5 => ("RopeFerryModel", "tSize", "[I", true)
  | 6 => ("RopeFerryModel", "tNumber", "[I", true)
  | 7 => ("RopeFerryModel", "held", "[I", true)
  | 8 => ("RopeFerryModel", "heldNumber", "[I", true)
  | 9 => ("RopeFerryModel", "heldWorth", "[I", true)
  | 10 => ("RopeFerryModel", "heldSize", "[I", true)
  | 11 => ("RopeFerryModel", "heldRow", "[I", true)
  | 12 => ("RopeFerryModel", "unasked", "I", false)
  | 13 => ("RopeFerryModel", "paying", "[I", true)
  | 14 => ("RopeFerryModel", "close", "[I", true)
  | 15 => ("RopeFerryModel", "tape", "[I", true)
  | 16 => ("RopeFerryModel", "taped", "I", false)
  | 17 => ("RopeFerryModel", "begin", "I", false)
  | 18 => ("RopeFerryModel", "behind", "I", false)
  | 19 => ("RopeFerryModel", "token", "I", false)
  | 20 => ("RopeFerryModel", "number", "I", false)
  | 21 => ("RopeFerryModel", "letter", "I", false)
  | 22 => ("RopeFerryModel", "deep", "I", false)
  | 23 => ("RopeFerryModel", "turned", "I", false)
  | 24 => ("RopeFerryModel", "laid", "I", false)
  | 25 => ("RopeFerryModel", "laidAt", "I", false)
  | 26 => ("RopeFerryModel", "said", "I", false)
  | 27 => ("RopeFerryModel", "named", "[I", true)
  | 28 => ("RopeFerryModel", "pile", "[I", true)
  | 29 => ("RopeFerryModel", "carried", "[I", true)
  | 30 => ("RopeFerryModel", "waits", "[I", true)
  | 31 => ("RopeFerryModel", "waiting", "I", false)
  | _ => ("RopeFerryModel", "rowDue", "[I", true)
def tyX7 : Nat → FieldType := fun k => match k with
  | 0 => .array .int
  | 1 => .array .int
  | 2 => .array .int
  | 3 => .boolean
  | 4 => .array .int
  | 5 => .array .int
  | 6 => .array .int
  | 7 => .array .int
  | 8 => .array .int
  | 9 => .array .int
  | 10 => .array .int
  | 11 => .array .int
  | 12 => .int
  | 13 => .array .int
  | 14 => .array .int
  | 15 => .array .int
  | 16 => .int
  | 17 => .int
  | 18 => .int
  | 19 => .int
  | 20 => .int
  | 21 => .int
  | 22 => .int
  | 23 => .int
  | 24 => .int
  | 25 => .int
  | 26 => .int
  | 27 => .array .int
  | 28 => .array .int
  | 29 => .array .int
  | 30 => .array .int
  | 31 => .int
  | _ => .array .int
abbrev wsX70 : List Cond := u_ws RX7 TX7 33
theorem nmX7 : ∀ a, a < 33 → ∀ b, b < 33 → a ≠ b → (TX7 a).2.1 ≠ (TX7 b).2.1 := by decide +kernel
theorem tyX7_ok : ∀ k, k < 33 → parseFieldDescriptor (TX7 k).2.2.1 = some (tyX7 k) := by decide +kernel
abbrev cX7_init : ByteArray := prog_9_method_1_code
def yX7_init : MethodName := ⟨RX7, "<init>", "()V"⟩
abbrev cX7_isIn : ByteArray := prog_9_method_2_code
def yX7_isIn : MethodName := ⟨RX7, "isIn", "(JJJ)Z"⟩
abbrev cX7_orNone : ByteArray := prog_9_method_3_code
def yX7_orNone : MethodName := ⟨RX7, "orNone", "(I)I"⟩
abbrev cX7_held : ByteArray := prog_9_method_4_code
def yX7_held : MethodName := ⟨RX7, "held", "(III)I"⟩
abbrev cX7_off : ByteArray := prog_9_method_5_code
def yX7_off : MethodName := ⟨RX7, "off", "(II)I"⟩
abbrev cX7_manyIn : ByteArray := prog_9_method_6_code
def yX7_manyIn : MethodName := ⟨RX7, "manyIn", "(I)I"⟩
abbrev cX7_becomes : ByteArray := prog_9_method_7_code
def yX7_becomes : MethodName := ⟨RX7, "becomes", "(II)I"⟩
abbrev cX7_textAt : ByteArray := prog_9_method_8_code
def yX7_textAt : MethodName := ⟨RX7, "textAt", "(I)I"⟩
abbrev cX7_of : ByteArray := prog_9_method_9_code
def yX7_of : MethodName := ⟨RX7, "of", "(II)I"⟩
abbrev cX7_sets : ByteArray := prog_9_method_10_code
def yX7_sets : MethodName := ⟨RX7, "sets", "(III)V"⟩
abbrev cX7_isLoad : ByteArray := prog_9_method_11_code
def yX7_isLoad : MethodName := ⟨RX7, "isLoad", "(I)Z"⟩
abbrev cX7_isText : ByteArray := prog_9_method_12_code
def yX7_isText : MethodName := ⟨RX7, "isText", "(I)Z"⟩
abbrev cX7_drawn : ByteArray := prog_9_method_13_code
def yX7_drawn : MethodName := ⟨RX7, "drawn", "()I"⟩
abbrev cX7_comes : ByteArray := prog_9_method_14_code
def yX7_comes : MethodName := ⟨RX7, "comes", "(III)V"⟩
abbrev cX7_load : ByteArray := prog_9_method_15_code
def yX7_load : MethodName := ⟨RX7, "load", "(III)I"⟩
abbrev cX7_pays : ByteArray := prog_9_method_16_code
def yX7_pays : MethodName := ⟨RX7, "pays", "(I)I"⟩
abbrev cX7_takes : ByteArray := prog_9_method_17_code
def yX7_takes : MethodName := ⟨RX7, "takes", "(I)I"⟩
abbrev cX7_urges : ByteArray := prog_9_method_18_code
def yX7_urges : MethodName := ⟨RX7, "urges", "(I)I"⟩
abbrev cX7_worth : ByteArray := prog_9_method_19_code
def yX7_worth : MethodName := ⟨RX7, "worth", "(I)I"⟩
abbrev cX7_told : ByteArray := prog_9_method_20_code
def yX7_told : MethodName := ⟨RX7, "told", "(II)I"⟩
abbrev cX7_isOf : ByteArray := prog_9_method_21_code
def yX7_isOf : MethodName := ⟨RX7, "isOf", "(II)Z"⟩
abbrev cX7_as : ByteArray := prog_9_method_22_code
def yX7_as : MethodName := ⟨RX7, "as", "(II)I"⟩
abbrev cX7_turns : ByteArray := prog_9_method_23_code
def yX7_turns : MethodName := ⟨RX7, "turns", "(II)I"⟩
abbrev cX7_set : ByteArray := prog_9_method_24_code
def yX7_set : MethodName := ⟨RX7, "set", "(III)I"⟩
abbrev cX7_effect : ByteArray := prog_9_method_25_code
def yX7_effect : MethodName := ⟨RX7, "effect", "()I"⟩
abbrev cX7_minutes : ByteArray := prog_9_method_26_code
def yX7_minutes : MethodName := ⟨RX7, "minutes", "()I"⟩
abbrev cX7_boat : ByteArray := prog_9_method_27_code
def yX7_boat : MethodName := ⟨RX7, "boat", "(I)I"⟩
abbrev cX7_mostOf : ByteArray := prog_9_method_28_code
def yX7_mostOf : MethodName := ⟨RX7, "mostOf", "(I)I"⟩
abbrev cX7_rule : ByteArray := prog_9_method_29_code
def yX7_rule : MethodName := ⟨RX7, "rule", "(II)I"⟩
abbrev cX7_pullOf : ByteArray := prog_9_method_30_code
def yX7_pullOf : MethodName := ⟨RX7, "pullOf", "(I)I"⟩
abbrev cX7_pull : ByteArray := prog_9_method_31_code
def yX7_pull : MethodName := ⟨RX7, "pull", "(I)I"⟩
abbrev cX7_nextUrging : ByteArray := prog_9_method_32_code
def yX7_nextUrging : MethodName := ⟨RX7, "nextUrging", "(I)I"⟩
abbrev cX7_loads : ByteArray := prog_9_method_33_code
def yX7_loads : MethodName := ⟨RX7, "loads", "()I"⟩
abbrev cX7_loading : ByteArray := prog_9_method_34_code
def yX7_loading : MethodName := ⟨RX7, "loading", "()I"⟩
abbrev cX7_deal : ByteArray := prog_9_method_35_code
def yX7_deal : MethodName := ⟨RX7, "deal", "(I)I"⟩
abbrev cX7_seed : ByteArray := prog_9_method_36_code
def yX7_seed : MethodName := ⟨RX7, "seed", "(I)I"⟩
abbrev cX7_manyOn : ByteArray := prog_9_method_37_code
def yX7_manyOn : MethodName := ⟨RX7, "manyOn", "(I)I"⟩
abbrev cX7_hasDoctor : ByteArray := prog_9_method_38_code
def yX7_hasDoctor : MethodName := ⟨RX7, "hasDoctor", "(I)Z"⟩
abbrev cX7_stays : ByteArray := prog_9_method_39_code
def yX7_stays : MethodName := ⟨RX7, "stays", "()I"⟩
abbrev cX7_goesOn : ByteArray := prog_9_method_40_code
def yX7_goesOn : MethodName := ⟨RX7, "goesOn", "()V"⟩
abbrev cX7_steps : ByteArray := prog_9_method_41_code
def yX7_steps : MethodName := ⟨RX7, "steps", "(I)I"⟩
abbrev cX7_allOf : ByteArray := prog_9_method_42_code
def yX7_allOf : MethodName := ⟨RX7, "allOf", "(I)I"⟩
abbrev cX7_book : ByteArray := prog_9_method_43_code
def yX7_book : MethodName := ⟨RX7, "book", "(I)I"⟩
abbrev cX7_high : ByteArray := prog_9_method_44_code
def yX7_high : MethodName := ⟨RX7, "high", "()I"⟩
abbrev cX7_best : ByteArray := prog_9_method_45_code
def yX7_best : MethodName := ⟨RX7, "best", "(I)I"⟩
abbrev cX7_laysBy : ByteArray := prog_9_method_46_code
def yX7_laysBy : MethodName := ⟨RX7, "laysBy", "()V"⟩
abbrev cX7_laysBack : ByteArray := prog_9_method_47_code
def yX7_laysBack : MethodName := ⟨RX7, "laysBack", "()V"⟩
abbrev cX7_goesOnMany : ByteArray := prog_9_method_48_code
def yX7_goesOnMany : MethodName := ⟨RX7, "goesOnMany", "(I)V"⟩
abbrev cX7_behind : ByteArray := prog_9_method_49_code
def yX7_behind : MethodName := ⟨RX7, "behind", "(II)I"⟩
abbrev cX7_slant : ByteArray := prog_9_method_50_code
def yX7_slant : MethodName := ⟨RX7, "slant", "(II)I"⟩
abbrev cX7_patience : ByteArray := prog_9_method_51_code
def yX7_patience : MethodName := ⟨RX7, "patience", "(II)I"⟩
abbrev cX7_left : ByteArray := prog_9_method_52_code
def yX7_left : MethodName := ⟨RX7, "left", "(II)I"⟩
abbrev cX7_areOver : ByteArray := prog_9_method_53_code
def yX7_areOver : MethodName := ⟨RX7, "areOver", "()Z"⟩
abbrev cX7_allOver : ByteArray := prog_9_method_54_code
def yX7_allOver : MethodName := ⟨RX7, "allOver", "()I"⟩
abbrev cX7_fine : ByteArray := prog_9_method_55_code
def yX7_fine : MethodName := ⟨RX7, "fine", "()I"⟩
abbrev cX7_feed : ByteArray := prog_9_method_56_code
def yX7_feed : MethodName := ⟨RX7, "feed", "(III)I"⟩
abbrev cX7_trim : ByteArray := prog_9_method_57_code
def yX7_trim : MethodName := ⟨RX7, "trim", "(I)I"⟩
abbrev cX7_isLetter : ByteArray := prog_9_method_58_code
def yX7_isLetter : MethodName := ⟨RX7, "isLetter", "(I)Z"⟩
abbrev cX7_isDigit : ByteArray := prog_9_method_59_code
def yX7_isDigit : MethodName := ⟨RX7, "isDigit", "(I)Z"⟩
abbrev cX7_nextToken : ByteArray := prog_9_method_60_code
def yX7_nextToken : MethodName := ⟨RX7, "nextToken", "()V"⟩
abbrev cX7_isSign : ByteArray := prog_9_method_61_code
def yX7_isSign : MethodName := ⟨RX7, "isSign", "(I)Z"⟩
abbrev cX7_isWordAt : ByteArray := prog_9_method_62_code
def yX7_isWordAt : MethodName := ⟨RX7, "isWordAt", "(IIII)Z"⟩
abbrev cX7_key : ByteArray := prog_9_method_63_code
def yX7_key : MethodName := ⟨RX7, "key", "()I"⟩
abbrev cX7_isName : ByteArray := prog_9_method_64_code
def yX7_isName : MethodName := ⟨RX7, "isName", "(II)Z"⟩
abbrev cX7_step : ByteArray := prog_9_method_65_code
def yX7_step : MethodName := ⟨RX7, "step", "(II)V"⟩
abbrev cX7_either : ByteArray := prog_9_method_66_code
def yX7_either : MethodName := ⟨RX7, "either", "(I)Z"⟩
abbrev cX7_both : ByteArray := prog_9_method_67_code
def yX7_both : MethodName := ⟨RX7, "both", "(I)Z"⟩
abbrev cX7_test : ByteArray := prog_9_method_68_code
def yX7_test : MethodName := ⟨RX7, "test", "(I)Z"⟩
abbrev cX7_sum : ByteArray := prog_9_method_69_code
def yX7_sum : MethodName := ⟨RX7, "sum", "(I)Z"⟩
abbrev cX7_term : ByteArray := prog_9_method_70_code
def yX7_term : MethodName := ⟨RX7, "term", "(I)Z"⟩
abbrev cX7_part0 : ByteArray := prog_9_method_71_code
def yX7_part0 : MethodName := ⟨RX7, "part0", "(I)Z"⟩
abbrev cX7_parse : ByteArray := prog_9_method_72_code
def yX7_parse : MethodName := ⟨RX7, "parse", "()I"⟩
abbrev cX7_text : ByteArray := prog_9_method_73_code
def yX7_text : MethodName := ⟨RX7, "text", "()I"⟩
abbrev cX7_textTold : ByteArray := prog_9_method_74_code
def yX7_textTold : MethodName := ⟨RX7, "textTold", "(II)I"⟩
abbrev cX7_counts : ByteArray := prog_9_method_75_code
def yX7_counts : MethodName := ⟨RX7, "counts", "(I)I"⟩
abbrev cX7_why : ByteArray := prog_9_method_76_code
def yX7_why : MethodName := ⟨RX7, "why", "(I)I"⟩
abbrev cX7_joined : ByteArray := prog_9_method_77_code
def yX7_joined : MethodName := ⟨RX7, "joined", "(III)I"⟩
abbrev cX7_worked : ByteArray := prog_9_method_78_code
def yX7_worked : MethodName := ⟨RX7, "worked", "(I)I"⟩
abbrev cX7_isSheet : ByteArray := prog_9_method_79_code
def yX7_isSheet : MethodName := ⟨RX7, "isSheet", "(I)Z"⟩
abbrev cX7_sheet : ByteArray := prog_9_method_80_code
def yX7_sheet : MethodName := ⟨RX7, "sheet", "(III)I"⟩
abbrev cX7_mark : ByteArray := prog_9_method_81_code
def yX7_mark : MethodName := ⟨RX7, "mark", "(III)I"⟩
abbrev cX7_pour : ByteArray := prog_9_method_82_code
def yX7_pour : MethodName := ⟨RX7, "pour", "(I)I"⟩
abbrev cX7_reads : ByteArray := prog_9_method_83_code
def yX7_reads : MethodName := ⟨RX7, "reads", "(I)I"⟩
abbrev cX7_slanted : ByteArray := prog_9_method_84_code
def yX7_slanted : MethodName := ⟨RX7, "slanted", "(II)I"⟩
abbrev cX7_copy : ByteArray := prog_9_method_85_code
def yX7_copy : MethodName := ⟨RX7, "copy", "(IIIII)I"⟩
abbrev cX7_isSlot : ByteArray := prog_9_method_86_code
def yX7_isSlot : MethodName := ⟨RX7, "isSlot", "(I)Z"⟩
abbrev cX7_lay : ByteArray := prog_9_method_87_code
def yX7_lay : MethodName := ⟨RX7, "lay", "(III)I"⟩
abbrev cX7_ask : ByteArray := prog_9_method_88_code
def yX7_ask : MethodName := ⟨RX7, "ask", "(II)I"⟩
abbrev cX7_item : ByteArray := prog_9_method_89_code
def yX7_item : MethodName := ⟨RX7, "item", "(II)I"⟩
abbrev cX7_rest : ByteArray := prog_9_method_90_code
def yX7_rest : MethodName := ⟨RX7, "rest", "(II)I"⟩
abbrev cX7_tell : ByteArray := prog_9_method_91_code
def yX7_tell : MethodName := ⟨RX7, "tell", "(I)I"⟩
abbrev cX7_setAside : ByteArray := prog_9_method_92_code
def yX7_setAside : MethodName := ⟨RX7, "setAside", "([I[I)V"⟩
abbrev cX7_check : ByteArray := prog_9_method_93_code
def yX7_check : MethodName := ⟨RX7, "check", "(I)I"⟩
abbrev cX7_keep : ByteArray := prog_9_method_94_code
def yX7_keep : MethodName := ⟨RX7, "keep", "()I"⟩
abbrev cX7_back : ByteArray := prog_9_method_95_code
def yX7_back : MethodName := ⟨RX7, "back", "()I"⟩
abbrev cX7_count : ByteArray := prog_9_method_96_code
def yX7_count : MethodName := ⟨RX7, "count", "(I)I"⟩
def RJ6 : String := "java/lang/Integer"
def TJ6 : u_T := fun k => match k with
  | _ => ("", "", "", false)
def tyJ6 : Nat → FieldType := fun k => match k with
  | _ => .int
abbrev wsJ60 : List Cond := u_ws RJ6 TJ6 0
theorem nmJ6 : ∀ a, a < 0 → ∀ b, b < 0 → a ≠ b → (TJ6 a).2.1 ≠ (TJ6 b).2.1 := by decide +kernel
theorem tyJ6_ok : ∀ k, k < 0 → parseFieldDescriptor (TJ6 k).2.2.1 = some (tyJ6 k) := by decide +kernel
abbrev cJ6_bitCount_0f7a4 : ByteArray := prog_10_method_49_code
def yJ6_bitCount_0f7a4 : MethodName := ⟨RJ6, "bitCount", "(I)I"⟩
def RJ9 : String := "java/lang/Math"
def TJ9 : u_T := fun k => match k with
  | _ => ("", "", "", false)
def tyJ9 : Nat → FieldType := fun k => match k with
  | _ => .int
abbrev wsJ90 : List Cond := u_ws RJ9 TJ9 0
theorem nmJ9 : ∀ a, a < 0 → ∀ b, b < 0 → a ≠ b → (TJ9 a).2.1 ≠ (TJ9 b).2.1 := by decide +kernel
theorem tyJ9_ok : ∀ k, k < 0 → parseFieldDescriptor (TJ9 k).2.2.1 = some (tyJ9 k) := by decide +kernel
abbrev cJ9_abs_0f7a4 : ByteArray := prog_11_method_59_code
def yJ9_abs_0f7a4 : MethodName := ⟨RJ9, "abs", "(I)I"⟩
abbrev cJ9_max_7cf53 : ByteArray := prog_11_method_65_code
def yJ9_max_7cf53 : MethodName := ⟨RJ9, "max", "(II)I"⟩
abbrev cJ9_min_7cf53 : ByteArray := prog_11_method_69_code
def yJ9_min_7cf53 : MethodName := ⟨RJ9, "min", "(II)I"⟩
def RJ0 : String := "java/lang/String"
def TJ0 : u_T := fun k => match k with
  | _ => ("", "", "", false)
def tyJ0 : Nat → FieldType := fun k => match k with
  | _ => .int
abbrev wsJ00 : List Cond := u_ws RJ0 TJ0 0
theorem nmJ0 : ∀ a, a < 0 → ∀ b, b < 0 → a ≠ b → (TJ0 a).2.1 ≠ (TJ0 b).2.1 := by decide +kernel
theorem tyJ0_ok : ∀ k, k < 0 → parseFieldDescriptor (TJ0 k).2.2.1 = some (tyJ0 k) := by decide +kernel
abbrev cJ0_length_8abf5 : ByteArray := prog_12_method_54_code
def yJ0_length_8abf5 : MethodName := ⟨RJ0, "length", "()I"⟩
abbrev cJ0_charAt_5068e : ByteArray := prog_12_method_56_code
def yJ0_charAt_5068e : MethodName := ⟨RJ0, "charAt", "(I)C"⟩
abbrev cJ0_coder_7d493 : ByteArray := prog_12_method_152_code
def yJ0_coder_7d493 : MethodName := ⟨RJ0, "coder", "()B"⟩
abbrev cJ0_isLatin1_aae02 : ByteArray := prog_12_method_154_code
def yJ0_isLatin1_aae02 : MethodName := ⟨RJ0, "isLatin1", "()Z"⟩
abbrev cJ0_checkIndex_df160 : ByteArray := prog_12_method_155_code
def yJ0_checkIndex_df160 : MethodName := ⟨RJ0, "checkIndex", "(II)V"⟩
def RJ1 : String := "java/lang/StringLatin1"
def TJ1 : u_T := fun k => match k with
  | _ => ("", "", "", false)
def tyJ1 : Nat → FieldType := fun k => match k with
  | _ => .int
abbrev wsJ10 : List Cond := u_ws RJ1 TJ1 0
theorem nmJ1 : ∀ a, a < 0 → ∀ b, b < 0 → a ≠ b → (TJ1 a).2.1 ≠ (TJ1 b).2.1 := by decide +kernel
theorem tyJ1_ok : ∀ k, k < 0 → parseFieldDescriptor (TJ1 k).2.2.1 = some (tyJ1 k) := by decide +kernel
abbrev cJ1_charAt_3b067 : ByteArray := prog_13_method_2_code
def yJ1_charAt_3b067 : MethodName := ⟨RJ1, "charAt", "([BI)C"⟩
def RJ2 : String := "java/lang/StringUTF16"
def TJ2 : u_T := fun k => match k with
  | _ => ("", "", "", false)
def tyJ2 : Nat → FieldType := fun k => match k with
  | _ => .int
abbrev wsJ20 : List Cond := u_ws RJ2 TJ2 0
theorem nmJ2 : ∀ a, a < 0 → ∀ b, b < 0 → a ≠ b → (TJ2 a).2.1 ≠ (TJ2 b).2.1 := by decide +kernel
theorem tyJ2_ok : ∀ k, k < 0 → parseFieldDescriptor (TJ2 k).2.2.1 = some (tyJ2 k) := by decide +kernel
abbrev cJ2_getChar_3b067 : ByteArray := prog_14_method_5_code
def yJ2_getChar_3b067 : MethodName := ⟨RJ2, "getChar", "([BI)C"⟩
abbrev cJ2_length_9d52b : ByteArray := prog_14_method_6_code
def yJ2_length_9d52b : MethodName := ⟨RJ2, "length", "([B)I"⟩
abbrev cJ2_charAt_3b067 : ByteArray := prog_14_method_83_code
def yJ2_charAt_3b067 : MethodName := ⟨RJ2, "charAt", "([BI)C"⟩
abbrev cJ2_checkIndex_2214a : ByteArray := prog_14_method_91_code
def yJ2_checkIndex_2214a : MethodName := ⟨RJ2, "checkIndex", "(I[B)V"⟩
def RJ10 : String := "java/lang/System"
def TJ10 : u_T := fun k => match k with
  | _ => ("", "", "", false)
def tyJ10 : Nat → FieldType := fun k => match k with
  | _ => .int
abbrev wsJ100 : List Cond := u_ws RJ10 TJ10 0
theorem nmJ10 : ∀ a, a < 0 → ∀ b, b < 0 → a ≠ b → (TJ10 a).2.1 ≠ (TJ10 b).2.1 := by decide +kernel
theorem tyJ10_ok : ∀ k, k < 0 → parseFieldDescriptor (TJ10 k).2.2.1 = some (tyJ10 k) := by decide +kernel
def RJ3 : String := "jdk/internal/util/Preconditions"
def TJ3 : u_T := fun k => match k with
  | _ => ("", "", "", false)
def tyJ3 : Nat → FieldType := fun k => match k with
  | _ => .int
abbrev wsJ30 : List Cond := u_ws RJ3 TJ3 0
theorem nmJ3 : ∀ a, a < 0 → ∀ b, b < 0 → a ≠ b → (TJ3 a).2.1 ≠ (TJ3 b).2.1 := by decide +kernel
theorem tyJ3_ok : ∀ k, k < 0 → parseFieldDescriptor (TJ3 k).2.2.1 = some (tyJ3 k) := by decide +kernel
abbrev cJ3_checkIndex_8e157 : ByteArray := prog_16_method_11_code
def yJ3_checkIndex_8e157 : MethodName := ⟨RJ3, "checkIndex", "(IILjava/util/function/BiFunction;)I"⟩
def RL : String := "RopeFerryLaw"
abbrev cL_law : ByteArray := code
def yL_law : MethodName := ⟨RL, "law", "([I)Z"⟩
end
section
/-! OUR OWN MACHINE: first-order steps over a heap of numbers; cells are numbered; refs stand for cells -/
abbrev zH : Type := Nat → Nat → Int32
abbrev zL : Type := List (Option Value)
abbrev zS : Type := List Value
/-- pc, instruction, a, b, d, v, switch rows -/
abbrev zE : Type := Nat × Instr × Nat × Nat × Nat × Int32 × List (Int32 × Nat)
/-- goes on | calls (next pc, method, arguments, locals, stack) | returns -/
abbrev zO : Type := (Nat × zL × zS × zH) ⊕ ((Nat × Nat × List Value × zL × zS) ⊕ Option Value)
/-- the sorts of cells and the lengths of arrays -/
def zShA : List (Nat × Nat) :=
  [(6,0),(1,0),(10,14),(10,14),(10,14),(10,1344),(10,96),(2,0),(10,96),(10,96)]
  ++ [(5,0),(10,10),(10,10),(10,10),(10,10),(10,10),(10,6),(10,3)]
  ++ [(5,0),(10,10),(10,10),(10,10),(10,10),(10,10),(10,6),(10,3)]
  ++ [(5,0),(10,10),(10,10),(10,10),(10,10),(10,10),(10,6),(10,3)]
  ++ [(11,4),(3,0),(10,24),(3,0),(10,24),(3,0),(10,24),(3,0),(10,24),(12,5)]
  ++ [(4,0),(3,0),(10,24),(4,0),(3,0),(10,24),(4,0),(3,0),(10,24),(4,0),(3,0),(10,24),(4,0),(3,0),(10,24),(10,60)]
  ++ [(7,0),(10,3062),(10,3062),(10,3062),(10,4),(10,4),(10,96),(10,5),(10,5),(10,5),(10,5),(10,120),(10,10),(10,62),(10,96),(10,128),(10,100),(10,24),(10,60),(10,60)]
  ++ [(20,6),(20,6),(20,6),(22,9),(21,0),(99,0),(23,4),(23,4),(23,4)]
def zcls (c : Nat) : Nat := (zShA.getD c (99, 0)).1
def zaln (c : Nat) : Nat := (zShA.getD c (99, 0)).2
/-- the arrays of constants -/
def zkoA : List (List Int32) := [[-1,0,0,1,2,0],[0,0,1,0,1,0],[1,90,20,99,9999,10],[119,115,118,115,119,97,116,112,32]]
def zkon (c k : Nat) : Int32 := (zkoA.getD (c - 80) []).getD k 0
/-- how many fields -/
def znf (ci : Nat) : Nat := [0,5,11,3,5,15,10,33].getD ci 0
/-- the fields that hold references: where they point to -/
def zrfo (ci k c : Nat) : Option Nat := match ci, k with
  | 1, 0 => some 2 | 1, 1 => some 3 | 1, 2 => some 4 | 1, 3 => some 5 | 1, 4 => some 6
  | 2, 0 => some 8 | 2, 8 => some 9
  | 3, 2 => some (c + 1)
  | 4, 4 => some (c + 1)
  | 5, 0 => some 1 | 5, 2 => some (c + 1) | 5, 3 => some (c + 2) | 5, 4 => some (c + 3) | 5, 5 => some (c + 4) | 5, 6 => some (c + 5) | 5, 7 => some (c + 6) | 5, 13 => some (c + 7)
  | 6, 0 => some 1 | 6, 1 => some 7 | 6, 2 => some 10 | 6, 3 => some 18 | 6, 4 => some 26 | 6, 6 => some 34 | 6, 7 => some 43 | 6, 8 => some 59
  | 7, 0 => some 61 | 7, 1 => some 62 | 7, 2 => some 63 | 7, 4 => some 64 | 7, 5 => some 65 | 7, 6 => some 66 | 7, 7 => some 67 | 7, 8 => some 68 | 7, 9 => some 69 | 7, 10 => some 70 | 7, 11 => some 71 | 7, 13 => some 72 | 7, 14 => some 73 | 7, 15 => some 74 | 7, 27 => some 75 | 7, 28 => some 76 | 7, 29 => some 77 | 7, 30 => some 78 | 7, 32 => some 79
  | _, _ => none
def zfv (h : zH) (ci k c : Nat) : Value := match zrfo ci k c with
  | some r => .ref r
  | none => .int (h c k)
/-- a row of the heap replaced -/
def zhr (h : zH) (c : Nat) (r : Nat → Int32) : zH := fun c' => if c' = c then r else h c'
abbrev zix (i : Int32) : Nat := i.toNatClampNeg
/-- an index in range -/
def zok (i : Int32) (n : Nat) : Prop := ¬ i < 0 ∧ i.toNatClampNeg < n
def zp1 (st : zS) (f : Int32 → zS → Option zO) : Option zO := match st with | .int x :: r => f x r | _ => none
def zp2 (st : zS) (f : Int32 → Int32 → zS → Option zO) : Option zO := match st with | .int y :: .int x :: r => f x y r | _ => none
def zpR (st : zS) (f : Nat → zS → Option zO) : Option zO := match st with | .ref c :: r => f c r | _ => none
def zp1R (st : zS) (f : Int32 → Nat → zS → Option zO) : Option zO := match st with | .int x :: .ref c :: r => f x c r | _ => none
def zp2R (st : zS) (f : Int32 → Int32 → Nat → zS → Option zO) : Option zO := match st with | .int x :: .int i :: .ref c :: r => f x i c r | _ => none
def zpJ2 (st : zS) (f : Int64 → Int64 → zS → Option zO) : Option zO := match st with | .long y :: .long x :: r => f x y r | _ => none
def zpA (st : zS) (f : Option Nat → zS → Option zO) : Option zO := match st with | .ref c :: r => f (some c) r | .null :: r => f none r | _ => none
def zpV (st : zS) (f : Value → zS → Option zO) : Option zO := match st with | .int x :: r => f (.int x) r | .ref c :: r => f (.ref c) r | .null :: r => f .null r | _ => none
def zldI (lv : zL) (a : Nat) (f : Int32 → Option zO) : Option zO := match lv[a]? with | some (some (.int x)) => f x | _ => none
def zldJ (lv : zL) (a : Nat) (f : Int64 → Option zO) : Option zO := match lv[a]? with | some (some (.long x)) => f x | _ => none
def zldA (lv : zL) (a : Nat) (f : Option Nat → Option zO) : Option zO := match lv[a]? with | some (some (.ref c)) => f (some c) | some (some .null) => f none | _ => none
def zrf (r : Option Nat) : Value := match r with | some a => .ref a | none => .null
noncomputable def zif (c : Prop) (x : Option zO) : Option zO := @ite _ c (Classical.propDecidable c) x none
def zsw (ks : List (Int32 × Nat)) (dflt : Nat) (x : Int32) : Nat := match ks with
  | [] => dflt
  | q :: l => if x = q.1 then q.2 else zsw l dflt x
def zif1 (c : Jvm.ClassFile.Cond) (x : Int32) (a b : Nat) : Nat := match c with
  | .eq => if x = 0 then a else b
  | .ne => if x = 0 then b else a
  | .lt => if x < 0 then a else b
  | .ge => if x < 0 then b else a
  | .gt => if x ≤ 0 then b else a
  | .le => if x ≤ 0 then a else b
def zif2 (c : Jvm.ClassFile.Cond) (x y : Int32) (a b : Nat) : Nat := match c with
  | .eq => if x = y then a else b
  | .ne => if x = y then b else a
  | .lt => if x < y then a else b
  | .ge => if x < y then b else a
  | .gt => if x ≤ y then b else a
  | .le => if x ≤ y then a else b
/-- one step -/
noncomputable def znx (e : zE) (lv : zL) (st : zS) (h : zH) : Option zO := match e with
  | (pc, ins, a, b, d, v, ks) => match ins with
    | .iconst _ => some (.inl (pc + 1, lv, .int v :: st, h))
    | .bipush _ => some (.inl (pc + 2, lv, .int v :: st, h))
    | .sipush _ => some (.inl (pc + 3, lv, .int v :: st, h))
    | .ldc _ => some (.inl (pc + 2, lv, (if a = 0 then .int v else .ref b) :: st, h))
    | .ldc_w _ => some (.inl (pc + 3, lv, .int v :: st, h))
    | .lconst _ => some (.inl (pc + 1, lv, .long v.toInt64 :: st, h))
    | .ldc2_w _ => some (.inl (pc + 3, lv, .long v.toInt64 :: st, h))
    | .aconst_null => some (.inl (pc + 1, lv, .null :: st, h))
    | .iload _ => zldI lv a fun x => some (.inl (pc + 2, lv, .int x :: st, h))
    | .iload_n _ => zldI lv a fun x => some (.inl (pc + 1, lv, .int x :: st, h))
    | .lload _ => zldJ lv a fun x => some (.inl (pc + 2, lv, .long x :: st, h))
    | .lload_n _ => zldJ lv a fun x => some (.inl (pc + 1, lv, .long x :: st, h))
    | .aload _ => zldA lv a fun x => some (.inl (pc + 2, lv, zrf x :: st, h))
    | .aload_n _ => zldA lv a fun x => some (.inl (pc + 1, lv, zrf x :: st, h))
    | .istore _ => zp1 st fun x r => some (.inl (pc + 2, lv.set a (some (.int x)), r, h))
    | .istore_n _ => zp1 st fun x r => some (.inl (pc + 1, lv.set a (some (.int x)), r, h))
    | .astore _ => zpA st fun x r => some (.inl (pc + 2, lv.set a (some (zrf x)), r, h))
    | .astore_n _ => zpA st fun x r => some (.inl (pc + 1, lv.set a (some (zrf x)), r, h))
    | .iinc _ _ => zldI lv a fun x => some (.inl (pc + 3, lv.set a (some (.int (x + v))), st, h))
    | .iadd => zp2 st fun x y r => some (.inl (pc + 1, lv, .int (x + y) :: r, h))
    | .isub => zp2 st fun x y r => some (.inl (pc + 1, lv, .int (x - y) :: r, h))
    | .imul => zp2 st fun x y r => some (.inl (pc + 1, lv, .int (x * y) :: r, h))
    | .iand => zp2 st fun x y r => some (.inl (pc + 1, lv, .int (x &&& y) :: r, h))
    | .ior => zp2 st fun x y r => some (.inl (pc + 1, lv, .int (x ||| y) :: r, h))
    | .ixor => zp2 st fun x y r => some (.inl (pc + 1, lv, .int (x ^^^ y) :: r, h))
    | .idiv => zp2 st fun x y r => zif (¬ y = 0) (some (.inl (pc + 1, lv, .int (x / y) :: r, h)))
    | .irem => zp2 st fun x y r => zif (¬ y = 0) (some (.inl (pc + 1, lv, .int (x - x / y * y) :: r, h)))
    | .ineg => zp1 st fun x r => some (.inl (pc + 1, lv, .int (-x) :: r, h))
    | .ishl => zp2 st fun x y r => some (.inl (pc + 1, lv, .int (x <<< (y &&& 31)) :: r, h))
    | .ishr => zp2 st fun x y r => some (.inl (pc + 1, lv, .int (x >>> (y &&& 31)) :: r, h))
    | .iushr => zp2 st fun x y r => some (.inl (pc + 1, lv, .int ((x.toUInt32 >>> (y.toUInt32 &&& Int32.toUInt32 31)).toInt32) :: r, h))
    | .i2l => zp1 st fun x r => some (.inl (pc + 1, lv, .long x.toInt64 :: r, h))
    | .i2s => zp1 st fun x r => some (.inl (pc + 1, lv, .int x.toInt16.toInt32 :: r, h))
    | .ladd => zpJ2 st fun x y r => some (.inl (pc + 1, lv, .long (x + y) :: r, h))
    | .lcmp => zpJ2 st fun x y r => some (.inl (pc + 1, lv, .int (lg_cmp x y) :: r, h))
    | .dup => zpV st fun x r => some (.inl (pc + 1, lv, x :: x :: r, h))
    | .pop => zpV st fun _ r => some (.inl (pc + 1, lv, r, h))
    | .dup2 => zp1R st fun i c r => some (.inl (pc + 1, lv, .int i :: .ref c :: .int i :: .ref c :: r, h))
    | .goto _ => some (.inl (a, lv, st, h))
    | .ifCond c _ => zp1 st fun x r => some (.inl (zif1 c x a (pc + 3), lv, r, h))
    | .if_icmp c _ => zp2 st fun x y r => some (.inl (zif2 c x y a (pc + 3), lv, r, h))
    | .ifnull _ => zpA st fun x r => some (.inl (if x = none then a else pc + 3, lv, r, h))
    | .ifnonnull _ => zpA st fun x r => some (.inl (if x = none then pc + 3 else a, lv, r, h))
    | .tableswitch _ _ _ _ => zp1 st fun x r => some (.inl (zsw ks a x, lv, r, h))
    | .lookupswitch _ _ => zp1 st fun x r => some (.inl (zsw ks a x, lv, r, h))
    | .getfield _ => zpR st fun c r => zif (zcls c = a) (some (.inl (pc + 3, lv, zfv h a b c :: r, h)))
    | .putfield _ => zp1R st fun x c r => zif (zcls c = a ∧ (d = 0 ∨ x = 0 ∨ x = 1)) (some (.inl (pc + 3, lv, r, zhr h c (upd (h c) b x))))
    | .getstatic _ => some (.inl (pc + 3, lv, .ref b :: st, h))
    | .iaload => zp1R st fun i c r => match zcls c with
      | 10 => zif (zok i (zaln c)) (some (.inl (pc + 1, lv, .int (h c (zix i)) :: r, h)))
      | 20 => zif (zok i (zaln c)) (some (.inl (pc + 1, lv, .int (zkon c (zix i)) :: r, h)))
      | 21 => zif (zok i (zix (h 85 0))) (some (.inl (pc + 1, lv, .int (h 84 (zix i)) :: r, h)))
      | _ => none
    | .caload => zp1R st fun i c r => zif (zcls c = 22 ∧ zok i (zaln c)) (some (.inl (pc + 1, lv, .int (zkon c (zix i)) :: r, h)))
    | .aaload => zp1R st fun i c r => match zcls c with
      | 11 => zif (zok i 4) (some (.inl (pc + 1, lv, .ref (35 + 2 * zix i) :: r, h)))
      | 12 => zif (zok i 5) (some (.inl (pc + 1, lv, .ref (44 + 3 * zix i) :: r, h)))
      | _ => none
    | .iastore => zp2R st fun x i c r => zif (zcls c = 10 ∧ zok i (zaln c)) (some (.inl (pc + 1, lv, r, zhr h c (upd (h c) (zix i) x))))
    | .arraylength => zpR st fun c r => match zcls c with
      | 10 => some (.inl (pc + 1, lv, .int (Int32.ofNat (zaln c)) :: r, h))
      | 22 => some (.inl (pc + 1, lv, .int (Int32.ofNat (zaln c)) :: r, h))
      | 21 => some (.inl (pc + 1, lv, .int (h 85 0) :: r, h))
      | _ => none
    | .invokestatic _ => zif (b ≤ st.length ∧ (st.drop b).length ≤ 4) (some (.inr (.inl (pc + 3, a, (st.take b).reverse, lv, st.drop b))))
    | .invokevirtual _ => zif (b ≤ st.length) (zpR (st.drop b) fun c r => zif (zcls c = d ∧ r.length ≤ 4) (some (.inr (.inl (pc + 3, a, .ref c :: (st.take b).reverse, lv, r)))))
    | .ireturn => match st with
      | [.int x] => zif (d = 0 ∨ x = 0 ∨ x = 1) (some (.inr (.inr (some (.int x)))))
      | _ => none
    | .areturn => match st with
      | [.ref c] => some (.inr (.inr (some (.ref c))))
      | [.null] => some (.inr (.inr (some .null)))
      | _ => none
    | .return_ => match st with
      | [] => some (.inr (.inr none))
      | _ => none
    | _ => none
def zcopy (args : List Value) (h : zH) (Q : Option Value → zH → Prop) : Prop := match args with
  | [.ref a, .int sp, .ref b, .int dp, .int n] => (zcls a = 10 ∧ zcls b = 10 ∧ ¬ sp < 0 ∧ ¬ dp < 0 ∧ ¬ n < 0 ∧ zix sp + zix n ≤ zaln a ∧ zix dp + zix n ≤ zaln b) ∧ Q none (zhr h b (va_cpy (h a) (h b) (zix sp) (zix dp) (zix n)))
  | _ => False
/-- members of the JDK -/
def zbi (d : Nat) (y : Nat) (args : List Value) (h : zH) (Q : Option Value → zH → Prop) : Prop := match y with
  | 1000 => (match args with | [.int x, .int z] => Q (some (.int (if x < z then z else x))) h | _ => False)
  | 1001 => (match args with | [.int x, .int z] => Q (some (.int (if z < x then z else x))) h | _ => False)
  | 1002 => (match args with | [.int x] => Q (some (.int (if 0 ≤ x then x else 0 - x))) h | _ => False)
  | 1003 => zcopy args h Q
  | 1004 => (match args with | [.ref c] => (8 ≤ d ∧ zcls c = 23) ∧ Q (some (.int 4)) h | _ => False)
  | 1005 => (match args with | [.ref c, .int i] => (8 ≤ d ∧ zcls c = 23 ∧ zok i 4) ∧ Q (some (.int (([[116,111,108,108],[112,117,108,108],[102,105,110,101]].getD (c - 86) []).getD (zix i) 0))) h | _ => False)
  | _ => False
def zgo (cal : Nat → List Value → zH → (Option Value → zH → Prop) → Prop) (P : Nat → zL → zS → zH → Prop) (Q : Option Value → zH → Prop) (h : zH) : Option zO → Prop
  | none => False
  | some (.inl (pc, lv, st, h')) => P pc lv st h'
  | some (.inr (.inl (pc, y, args, lv, rest))) => cal y args h (fun r h' => P pc lv (r.toList ++ rest) h')
  | some (.inr (.inr v)) => Q v h
def zSx (cal : Nat → List Value → zH → (Option Value → zH → Prop) → Prop) (code : Nat → Option zE) (P : Nat → zL → zS → zH → Prop) (Q : Option Value → zH → Prop) (pc : Nat) (lv : zL) (st : zS) (h : zH) : Prop := match code pc with
  | none => False
  | some e => zgo cal P Q h (znx e lv st h)
/-- the least predicate that is closed -/
def zX0 (cal : Nat → List Value → zH → (Option Value → zH → Prop) → Prop) (code : Nat → Option zE) (Q : Option Value → zH → Prop) (pc : Nat) (lv : zL) (st : zS) (h : zH) : Prop :=
  ∀ P : Nat → zL → zS → zH → Prop, (∀ pc lv st h, zSx cal code P Q pc lv st h → P pc lv st h) → P pc lv st h
def zent (args : List Value) (n : Nat) : zL := args.flatMap (fun v => if v.category = 2 then [some v, none] else [some v]) ++ List.replicate (n - (args.flatMap (fun v => if v.category = 2 then [some v, (none : Option Value)] else [some v])).length) none
def zM0 (cod : Nat → Nat → Option zE) (nL : Nat → Nat) : Nat → Nat → List Value → zH → (Option Value → zH → Prop) → Prop
  | 0, _, _, _, _ => False
  | d + 1, y, args, h, Q => (1000 ≤ y → zbi d y args h Q) ∧ (y < 1000 → zX0 (zM0 cod nL d) (cod y) Q 0 (zent args (nL y)) [] h)
end
section
/-! laws of our machine: monotone, one step unfolded -/
theorem zgo_mono {cal : Nat → List Value → zH → (Option Value → zH → Prop) → Prop} (hc : ∀ y a h (Q Q' : Option Value → zH → Prop), (∀ r h, Q r h → Q' r h) → cal y a h Q → cal y a h Q') {P P' : Nat → zL → zS → zH → Prop} {Q Q' : Option Value → zH → Prop} (hP : ∀ pc lv st h, P pc lv st h → P' pc lv st h) (hQ : ∀ r h, Q r h → Q' r h) {h : zH} {o : Option zO} (hg : zgo cal P Q h o) : zgo cal P' Q' h o := by
  match o, hg with
  | some (.inl (pc, lv, st, h')), hg => exact hP _ _ _ _ hg
  | some (.inr (.inl (pc, y, args, lv, rest))), hg => exact hc _ _ _ _ _ (fun r h' q => hP _ _ _ _ q) hg
  | some (.inr (.inr v)), hg => exact hQ _ _ hg
theorem zSx_mono {cal : Nat → List Value → zH → (Option Value → zH → Prop) → Prop} (hc : ∀ y a h (Q Q' : Option Value → zH → Prop), (∀ r h, Q r h → Q' r h) → cal y a h Q → cal y a h Q') {code : Nat → Option zE} {P P' : Nat → zL → zS → zH → Prop} {Q Q' : Option Value → zH → Prop} (hP : ∀ pc lv st h, P pc lv st h → P' pc lv st h) (hQ : ∀ r h, Q r h → Q' r h) {pc : Nat} {lv : zL} {st : zS} {h : zH} (hg : zSx cal code P Q pc lv st h) : zSx cal code P' Q' pc lv st h := by
  unfold zSx at hg ⊢
  split
  · rename_i e; rw [e] at hg; exact hg
  · rename_i e he; rw [he] at hg; exact zgo_mono hc hP hQ hg
theorem zX0_in {cal : Nat → List Value → zH → (Option Value → zH → Prop) → Prop} (hc : ∀ y a h (Q Q' : Option Value → zH → Prop), (∀ r h, Q r h → Q' r h) → cal y a h Q → cal y a h Q') {code : Nat → Option zE} {Q : Option Value → zH → Prop} {pc : Nat} {lv : zL} {st : zS} {h : zH} (hg : zSx cal code (zX0 cal code Q) Q pc lv st h) : zX0 cal code Q pc lv st h := by
  intro P hP
  exact hP _ _ _ _ (zSx_mono hc (fun pc lv st h q => q P hP) (fun _ _ q => q) hg)
theorem zX0_out {cal : Nat → List Value → zH → (Option Value → zH → Prop) → Prop} (hc : ∀ y a h (Q Q' : Option Value → zH → Prop), (∀ r h, Q r h → Q' r h) → cal y a h Q → cal y a h Q') {code : Nat → Option zE} {Q : Option Value → zH → Prop} {pc : Nat} {lv : zL} {st : zS} {h : zH} (hg : zX0 cal code Q pc lv st h) : zSx cal code (zX0 cal code Q) Q pc lv st h :=
  hg (fun pc lv st h => zSx cal code (zX0 cal code Q) Q pc lv st h) (fun pc lv st h q => zSx_mono hc (fun pc lv st h q => zX0_in hc q) (fun _ _ q => q) q)
theorem zX0_unf {cal : Nat → List Value → zH → (Option Value → zH → Prop) → Prop} (hc : ∀ y a h (Q Q' : Option Value → zH → Prop), (∀ r h, Q r h → Q' r h) → cal y a h Q → cal y a h Q') {code : Nat → Option zE} {Q : Option Value → zH → Prop} {pc : Nat} {lv : zL} {st : zS} {h : zH} : zX0 cal code Q pc lv st h = zSx cal code (zX0 cal code Q) Q pc lv st h := propext ⟨zX0_out hc, zX0_in hc⟩
theorem zX0_mono {cal : Nat → List Value → zH → (Option Value → zH → Prop) → Prop} (hc : ∀ y a h (Q Q' : Option Value → zH → Prop), (∀ r h, Q r h → Q' r h) → cal y a h Q → cal y a h Q') {code : Nat → Option zE} {Q Q' : Option Value → zH → Prop} (hQ : ∀ r h, Q r h → Q' r h) {pc : Nat} {lv : zL} {st : zS} {h : zH} (hg : zX0 cal code Q pc lv st h) : zX0 cal code Q' pc lv st h :=
  hg (fun pc lv st h => zX0 cal code Q' pc lv st h) (fun pc lv st h q => zX0_in hc (zSx_mono hc (fun _ _ _ _ q => q) hQ q))
theorem zbi_mono {d y : Nat} {args : List Value} {h : zH} {Q Q' : Option Value → zH → Prop} (hQ : ∀ r h, Q r h → Q' r h) (hg : zbi d y args h Q) : zbi d y args h Q' := by
  unfold zbi at hg ⊢
  split at hg
  · split at hg
    · exact hQ _ _ hg
    · exact hg
  · split at hg
    · exact hQ _ _ hg
    · exact hg
  · split at hg
    · exact hQ _ _ hg
    · exact hg
  · unfold zcopy at hg ⊢
    split at hg
    · exact ⟨hg.1, hQ _ _ hg.2⟩
    · exact hg
  · split at hg
    · exact ⟨hg.1, hQ _ _ hg.2⟩
    · exact hg
  · split at hg
    · exact ⟨hg.1, hQ _ _ hg.2⟩
    · exact hg
  · exact hg.elim
theorem zM0_mono {cod : Nat → Nat → Option zE} {nL : Nat → Nat} : ∀ (d : Nat) (y : Nat) (a : List Value) (h : zH) (Q Q' : Option Value → zH → Prop), (∀ r h, Q r h → Q' r h) → zM0 cod nL d y a h Q → zM0 cod nL d y a h Q'
  | 0, _, _, _, _, _, _, hg => hg.elim
  | d + 1, y, a, h, Q, Q', hQ, hg => ⟨fun q => zbi_mono hQ (hg.1 q), fun q => zX0_mono (zM0_mono d) hQ (hg.2 q)⟩
end
section
/-! the methods: name, bytes, locals, result, how many parameters, static -/
def zyT0 : List (MethodName × ByteArray × Nat × Option FieldType × Nat × Bool) := [(yX0_isKind, cX0_isKind, 1, (some .boolean), 1, true),
  (yX0_isOf, cX0_isOf, 4, (some .boolean), 2, true),
  (yX0_pays, cX0_pays, 2, (some .int), 2, true),
  (yX0_takes, cX0_takes, 1, (some .int), 1, true),
  (yX0_urges, cX0_urges, 2, (some .int), 2, true),
  (yX0_worth, cX0_worth, 2, (some .int), 2, true),
  (yX1_learn, cX1_learn, 3, none, 2, false),
  (yX1_gives, cX1_gives, 8, (some .int), 4, false),
  (yX1_joined, cX1_joined, 3, (some .int), 3, true),
  (yX2_take, cX2_take, 3, none, 1, false),
  (yX2_readTape, cX2_readTape, 1, (some .int), 0, false),
  (yX2_goAhead, cX2_goAhead, 3, none, 0, false),
  (yX2_isWord, cX2_isWord, 1, (some .boolean), 0, false),
  (yX2_byteAt, cX2_byteAt, 2, (some .int), 1, false),
  (yX2_sortAt, cX2_sortAt, 3, (some .int), 1, false),
  (yX2_meetsFault, cX2_meetsFault, 1, none, 0, false),
  (yX2_isSign, cX2_isSign, 2, (some .boolean), 1, false),
  (yX2_puts, cX2_puts, 2, none, 1, false),
  (yX2_readKey, cX2_readKey, 1, none, 0, false),
  (yX2_spells, cX2_spells, 3, (some .boolean), 1, false),
  (yX2_readOr, cX2_readOr, 4, none, 2, false),
  (yX2_readAnd, cX2_readAnd, 4, none, 2, false),
  (yX2_readTest, cX2_readTest, 4, none, 2, false),
  (yX2_readSum, cX2_readSum, 5, none, 2, false),
  (yX2_readTerm, cX2_readTerm, 5, none, 2, false),
  (yX2_readPiece, cX2_readPiece, 3, none, 2, false)]
def zyT1 : List (MethodName × ByteArray × Nat × Option FieldType × Nat × Bool) := [(yX2_readClosing, cX2_readClosing, 1, none, 0, false),
  (yX2_readNumber, cX2_readNumber, 3, none, 0, false),
  (yX2_readName, cX2_readName, 2, none, 0, false),
  (yX2_name, cX2_name, 3, (some .int), 0, false),
  (yX3_becomesNew, cX3_becomesNew, 4, none, 2, false),
  (yX3_become, cX3_become, 2, none, 1, false),
  (yX3_isMissing, cX3_isMissing, 1, (some .boolean), 0, false),
  (yX3_hasPlace, cX3_hasPlace, 2, (some .boolean), 1, false),
  (yX3_hasPlaces, cX3_hasPlaces, 3, (some .boolean), 2, false),
  (yX3_isNumber, cX3_isNumber, 2, (some .boolean), 1, false),
  (yX5_become, cX5_become, 2, none, 1, false),
  (yX5_has, cX5_has, 2, (some .boolean), 1, false),
  (yX5_comes, cX5_comes, 5, (some .int), 3, false),
  (yX5_draw, cX5_draw, 1, (some .int), 0, false),
  (yX5_howManyOn, cX5_howManyOn, 4, (some .int), 1, false),
  (yX5_allOf, cX5_allOf, 4, (some .int), 1, false),
  (yX5_haveAllBeenOver, cX5_haveAllBeenOver, 2, (some .boolean), 0, false),
  (yX5_pays, cX5_pays, 4, (some .int), 1, false),
  (yX5_paidBy, cX5_paidBy, 4, (some .int), 1, false),
  (yX5_pullAt, cX5_pullAt, 4, (some .int), 2, false),
  (yX5_effect, cX5_effect, 1, (some .int), 0, false),
  (yX5_minutes, cX5_minutes, 2, (some .int), 0, false),
  (yX5_whoBoards, cX5_whoBoards, 8, (some .int), 0, false),
  (yX5_mostUrging, cX5_mostUrging, 6, (some .int), 1, false),
  (yX5_bestSet, cX5_bestSet, 7, (some .int), 0, false),
  (yX5_setOn, cX5_setOn, 4, (some .int), 1, false)]
def zyT2 : List (MethodName × ByteArray × Nat × Option FieldType × Nat × Bool) := [(yX5_mayCross, cX5_mayCross, 5, (some .boolean), 1, false),
  (yX5_goOn, cX5_goOn, 3, none, 1, false),
  (yX5_takeStep, cX5_takeStep, 4, none, 0, false),
  (yX5_waitsForMore, cX5_waitsForMore, 2, (some .boolean), 0, false),
  (yX5_isDoctorHere, cX5_isDoctorHere, 2, (some .boolean), 0, false),
  (yX5_crosses, cX5_crosses, 4, none, 1, false),
  (yX6_load, cX6_load, 4, (some .int), 3, false),
  (yX6_told, cX6_told, 3, (some .int), 2, false),
  (yX6_as, cX6_as, 3, (some .int), 2, false),
  (yX6_turns, cX6_turns, 3, (some .int), 2, false),
  (yX6_set, cX6_set, 4, (some .int), 3, false),
  (yX6_boat, cX6_boat, 2, (some .int), 1, false),
  (yX6_rule, cX6_rule, 3, (some .int), 2, false),
  (yX6_pull, cX6_pull, 2, (some .int), 1, false),
  (yX6_loading, cX6_loading, 1, (some .int), 0, false),
  (yX6_deal, cX6_deal, 7, (some .int), 1, false),
  (yX6_seed, cX6_seed, 3, (some .int), 1, false),
  (yX6_steps, cX6_steps, 3, (some .int), 1, false),
  (yX6_book, cX6_book, 2, (some .int), 1, false),
  (yX6_high, cX6_high, 2, (some .int), 0, false),
  (yX6_best, cX6_best, 3, (some .int), 1, false),
  (yX6_behind, cX6_behind, 3, (some .int), 2, false),
  (yX6_slant, cX6_slant, 7, (some .int), 2, false),
  (yX6_patience, cX6_patience, 6, (some .int), 2, false),
  (yX6_left, cX6_left, 6, (some .int), 2, false),
  (yX6_allOver, cX6_allOver, 2, (some .int), 0, false)]
def zyT3 : List (MethodName × ByteArray × Nat × Option FieldType × Nat × Bool) := [(yX6_slanted, cX6_slanted, 8, (some .int), 2, false),
  (yX6_differences, cX6_differences, 5, (some .int), 2, false),
  (yX6_fine, cX6_fine, 2, (some .int), 0, false),
  (yX6_feed, cX6_feed, 4, (some .int), 3, false),
  (yX6_trim, cX6_trim, 2, (some .int), 1, false),
  (yX6_text, cX6_text, 3, (some .int), 0, false),
  (yX6_textTold, cX6_textTold, 3, (some .int), 2, false),
  (yX6_why, cX6_why, 2, (some .int), 1, false),
  (yX6_sheet, cX6_sheet, 5, (some .int), 3, false),
  (yX6_mark, cX6_mark, 5, (some .int), 3, false),
  (yX6_pour, cX6_pour, 6, (some .int), 1, false),
  (yX6_reads, cX6_reads, 4, (some .int), 1, false),
  (yX6_copy, cX6_copy, 8, (some .int), 5, false),
  (yX6_lay, cX6_lay, 6, (some .int), 3, false),
  (yX6_ask, cX6_ask, 4, (some .int), 2, false),
  (yX6_item, cX6_item, 4, (some .int), 2, false),
  (yX6_rest, cX6_rest, 4, (some .int), 2, false),
  (yX6_sheetAt, cX6_sheetAt, 2, (some (.object "RopeFerry$Sheet")), 1, false),
  (yX6_slotAt, cX6_slotAt, 2, (some (.object "RopeFerry$Slot")), 1, false),
  (yX6_tell, cX6_tell, 2, (some .int), 1, false),
  (yX6_check, cX6_check, 5, (some .int), 1, false),
  (yX6_isNumberAt, cX6_isNumberAt, 4, (some .boolean), 3, false),
  (yX6_keep, cX6_keep, 1, (some .int), 0, false),
  (yX6_back, cX6_back, 1, (some .int), 0, false),
  (yX6_count, cX6_count, 2, (some .int), 1, false),
  (yX6_within, cX6_within, 3, (some .boolean), 3, true)]
def zyT4 : List (MethodName × ByteArray × Nat × Option FieldType × Nat × Bool) := [(yX6_held, cX6_held, 3, (some .int), 3, true),
  (yX6_swapped, cX6_swapped, 6, (some .int), 5, true),
  (yX7_isIn, cX7_isIn, 6, (some .boolean), 3, true),
  (yX7_orNone, cX7_orNone, 1, (some .int), 1, true),
  (yX7_held, cX7_held, 3, (some .int), 3, true),
  (yX7_off, cX7_off, 2, (some .int), 2, true),
  (yX7_manyIn, cX7_manyIn, 3, (some .int), 1, true),
  (yX7_becomes, cX7_becomes, 4, (some .int), 2, false),
  (yX7_textAt, cX7_textAt, 2, (some .int), 1, false),
  (yX7_of, cX7_of, 3, (some .int), 2, false),
  (yX7_sets, cX7_sets, 4, none, 3, false),
  (yX7_isLoad, cX7_isLoad, 2, (some .boolean), 1, false),
  (yX7_isText, cX7_isText, 2, (some .boolean), 1, false),
  (yX7_drawn, cX7_drawn, 1, (some .int), 0, false),
  (yX7_comes, cX7_comes, 5, none, 3, false),
  (yX7_load, cX7_load, 4, (some .int), 3, false),
  (yX7_pays, cX7_pays, 4, (some .int), 1, false),
  (yX7_takes, cX7_takes, 2, (some .int), 1, false),
  (yX7_urges, cX7_urges, 3, (some .int), 1, false),
  (yX7_worth, cX7_worth, 3, (some .int), 1, false),
  (yX7_told, cX7_told, 3, (some .int), 2, false),
  (yX7_isOf, cX7_isOf, 2, (some .boolean), 2, true),
  (yX7_as, cX7_as, 3, (some .int), 2, false),
  (yX7_turns, cX7_turns, 3, (some .int), 2, false),
  (yX7_set, cX7_set, 4, (some .int), 3, false),
  (yX7_effect, cX7_effect, 2, (some .int), 0, false)]
def zyT5 : List (MethodName × ByteArray × Nat × Option FieldType × Nat × Bool) := [(yX7_minutes, cX7_minutes, 2, (some .int), 0, false),
  (yX7_boat, cX7_boat, 2, (some .int), 1, false),
  (yX7_mostOf, cX7_mostOf, 1, (some .int), 1, true),
  (yX7_rule, cX7_rule, 3, (some .int), 2, false),
  (yX7_pullOf, cX7_pullOf, 3, (some .int), 1, false),
  (yX7_pull, cX7_pull, 2, (some .int), 1, false),
  (yX7_nextUrging, cX7_nextUrging, 5, (some .int), 1, false),
  (yX7_loads, cX7_loads, 6, (some .int), 0, false),
  (yX7_loading, cX7_loading, 1, (some .int), 0, false),
  (yX7_deal, cX7_deal, 5, (some .int), 1, false),
  (yX7_seed, cX7_seed, 2, (some .int), 1, false),
  (yX7_manyOn, cX7_manyOn, 4, (some .int), 1, false),
  (yX7_hasDoctor, cX7_hasDoctor, 3, (some .boolean), 1, false),
  (yX7_stays, cX7_stays, 2, (some .int), 0, false),
  (yX7_goesOn, cX7_goesOn, 4, none, 0, false),
  (yX7_steps, cX7_steps, 4, (some .int), 1, false),
  (yX7_allOf, cX7_allOf, 4, (some .int), 1, false),
  (yX7_book, cX7_book, 2, (some .int), 1, false),
  (yX7_high, cX7_high, 4, (some .int), 0, false),
  (yX7_best, cX7_best, 11, (some .int), 1, false),
  (yX7_laysBy, cX7_laysBy, 2, none, 0, false),
  (yX7_laysBack, cX7_laysBack, 2, none, 0, false),
  (yX7_goesOnMany, cX7_goesOnMany, 3, none, 1, false),
  (yX7_behind, cX7_behind, 4, (some .int), 2, false),
  (yX7_slant, cX7_slant, 7, (some .int), 2, false),
  (yX7_patience, cX7_patience, 7, (some .int), 2, false)]
def zyT6 : List (MethodName × ByteArray × Nat × Option FieldType × Nat × Bool) := [(yX7_left, cX7_left, 7, (some .int), 2, false),
  (yX7_areOver, cX7_areOver, 2, (some .boolean), 0, false),
  (yX7_allOver, cX7_allOver, 3, (some .int), 0, false),
  (yX7_fine, cX7_fine, 2, (some .int), 0, false),
  (yX7_feed, cX7_feed, 6, (some .int), 3, false),
  (yX7_trim, cX7_trim, 2, (some .int), 1, false),
  (yX7_isLetter, cX7_isLetter, 2, (some .boolean), 1, false),
  (yX7_isDigit, cX7_isDigit, 2, (some .boolean), 1, false),
  (yX7_nextToken, cX7_nextToken, 3, none, 0, false),
  (yX7_isSign, cX7_isSign, 2, (some .boolean), 1, false),
  (yX7_isWordAt, cX7_isWordAt, 6, (some .boolean), 4, false),
  (yX7_key, cX7_key, 1, (some .int), 0, false),
  (yX7_isName, cX7_isName, 2, (some .boolean), 2, true),
  (yX7_step, cX7_step, 3, none, 2, false),
  (yX7_either, cX7_either, 2, (some .boolean), 1, false),
  (yX7_both, cX7_both, 2, (some .boolean), 1, false),
  (yX7_test, cX7_test, 3, (some .boolean), 1, false),
  (yX7_sum, cX7_sum, 3, (some .boolean), 1, false),
  (yX7_term, cX7_term, 3, (some .boolean), 1, false),
  (yX7_part0, cX7_part0, 2, (some .boolean), 1, false),
  (yX7_parse, cX7_parse, 3, (some .int), 0, false),
  (yX7_text, cX7_text, 3, (some .int), 0, false),
  (yX7_textTold, cX7_textTold, 3, (some .int), 2, false),
  (yX7_counts, cX7_counts, 4, (some .int), 1, false),
  (yX7_why, cX7_why, 2, (some .int), 1, false),
  (yX7_joined, cX7_joined, 3, (some .int), 3, true)]
def zyT7 : List (MethodName × ByteArray × Nat × Option FieldType × Nat × Bool) := [(yX7_worked, cX7_worked, 6, (some .int), 1, false),
  (yX7_isSheet, cX7_isSheet, 1, (some .boolean), 1, true),
  (yX7_sheet, cX7_sheet, 5, (some .int), 3, false),
  (yX7_mark, cX7_mark, 4, (some .int), 3, false),
  (yX7_pour, cX7_pour, 6, (some .int), 1, false),
  (yX7_reads, cX7_reads, 4, (some .int), 1, false),
  (yX7_slanted, cX7_slanted, 9, (some .int), 2, false),
  (yX7_copy, cX7_copy, 7, (some .int), 5, false),
  (yX7_isSlot, cX7_isSlot, 1, (some .boolean), 1, true),
  (yX7_lay, cX7_lay, 7, (some .int), 3, false),
  (yX7_ask, cX7_ask, 3, (some .int), 2, false),
  (yX7_item, cX7_item, 4, (some .int), 2, false),
  (yX7_rest, cX7_rest, 3, (some .int), 2, false),
  (yX7_tell, cX7_tell, 2, (some .int), 1, false),
  (yX7_setAside, cX7_setAside, 4, none, 2, false),
  (yX7_check, cX7_check, 5, (some .int), 1, false),
  (yX7_keep, cX7_keep, 1, (some .int), 0, false),
  (yX7_back, cX7_back, 1, (some .int), 0, false),
  (yX7_count, cX7_count, 2, (some .int), 1, false),
  (yJ6_bitCount_0f7a4, cJ6_bitCount_0f7a4, 1, (some .int), 1, true)]
def zyT : List (MethodName × ByteArray × Nat × Option FieldType × Nat × Bool) := zyT0 ++ zyT1 ++ zyT2 ++ zyT3 ++ zyT4 ++ zyT5 ++ zyT6 ++ zyT7
def zyR (y : Nat) : MethodName × ByteArray × Nat × Option FieldType × Nat × Bool := zyT.getD y (yX0_isKind, cX0_isKind, 1, some .boolean, 1, true)
def zyN (y : Nat) : MethodName := (zyR y).1
def zyB (y : Nat) : ByteArray := (zyR y).2.1
def zyL (y : Nat) : Nat := (zyR y).2.2.1
def zyQ (y : Nat) : Option FieldType := (zyR y).2.2.2.1
def zyP (y : Nat) : Nat := (zyR y).2.2.2.2.1
def zyS (y : Nat) : Bool := (zyR y).2.2.2.2.2
def zNest : Jvm.Cond → Bool
  | .fieldLinkNest _ _ _ _ _ _ => true
  | .methodLinkNest _ _ _ _ => true
  | _ => false
def ztab (k : Nat) : List Jvm.Cond := match k with
  | 0 => k2_sels lw_privs | 1 => tables_1_1 | 2 => tables_1_2 | 3 => tables_1_3 | 4 => tables_1_4 | 5 => tables_1_5 | 6 => tables_1_6 | _ => []
/-- a word of the tables by its place -/
def zG (u : Nat) (w : Jvm.Cond) : Bool := decide ((ztab (u / 1000))[u % 1000]? = some w) && goodWord w
def zN (u : Nat) (w : Jvm.Cond) : Bool := decide ((ztab (u / 1000))[u % 1000]? = some w) && zNest w
theorem ztab_in {k : Nat} {w : Jvm.Cond} (h : w ∈ ztab k) : w ∈ lw_tbl := by
  unfold lw_tbl tables_1
  match k, h with
  | 0, h => exact List.mem_append_left _ h
  | 1, h => exact List.mem_append_right _ (List.mem_append_left _ h)
  | 2, h => exact List.mem_append_right _ (List.mem_append_right _ (List.mem_append_left _ h))
  | 3, h => exact List.mem_append_right _ (List.mem_append_right _ (List.mem_append_right _ (List.mem_append_left _ h)))
  | 4, h => exact List.mem_append_right _ (List.mem_append_right _ (List.mem_append_right _ (List.mem_append_right _ (List.mem_append_left _ h))))
  | 5, h => exact List.mem_append_right _ (List.mem_append_right _ (List.mem_append_right _ (List.mem_append_right _ (List.mem_append_right _ (List.mem_append_left _ h)))))
  | 6, h => exact List.mem_append_right _ (List.mem_append_right _ (List.mem_append_right _ (List.mem_append_right _ (List.mem_append_right _ (List.mem_append_right _ h)))))
  | k + 7, h => exact absurd h List.not_mem_nil
theorem zG_in {u : Nat} {w : Jvm.Cond} (h : zG u w = true) : w ∈ lw_tbl ∧ goodWord w = true := by
  simp only [zG, Bool.and_eq_true, decide_eq_true_eq] at h
  exact ⟨ztab_in (List.mem_of_getElem? h.1), h.2⟩
theorem zN_in {u : Nat} {w : Jvm.Cond} (h : zN u w = true) : w ∈ lw_tbl ∧ zNest w = true := by
  simp only [zN, Bool.and_eq_true, decide_eq_true_eq] at h
  exact ⟨ztab_in (List.mem_of_getElem? h.1), h.2⟩
abbrev zcl : List vw_C := [(RX0, TX0, 0), (RX1, TX1, 5), (RX2, TX2, 11), (RX3, TX3, 3), (RX4, TX4, 5), (RX5, TX5, 15), (RX6, TX6, 10), (RX7, TX7, 33)]
def zstc : List (String × String × String × FieldType × Nat) := [(RX0, "ABOVE", "[I", .int, 80), (RX5, "LOWEST", "[I", .int, 81), (RX5, "HIGHEST", "[I", .int, 82), (RX2, "NAMES_BY_KEY", "[C", .char, 83)]
def zlit : List (Nat × String × Nat) := [(81, "toll", 86), (89, "pull", 87), (91, "fine", 88)]
/-- the length of an instruction -/
def zlen (ins : Instr) (b : Nat) : Nat := match ins with
  | .iconst _ | .lconst _ | .aconst_null | .iload_n _ | .lload_n _ | .aload_n _ | .istore_n _ | .astore_n _ | .iadd | .isub | .imul | .iand | .ior | .ixor | .idiv | .irem | .ineg | .ishl | .ishr | .iushr | .i2l | .i2s | .ladd | .lcmp | .dup | .pop | .dup2 | .iaload | .caload | .aaload | .iastore | .arraylength | .ireturn | .areturn | .return_ => 1
  | .bipush _ | .ldc _ | .iload _ | .lload _ | .aload _ | .istore _ | .astore _ => 2
  | .tableswitch _ _ _ _ | .lookupswitch _ _ => b
  | _ => 3
def zksT (pc : Nat) : Int → List Int → List (Int32 × Nat) → Bool
  | _, [], [] => true
  | lo, o :: os, q :: ks => decide (q.1 = Int32.ofInt lo) && decide ((pc : Int) + o = (q.2 : Int)) && zksT pc (lo + 1) os ks
  | _, _, _ => false
def zksL (pc : Nat) : List (Int × Int) → List (Int32 × Nat) → Bool
  | [], [] => true
  | p :: ps, q :: ks => decide (q.1 = Int32.ofInt p.1) && decide ((pc : Int) + p.2 = (q.2 : Int)) && decide (-2147483648 ≤ p.1 ∧ p.1 < 2147483648) && zksL pc ps ks
  | _, _ => false
def zF (u : Nat) (own : String) (i a b : Nat) : Bool := match zcl[a]? with
  | some q => decide (b < q.2.2) && decide ((q.2.1 b).1 = q.1) && (zG u (.fieldLink own i q.1 (q.2.1 b).2.1 (q.2.1 b).2.2.1) || zN u (.fieldLinkNest own i q.1 (q.2.1 b).2.1 (q.2.1 b).2.2.1 "RopeFerry"))
  | none => false
def zFw (a b d : Nat) : Bool := match zcl[a]? with
  | some q => decide ((q.2.1 b).2.2.2 = false) && decide (zrfo a b 0 = none) && decide ((parseFieldDescriptor (q.2.1 b).2.2.1 = some .int) ∨ (d = 1 ∧ parseFieldDescriptor (q.2.1 b).2.2.1 = some .boolean))
  | none => false
def zFs (u : Nat) (own : String) (i a b : Nat) : Bool := match zstc[a]? with
  | some q => decide (q.2.2.2.2 = b) && (zG u (.fieldLink own i q.1 q.2.1 q.2.2.1) || zN u (.fieldLinkNest own i q.1 q.2.1 q.2.2.1 "RopeFerry"))
  | none => false
def zML (u : Nat) (own : String) (i : Nat) (y : MethodName) : Bool := zG u (.methodLink own i y) || zN u (.methodLinkNest own i y "RopeFerry")
def zcS (u : Nat) (own : String) (i a b : Nat) : Bool := match a with
  | 1000 => zG u (.methodLink own i Lib.Math.max.name) && decide (b = 2)
  | 1001 => zG u (.methodLink own i Lib.Math.min.name) && decide (b = 2)
  | 1002 => zG u (.methodLink own i Lib.Math.abs.name) && decide (b = 1)
  | 1003 => zG u (.methodLink own i arraycopyName) && decide (b = 5)
  | y => decide (y < 202) && zML u own i (zyN y) && zyS y && decide (b = zyP y)
def zcV (u : Nat) (own : String) (i a b d : Nat) : Bool := match a with
  | 1004 => zG u (.methodLink own i yJ0_length_8abf5) && decide (b = 0 ∧ d = 23)
  | 1005 => zG u (.methodLink own i yJ0_charAt_5068e) && decide (b = 1 ∧ d = 23)
  | y => decide (y < 202) && zML u own i (zyN y) && !(zyS y) && decide (b = zyP y) && decide ((zcl[d]?).map (·.1) = some (zyN y).cls)
/-- what an entry of a code table must fit -/
def zlk (own : String) (nL : Nat) (nol : Bool) (rk : Option FieldType) (u : Nat) : zE → Bool
  | (pc, ins, a, b, d, v, ks) => match ins with
    | .iconst n => decide (Int32.ofInt n = v)
    | .bipush n => decide ((Int8.ofInt n).toInt32 = v)
    | .sipush n => decide ((Int16.ofInt n).toInt32 = v)
    | .ldc i => (decide (a = 0) && zG u (.constant own i v)) || (decide (a = 1) && decide (own = RX2) && zlit.any (fun q => decide (q.1 = i ∧ q.2.2 = b)))
    | .ldc_w i => zG u (.constant own i v)
    | .lconst n => decide (Int64.ofNat (n : Nat) = v.toInt64)
    | .ldc2_w i => zG u (.constantLong own i v.toInt64)
    | .iload i | .lload i | .aload i => decide (i = a)
    | .iload_n k | .lload_n k | .aload_n k => decide ((k : Nat) = a)
    | .istore i | .astore i => decide (i = a) && decide (a < nL) && nol
    | .istore_n k | .astore_n k => decide ((k : Nat) = a) && decide (a < nL) && nol
    | .iinc i n => decide (i = a) && decide (a < nL) && nol && decide (Int32.ofInt n = v)
    | .goto off | .ifCond _ off | .if_icmp _ off | .ifnull off | .ifnonnull off => decide ((pc : Int) + off = (a : Int))
    | .tableswitch df lo hi offs => decide ((pc : Int) + df = (a : Int)) && zksT pc lo offs.toList ks && decide (hi + 1 = lo + offs.toList.length) && decide (-2147483648 ≤ lo ∧ hi < 2147483648)
    | .lookupswitch df ps => decide ((pc : Int) + df = (a : Int)) && zksL pc ps.toList ks && (ps.toList.zip (ps.toList.drop 1)).all (fun (a, next) => a.1 < next.1)
    | .getfield i => zF u own i a b
    | .putfield i => zF u own i a b && zFw a b d
    | .getstatic i => zFs u own i a b
    | .invokestatic i => zcS u own i a b
    | .invokevirtual i => zcV u own i a b d
    | .ireturn => decide (rk = some .int) || (decide (rk = some .boolean) && decide (d = 1))
    | .areturn => (match rk with | some (.object _) => true | _ => false)
    | .return_ => decide (rk = none)
    | _ => true
def zchk (own : String) (cc : ByteArray) (nL : Nat) (nol : Bool) (rk : Option FieldType) : List zE → List Nat → Bool
  | [], [] => true
  | e :: l, u :: us => decide (decode cc e.1 = .ok (e.2.1, zlen e.2.1 e.2.2.2.1)) && zlk own nL nol rk u e && zchk own cc nL nol rk l us
  | _, _ => false
/-- what a method's row must fit -/
def zmok (u : Nat × Nat × Nat × Nat) (q : MethodName × ByteArray × Nat × Option FieldType × Nat × Bool) : Bool :=
  zG u.1 (.code q.1 q.2.1 q.2.2.1 q.2.2.2.1) && zG u.2.1 (.initialized q.1.cls) && (if q.2.2.2.2.2 then zG u.2.2.1 (.static q.1) else zG u.2.2.1 (.instanceMethod q.1) && zG u.2.2.2 (.selects q.1.cls q.1 q.1))
  && plainName q.1.cls && decide (q.1.cls ≠ "java/lang/invoke/MethodHandle" ∧ q.1.cls ≠ "java/lang/invoke/VarHandle") && decide ((parseMethodDescriptor q.1.desc).map (fun d => d.parameters.length) = some q.2.2.2.2.1) && decide (q.2.2.1 ≤ 30)
def zmoks : List (Nat × Nat × Nat × Nat) → List (MethodName × ByteArray × Nat × Option FieldType × Nat × Bool) → Bool
  | [], [] => true
  | u :: us, q :: qs => zmok u q && zmoks us qs
  | _, _ => false
theorem zmok_0 : zmoks [(2008, 1008, 2007, 0), (2070, 1008, 2069, 0), (2053, 1008, 2052, 0), (2057, 1008, 2056, 0), (2060, 1008, 2059, 0), (2063, 1008, 2062, 0), (3200, 1003, 3198, 3199), (2037, 1003, 2035, 2036), (2041, 1003, 2040, 0), (3053, 1002, 3051, 3052), (3065, 1002, 3063, 3064), (3069, 1002, 3068, 8), (3073, 1002, 3072, 9), (3077, 1002, 3076, 10), (3081, 1002, 3080, 11), (3146, 1002, 3145, 14), (3196, 1002, 3195, 26), (3178, 1002, 3177, 22), (3087, 1002, 3086, 12), (3092, 1002, 3091, 13), (3150, 1002, 3149, 15), (3154, 1002, 3153, 16), (3158, 1002, 3157, 17), (3162, 1002, 3161, 18), (3166, 1002, 3165, 19), (3170, 1002, 3169, 20)] zyT0 = true := by decide +kernel
theorem zmok_1 : zmoks [(3192, 1002, 3191, 25), (3174, 1002, 3173, 21), (3182, 1002, 3181, 23), (3186, 1002, 3185, 24), (3218, 1005, 3216, 3217), (4019, 1005, 4017, 4018), (3024, 1005, 3022, 3023), (3037, 1005, 3035, 3036), (4006, 1005, 4004, 4005), (3033, 1005, 3031, 3032), (2228, 1004, 2226, 2227), (2028, 1004, 2026, 2027), (2018, 1004, 2016, 2017), (2142, 1004, 2140, 2141), (2167, 1004, 2165, 2166), (2192, 1004, 2190, 2191), (3011, 1004, 3009, 3010), (2032, 1004, 2030, 2031), (2178, 1004, 2176, 2177), (2119, 1004, 2117, 2118), (2093, 1004, 2091, 2092), (2101, 1004, 2099, 2100), (2127, 1004, 2125, 2126), (2131, 1004, 2130, 0), (2205, 1004, 2203, 2204), (2209, 1004, 2208, 4)] zyT1 = true := by decide +kernel
theorem zmok_2 : zmoks [(2213, 1004, 2212, 5), (2155, 1004, 2153, 2154), (2159, 1004, 2157, 2158), (2163, 1004, 2162, 1), (2171, 1004, 2170, 2), (2183, 1004, 2182, 3), (2005, 1001, 2003, 2004), (2024, 1001, 2022, 2023), (2067, 1001, 2065, 2066), (2078, 1001, 2076, 2077), (2085, 1001, 2083, 2084), (2089, 1001, 2087, 2088), (2107, 1001, 2105, 2106), (2115, 1001, 2113, 2114), (2123, 1001, 2121, 2122), (2138, 1001, 2136, 2137), (2147, 1001, 2145, 2146), (2151, 1001, 2149, 2150), (2188, 1001, 2186, 2187), (2196, 1001, 2194, 2195), (2201, 1001, 2199, 2200), (2224, 1001, 2222, 2223), (2235, 1001, 2233, 2234), (2239, 1001, 2237, 2238), (3003, 1001, 3001, 3002), (3007, 1001, 3005, 3006)] zyT2 = true := by decide +kernel
theorem zmok_3 : zmoks [(3016, 1001, 3014, 3015), (3029, 1001, 3028, 7), (3044, 1001, 3042, 3043), (3049, 1001, 3047, 3048), (3057, 1001, 3055, 3056), (3061, 1001, 3059, 3060), (3206, 1001, 3204, 3205), (3210, 1001, 3208, 3209), (3214, 1001, 3212, 3213), (3224, 1001, 3222, 3223), (3233, 1001, 3231, 3232), (3238, 1001, 3236, 3237), (4002, 1001, 4000, 4001), (4011, 1001, 4009, 4010), (4024, 1001, 4022, 4023), (4028, 1001, 4026, 4027), (4032, 1001, 4030, 4031), (3020, 1001, 3019, 6), (4015, 1001, 4014, 27), (4037, 1001, 4035, 4036), (4041, 1001, 4039, 4040), (4045, 1001, 4044, 28), (4049, 1001, 4047, 4048), (4053, 1001, 4051, 4052), (4057, 1001, 4055, 4056), (2011, 1001, 2010, 0)] zyT3 = true := by decide +kernel
theorem zmok_4 : zmoks [(2044, 1001, 2043, 0), (2081, 1001, 2080, 0), (4172, 1007, 4171, 0), (5105, 1007, 5104, 0), (4217, 1007, 4216, 0), (5023, 1007, 5022, 0), (5113, 1007, 5112, 0), (5005, 1007, 5004, 40), (4207, 1007, 4206, 35), (4195, 1007, 4194, 32), (4183, 1007, 4182, 30), (4191, 1007, 4190, 31), (5238, 1007, 5237, 70), (5064, 1007, 5063, 46), (4179, 1007, 4178, 29), (4168, 1007, 4166, 4167), (4199, 1007, 4198, 33), (4221, 1007, 4220, 37), (4225, 1007, 4224, 38), (4229, 1007, 4228, 39), (4187, 1007, 4185, 4186), (4236, 1007, 4235, 0), (4233, 1007, 4231, 4232), (5001, 1007, 4239, 5000), (5009, 1007, 5007, 5008), (5020, 1007, 5019, 41)] zyT4 = true := by decide +kernel
theorem zmok_5 : zmoks [(5027, 1007, 5026, 42), (5015, 1007, 5013, 5014), (5034, 1007, 5033, 0), (5031, 1007, 5029, 5030), (5043, 1007, 5042, 43), (5038, 1007, 5036, 5037), (5055, 1007, 5054, 45), (5051, 1007, 5050, 44), (5047, 1007, 5045, 5046), (5059, 1007, 5057, 5058), (5069, 1007, 5067, 5068), (5086, 1007, 5085, 49), (5090, 1007, 5089, 50), (5082, 1007, 5081, 48), (5078, 1007, 5077, 47), (5073, 1007, 5071, 5072), (5098, 1007, 5097, 51), (5094, 1007, 5092, 5093), (5102, 1007, 5100, 5101), (5110, 1007, 5108, 5109), (5122, 1007, 5121, 52), (5130, 1007, 5129, 54), (5126, 1007, 5125, 53), (5117, 1007, 5115, 5116), (5134, 1007, 5132, 5133), (5139, 1007, 5137, 5138)] zyT5 = true := by decide +kernel
theorem zmok_6 : zmoks [(5143, 1007, 5141, 5142), (5151, 1007, 5150, 55), (5147, 1007, 5145, 5146), (5155, 1007, 5153, 5154), (5159, 1007, 5157, 5158), (5163, 1007, 5161, 5162), (5179, 1007, 5178, 58), (5185, 1007, 5184, 59), (5175, 1007, 5174, 57), (5230, 1007, 5229, 69), (5195, 1007, 5194, 61), (5191, 1007, 5190, 60), (5226, 1007, 5225, 0), (5223, 1007, 5222, 68), (5199, 1007, 5198, 62), (5203, 1007, 5202, 63), (5207, 1007, 5206, 64), (5211, 1007, 5210, 65), (5215, 1007, 5214, 66), (5219, 1007, 5218, 67), (5171, 1007, 5170, 56), (5167, 1007, 5165, 5166), (5234, 1007, 5232, 5233), (4203, 1007, 4202, 34), (6002, 1007, 6000, 6001), (4214, 1007, 4213, 0)] zyT6 = true := by decide +kernel
theorem zmok_7 : zmoks [(4211, 1007, 4210, 36), (6010, 1007, 6009, 0), (6007, 1007, 6005, 6006), (6016, 1007, 6014, 6015), (6024, 1007, 6022, 6023), (6028, 1007, 6026, 6027), (6032, 1007, 6030, 6031), (6036, 1007, 6034, 6035), (6043, 1007, 6042, 0), (6040, 1007, 6038, 6039), (6047, 1007, 6045, 6046), (6051, 1007, 6049, 6050), (6055, 1007, 6053, 6054), (6060, 1007, 6058, 6059), (6069, 1007, 6068, 71), (6064, 1007, 6062, 6063), (6073, 1007, 6071, 6072), (6077, 1007, 6075, 6076), (6081, 1007, 6079, 6080), (2216, 1010, 2215, 0)] zyT7 = true := by decide +kernel
end
