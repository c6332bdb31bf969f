-- ===== PART A: goes FIRST, ahead of the names: the tables' words, and 'selects' of the private methods out of them =====
/-- a private method of a class that the tables say can be made, by its rows of tables_1 -/
def lw_okq (q : MethodName × Nat) : Prop := (q.1.cls ≠ "java/lang/invoke/MethodHandle" ∧ q.1.cls ≠ "java/lang/invoke/VarHandle") ∧ Cond.instantiable q.1.cls q.2 ∈ tables_1 ∧ Cond.privateMethod q.1 ∈ tables_1 ∧ Cond.instanceMethod q.1 ∈ tables_1
theorem lw_p0 : lw_okq (⟨"StripsFromAbove$Reader", "advance", "()V"⟩, 8) := ⟨⟨by decide +kernel, by decide +kernel⟩, List.mem_of_getElem? (i := 220) (by decide +kernel), List.mem_of_getElem? (i := 259) (by decide +kernel), List.mem_of_getElem? (i := 260) (by decide +kernel)⟩
theorem lw_p1 : lw_okq (⟨"StripsFromAbove$Reader", "readWord", "()V"⟩, 8) := ⟨⟨by decide +kernel, by decide +kernel⟩, List.mem_of_getElem? (i := 220) (by decide +kernel), List.mem_of_getElem? (i := 272) (by decide +kernel), List.mem_of_getElem? (i := 273) (by decide +kernel)⟩
theorem lw_p2 : lw_okq (⟨"StripsFromAbove$Reader", "wordNumber", "(I)I"⟩, 8) := ⟨⟨by decide +kernel, by decide +kernel⟩, List.mem_of_getElem? (i := 220) (by decide +kernel), List.mem_of_getElem? (i := 276) (by decide +kernel), List.mem_of_getElem? (i := 277) (by decide +kernel)⟩
theorem lw_p3 : lw_okq (⟨"StripsFromAbove$Reader", "readNumber", "()V"⟩, 8) := ⟨⟨by decide +kernel, by decide +kernel⟩, List.mem_of_getElem? (i := 220) (by decide +kernel), List.mem_of_getElem? (i := 286) (by decide +kernel), List.mem_of_getElem? (i := 287) (by decide +kernel)⟩
theorem lw_p4 : lw_okq (⟨"StripsFromAbove$Reader", "expect", "(I)V"⟩, 8) := ⟨⟨by decide +kernel, by decide +kernel⟩, List.mem_of_getElem? (i := 220) (by decide +kernel), List.mem_of_getElem? (i := 293) (by decide +kernel), List.mem_of_getElem? (i := 294) (by decide +kernel)⟩
theorem lw_p5 : lw_okq (⟨"StripsFromAbove$Reader", "refuse", "()V"⟩, 8) := ⟨⟨by decide +kernel, by decide +kernel⟩, List.mem_of_getElem? (i := 220) (by decide +kernel), List.mem_of_getElem? (i := 297) (by decide +kernel), List.mem_of_getElem? (i := 298) (by decide +kernel)⟩
theorem lw_p6 : lw_okq (⟨"StripsFromAbove$Reader", "readEither", "(I)V"⟩, 8) := ⟨⟨by decide +kernel, by decide +kernel⟩, List.mem_of_getElem? (i := 220) (by decide +kernel), List.mem_of_getElem? (i := 301) (by decide +kernel), List.mem_of_getElem? (i := 302) (by decide +kernel)⟩
theorem lw_p7 : lw_okq (⟨"StripsFromAbove$Reader", "readBoth", "(I)V"⟩, 8) := ⟨⟨by decide +kernel, by decide +kernel⟩, List.mem_of_getElem? (i := 220) (by decide +kernel), List.mem_of_getElem? (i := 305) (by decide +kernel), List.mem_of_getElem? (i := 306) (by decide +kernel)⟩
theorem lw_p8 : lw_okq (⟨"StripsFromAbove$Reader", "readNot", "(I)V"⟩, 8) := ⟨⟨by decide +kernel, by decide +kernel⟩, List.mem_of_getElem? (i := 220) (by decide +kernel), List.mem_of_getElem? (i := 309) (by decide +kernel), List.mem_of_getElem? (i := 310) (by decide +kernel)⟩
theorem lw_p9 : lw_okq (⟨"StripsFromAbove$Reader", "readSum", "(I)V"⟩, 8) := ⟨⟨by decide +kernel, by decide +kernel⟩, List.mem_of_getElem? (i := 220) (by decide +kernel), List.mem_of_getElem? (i := 318) (by decide +kernel), List.mem_of_getElem? (i := 319) (by decide +kernel)⟩
theorem lw_p10 : lw_okq (⟨"StripsFromAbove$Reader", "readTerm", "(I)V"⟩, 8) := ⟨⟨by decide +kernel, by decide +kernel⟩, List.mem_of_getElem? (i := 220) (by decide +kernel), List.mem_of_getElem? (i := 322) (by decide +kernel), List.mem_of_getElem? (i := 323) (by decide +kernel)⟩
theorem lw_p11 : lw_okq (⟨"StripsFromAbove$Reader", "readOne", "(I)V"⟩, 8) := ⟨⟨by decide +kernel, by decide +kernel⟩, List.mem_of_getElem? (i := 220) (by decide +kernel), List.mem_of_getElem? (i := 326) (by decide +kernel), List.mem_of_getElem? (i := 327) (by decide +kernel)⟩
theorem lw_p12 : lw_okq (⟨"StripsFromAbove", "isPlane", "(I)Z"⟩, 11) := ⟨⟨by decide +kernel, by decide +kernel⟩, List.mem_of_getElem? (i := 16) (by decide +kernel), List.mem_of_getElem? (i := 394) (by decide +kernel), List.mem_of_getElem? (i := 395) (by decide +kernel)⟩
theorem lw_p13 : lw_okq (⟨"StripsFromAbove", "lawAt", "(I)LStripsFromAbove$Law;"⟩, 11) := ⟨⟨by decide +kernel, by decide +kernel⟩, List.mem_of_getElem? (i := 16) (by decide +kernel), List.mem_of_getElem? (i := 421) (by decide +kernel), List.mem_of_getElem? (i := 422) (by decide +kernel)⟩
theorem lw_p14 : lw_okq (⟨"StripsFromAbove", "flyNow", "()V"⟩, 11) := ⟨⟨by decide +kernel, by decide +kernel⟩, List.mem_of_getElem? (i := 16) (by decide +kernel), List.mem_of_getElem? (i := 509) (by decide +kernel), List.mem_of_getElem? (i := 510) (by decide +kernel)⟩
theorem lw_p15 : lw_okq (⟨"StripsFromAbove$Flight", "flyStrip", "(LStripsFromAbove$Scene;LStripsFromAbove$Law;II)Z"⟩, 8) := ⟨⟨by decide +kernel, by decide +kernel⟩, List.mem_of_getElem? (i := 104) (by decide +kernel), List.mem_of_getElem? (i := 522) (by decide +kernel), List.mem_of_getElem? (i := 523) (by decide +kernel)⟩
def lw_privs_1 : List (MethodName × Nat) := [(⟨"StripsFromAbove$Reader", "advance", "()V"⟩, 8), (⟨"StripsFromAbove$Reader", "readWord", "()V"⟩, 8), (⟨"StripsFromAbove$Reader", "wordNumber", "(I)I"⟩, 8), (⟨"StripsFromAbove$Reader", "readNumber", "()V"⟩, 8), (⟨"StripsFromAbove$Reader", "expect", "(I)V"⟩, 8), (⟨"StripsFromAbove$Reader", "refuse", "()V"⟩, 8), (⟨"StripsFromAbove$Reader", "readEither", "(I)V"⟩, 8), (⟨"StripsFromAbove$Reader", "readBoth", "(I)V"⟩, 8), (⟨"StripsFromAbove$Reader", "readNot", "(I)V"⟩, 8), (⟨"StripsFromAbove$Reader", "readSum", "(I)V"⟩, 8), (⟨"StripsFromAbove$Reader", "readTerm", "(I)V"⟩, 8), (⟨"StripsFromAbove$Reader", "readOne", "(I)V"⟩, 8), (⟨"StripsFromAbove", "isPlane", "(I)Z"⟩, 11), (⟨"StripsFromAbove", "lawAt", "(I)LStripsFromAbove$Law;"⟩, 11), (⟨"StripsFromAbove", "flyNow", "()V"⟩, 11), (⟨"StripsFromAbove$Flight", "flyStrip", "(LStripsFromAbove$Scene;LStripsFromAbove$Law;II)Z"⟩, 8)]
theorem lw_r1 : ∀ q ∈ lw_privs_1, lw_okq q := List.forall_mem_cons.mpr ⟨lw_p0, List.forall_mem_cons.mpr ⟨lw_p1, List.forall_mem_cons.mpr ⟨lw_p2, List.forall_mem_cons.mpr ⟨lw_p3, List.forall_mem_cons.mpr ⟨lw_p4, List.forall_mem_cons.mpr ⟨lw_p5, List.forall_mem_cons.mpr ⟨lw_p6, List.forall_mem_cons.mpr ⟨lw_p7, List.forall_mem_cons.mpr ⟨lw_p8, List.forall_mem_cons.mpr ⟨lw_p9, List.forall_mem_cons.mpr ⟨lw_p10, List.forall_mem_cons.mpr ⟨lw_p11, List.forall_mem_cons.mpr ⟨lw_p12, List.forall_mem_cons.mpr ⟨lw_p13, List.forall_mem_cons.mpr ⟨lw_p14, List.forall_mem_cons.mpr ⟨lw_p15, fun _ h => absurd h List.not_mem_nil⟩⟩⟩⟩⟩⟩⟩⟩⟩⟩⟩⟩⟩⟩⟩⟩
theorem lw_p16 : lw_okq (⟨"StripsFromAbove$Flight", "driftsOver", "(LStripsFromAbove$Scene;LStripsFromAbove$Law;ZII)I"⟩, 8) := ⟨⟨by decide +kernel, by decide +kernel⟩, List.mem_of_getElem? (i := 104) (by decide +kernel), List.mem_of_getElem? (i := 527) (by decide +kernel), List.mem_of_getElem? (i := 528) (by decide +kernel)⟩
theorem lw_p17 : lw_okq (⟨"StripsFromAbove$Flight", "click", "(LStripsFromAbove$Scene;LStripsFromAbove$Law;ZII)V"⟩, 8) := ⟨⟨by decide +kernel, by decide +kernel⟩, List.mem_of_getElem? (i := 104) (by decide +kernel), List.mem_of_getElem? (i := 540) (by decide +kernel), List.mem_of_getElem? (i := 541) (by decide +kernel)⟩
theorem lw_p18 : lw_okq (⟨"StripsFromAbove$Flight", "cover", "(IIII)V"⟩, 8) := ⟨⟨by decide +kernel, by decide +kernel⟩, List.mem_of_getElem? (i := 104) (by decide +kernel), List.mem_of_getElem? (i := 547) (by decide +kernel), List.mem_of_getElem? (i := 548) (by decide +kernel)⟩
theorem lw_p19 : lw_okq (⟨"StripsFromAbove", "coveredBy", "(LStripsFromAbove$Scene;)I"⟩, 11) := ⟨⟨by decide +kernel, by decide +kernel⟩, List.mem_of_getElem? (i := 16) (by decide +kernel), List.mem_of_getElem? (i := 578) (by decide +kernel), List.mem_of_getElem? (i := 579) (by decide +kernel)⟩
theorem lw_p20 : lw_okq (⟨"StripsFromAbove", "planIn", "(III)V"⟩, 11) := ⟨⟨by decide +kernel, by decide +kernel⟩, List.mem_of_getElem? (i := 16) (by decide +kernel), List.mem_of_getElem? (i := 597) (by decide +kernel), List.mem_of_getElem? (i := 598) (by decide +kernel)⟩
theorem lw_p21 : lw_okq (⟨"StripsFromAbove", "refusalOf", "(II)I"⟩, 11) := ⟨⟨by decide +kernel, by decide +kernel⟩, List.mem_of_getElem? (i := 16) (by decide +kernel), List.mem_of_getElem? (i := 625) (by decide +kernel), List.mem_of_getElem? (i := 626) (by decide +kernel)⟩
theorem lw_p22 : lw_okq (⟨"StripsFromAbove", "sheetAt", "(I)LStripsFromAbove$Sheet;"⟩, 11) := ⟨⟨by decide +kernel, by decide +kernel⟩, List.mem_of_getElem? (i := 16) (by decide +kernel), List.mem_of_getElem? (i := 629) (by decide +kernel), List.mem_of_getElem? (i := 630) (by decide +kernel)⟩
theorem lw_p23 : lw_okq (⟨"StripsFromAbove", "firstOtherwise", "(LStripsFromAbove$Scene;II)I"⟩, 11) := ⟨⟨by decide +kernel, by decide +kernel⟩, List.mem_of_getElem? (i := 16) (by decide +kernel), List.mem_of_getElem? (i := 633) (by decide +kernel), List.mem_of_getElem? (i := 634) (by decide +kernel)⟩
theorem lw_p24 : lw_okq (⟨"StripsFromAbove", "drawClouds", "(II)V"⟩, 11) := ⟨⟨by decide +kernel, by decide +kernel⟩, List.mem_of_getElem? (i := 16) (by decide +kernel), List.mem_of_getElem? (i := 668) (by decide +kernel), List.mem_of_getElem? (i := 669) (by decide +kernel)⟩
theorem lw_p25 : lw_okq (⟨"StripsFromAboveModel", "next", "()V"⟩, 47) := ⟨⟨by decide +kernel, by decide +kernel⟩, List.mem_of_getElem? (i := 713) (by decide +kernel), List.mem_of_getElem? (i := 723) (by decide +kernel), List.mem_of_getElem? (i := 724) (by decide +kernel)⟩
theorem lw_p26 : lw_okq (⟨"StripsFromAboveModel", "wordFrom", "(II)I"⟩, 47) := ⟨⟨by decide +kernel, by decide +kernel⟩, List.mem_of_getElem? (i := 713) (by decide +kernel), List.mem_of_getElem? (i := 730) (by decide +kernel), List.mem_of_getElem? (i := 731) (by decide +kernel)⟩
theorem lw_p27 : lw_okq (⟨"StripsFromAboveModel", "eRead", "()Z"⟩, 47) := ⟨⟨by decide +kernel, by decide +kernel⟩, List.mem_of_getElem? (i := 713) (by decide +kernel), List.mem_of_getElem? (i := 734) (by decide +kernel), List.mem_of_getElem? (i := 735) (by decide +kernel)⟩
theorem lw_p28 : lw_okq (⟨"StripsFromAboveModel", "puts", "(I)V"⟩, 47) := ⟨⟨by decide +kernel, by decide +kernel⟩, List.mem_of_getElem? (i := 713) (by decide +kernel), List.mem_of_getElem? (i := 739) (by decide +kernel), List.mem_of_getElem? (i := 740) (by decide +kernel)⟩
theorem lw_p29 : lw_okq (⟨"StripsFromAboveModel", "unwinds", "(I)V"⟩, 47) := ⟨⟨by decide +kernel, by decide +kernel⟩, List.mem_of_getElem? (i := 713) (by decide +kernel), List.mem_of_getElem? (i := 743) (by decide +kernel), List.mem_of_getElem? (i := 744) (by decide +kernel)⟩
theorem lw_p30 : lw_okq (⟨"StripsFromAboveModel", "opensOne", "(I)Z"⟩, 47) := ⟨⟨by decide +kernel, by decide +kernel⟩, List.mem_of_getElem? (i := 713) (by decide +kernel), List.mem_of_getElem? (i := 750) (by decide +kernel), List.mem_of_getElem? (i := 751) (by decide +kernel)⟩
theorem lw_p31 : lw_okq (⟨"StripsFromAboveModel", "holds", "(I)V"⟩, 47) := ⟨⟨by decide +kernel, by decide +kernel⟩, List.mem_of_getElem? (i := 713) (by decide +kernel), List.mem_of_getElem? (i := 754) (by decide +kernel), List.mem_of_getElem? (i := 755) (by decide +kernel)⟩
def lw_privs_2 : List (MethodName × Nat) := [(⟨"StripsFromAbove$Flight", "driftsOver", "(LStripsFromAbove$Scene;LStripsFromAbove$Law;ZII)I"⟩, 8), (⟨"StripsFromAbove$Flight", "click", "(LStripsFromAbove$Scene;LStripsFromAbove$Law;ZII)V"⟩, 8), (⟨"StripsFromAbove$Flight", "cover", "(IIII)V"⟩, 8), (⟨"StripsFromAbove", "coveredBy", "(LStripsFromAbove$Scene;)I"⟩, 11), (⟨"StripsFromAbove", "planIn", "(III)V"⟩, 11), (⟨"StripsFromAbove", "refusalOf", "(II)I"⟩, 11), (⟨"StripsFromAbove", "sheetAt", "(I)LStripsFromAbove$Sheet;"⟩, 11), (⟨"StripsFromAbove", "firstOtherwise", "(LStripsFromAbove$Scene;II)I"⟩, 11), (⟨"StripsFromAbove", "drawClouds", "(II)V"⟩, 11), (⟨"StripsFromAboveModel", "next", "()V"⟩, 47), (⟨"StripsFromAboveModel", "wordFrom", "(II)I"⟩, 47), (⟨"StripsFromAboveModel", "eRead", "()Z"⟩, 47), (⟨"StripsFromAboveModel", "puts", "(I)V"⟩, 47), (⟨"StripsFromAboveModel", "unwinds", "(I)V"⟩, 47), (⟨"StripsFromAboveModel", "opensOne", "(I)Z"⟩, 47), (⟨"StripsFromAboveModel", "holds", "(I)V"⟩, 47)]
theorem lw_r2 : ∀ q ∈ lw_privs_2, lw_okq q := List.forall_mem_cons.mpr ⟨lw_p16, List.forall_mem_cons.mpr ⟨lw_p17, List.forall_mem_cons.mpr ⟨lw_p18, List.forall_mem_cons.mpr ⟨lw_p19, List.forall_mem_cons.mpr ⟨lw_p20, List.forall_mem_cons.mpr ⟨lw_p21, List.forall_mem_cons.mpr ⟨lw_p22, List.forall_mem_cons.mpr ⟨lw_p23, List.forall_mem_cons.mpr ⟨lw_p24, List.forall_mem_cons.mpr ⟨lw_p25, List.forall_mem_cons.mpr ⟨lw_p26, List.forall_mem_cons.mpr ⟨lw_p27, List.forall_mem_cons.mpr ⟨lw_p28, List.forall_mem_cons.mpr ⟨lw_p29, List.forall_mem_cons.mpr ⟨lw_p30, List.forall_mem_cons.mpr ⟨lw_p31, fun _ h => absurd h List.not_mem_nil⟩⟩⟩⟩⟩⟩⟩⟩⟩⟩⟩⟩⟩⟩⟩⟩
theorem lw_p32 : lw_okq (⟨"StripsFromAboveModel", "signOf", "()I"⟩, 47) := ⟨⟨by decide +kernel, by decide +kernel⟩, List.mem_of_getElem? (i := 713) (by decide +kernel), List.mem_of_getElem? (i := 758) (by decide +kernel), List.mem_of_getElem? (i := 759) (by decide +kernel)⟩
theorem lw_p33 : lw_okq (⟨"StripsFromAboveModel", "between", "(I)Z"⟩, 47) := ⟨⟨by decide +kernel, by decide +kernel⟩, List.mem_of_getElem? (i := 713) (by decide +kernel), List.mem_of_getElem? (i := 762) (by decide +kernel), List.mem_of_getElem? (i := 763) (by decide +kernel)⟩
theorem lw_p34 : lw_okq (⟨"StripsFromAboveModel", "isPlane", "(I)Z"⟩, 47) := ⟨⟨by decide +kernel, by decide +kernel⟩, List.mem_of_getElem? (i := 713) (by decide +kernel), List.mem_of_getElem? (i := 944) (by decide +kernel), List.mem_of_getElem? (i := 945) (by decide +kernel)⟩
theorem lw_p35 : lw_okq (⟨"StripsFromAboveModel", "asksOf", "(IIII)I"⟩, 47) := ⟨⟨by decide +kernel, by decide +kernel⟩, List.mem_of_getElem? (i := 713) (by decide +kernel), List.mem_of_getElem? (i := 948) (by decide +kernel), List.mem_of_getElem? (i := 949) (by decide +kernel)⟩
theorem lw_p36 : lw_okq (⟨"StripsFromAboveModel", "says", "(I)I"⟩, 47) := ⟨⟨by decide +kernel, by decide +kernel⟩, List.mem_of_getElem? (i := 713) (by decide +kernel), List.mem_of_getElem? (i := 952) (by decide +kernel), List.mem_of_getElem? (i := 953) (by decide +kernel)⟩
theorem lw_p37 : lw_okq (⟨"StripsFromAboveModel", "mileOf", "(I)I"⟩, 47) := ⟨⟨by decide +kernel, by decide +kernel⟩, List.mem_of_getElem? (i := 713) (by decide +kernel), List.mem_of_getElem? (i := 974) (by decide +kernel), List.mem_of_getElem? (i := 975) (by decide +kernel)⟩
theorem lw_p38 : lw_okq (⟨"StripsFromAboveModel", "turnOf", "(I)I"⟩, 47) := ⟨⟨by decide +kernel, by decide +kernel⟩, List.mem_of_getElem? (i := 713) (by decide +kernel), List.mem_of_getElem? (i := 978) (by decide +kernel), List.mem_of_getElem? (i := 979) (by decide +kernel)⟩
theorem lw_p39 : lw_okq (⟨"StripsFromAboveModel", "isStrip", "(I)Z"⟩, 47) := ⟨⟨by decide +kernel, by decide +kernel⟩, List.mem_of_getElem? (i := 713) (by decide +kernel), List.mem_of_getElem? (i := 990) (by decide +kernel), List.mem_of_getElem? (i := 991) (by decide +kernel)⟩
theorem lw_p40 : lw_okq (⟨"StripsFromAboveModel", "flown", "()I"⟩, 47) := ⟨⟨by decide +kernel, by decide +kernel⟩, List.mem_of_getElem? (i := 713) (by decide +kernel), List.mem_of_getElem? (i := 1002) (by decide +kernel), List.mem_of_getElem? (i := 1003) (by decide +kernel)⟩
theorem lw_p41 : lw_okq (⟨"StripsFromAboveModel", "stripOf", "(III)V"⟩, 47) := ⟨⟨by decide +kernel, by decide +kernel⟩, List.mem_of_getElem? (i := 713) (by decide +kernel), List.mem_of_getElem? (i := 1006) (by decide +kernel), List.mem_of_getElem? (i := 1007) (by decide +kernel)⟩
theorem lw_p42 : lw_okq (⟨"StripsFromAboveModel", "driftsOver", "(II)I"⟩, 47) := ⟨⟨by decide +kernel, by decide +kernel⟩, List.mem_of_getElem? (i := 713) (by decide +kernel), List.mem_of_getElem? (i := 1010) (by decide +kernel), List.mem_of_getElem? (i := 1011) (by decide +kernel)⟩
theorem lw_p43 : lw_okq (⟨"StripsFromAboveModel", "click", "(IIIZ)V"⟩, 47) := ⟨⟨by decide +kernel, by decide +kernel⟩, List.mem_of_getElem? (i := 713) (by decide +kernel), List.mem_of_getElem? (i := 1014) (by decide +kernel), List.mem_of_getElem? (i := 1015) (by decide +kernel)⟩
theorem lw_p44 : lw_okq (⟨"StripsFromAboveModel", "coversOver", "(IIIZ)V"⟩, 47) := ⟨⟨by decide +kernel, by decide +kernel⟩, List.mem_of_getElem? (i := 713) (by decide +kernel), List.mem_of_getElem? (i := 1018) (by decide +kernel), List.mem_of_getElem? (i := 1019) (by decide +kernel)⟩
theorem lw_p45 : lw_okq (⟨"StripsFromAboveModel", "seesOver", "(II)I"⟩, 47) := ⟨⟨by decide +kernel, by decide +kernel⟩, List.mem_of_getElem? (i := 713) (by decide +kernel), List.mem_of_getElem? (i := 1022) (by decide +kernel), List.mem_of_getElem? (i := 1023) (by decide +kernel)⟩
theorem lw_p46 : lw_okq (⟨"StripsFromAboveModel", "atLeast", "(I)I"⟩, 47) := ⟨⟨by decide +kernel, by decide +kernel⟩, List.mem_of_getElem? (i := 713) (by decide +kernel), List.mem_of_getElem? (i := 1026) (by decide +kernel), List.mem_of_getElem? (i := 1027) (by decide +kernel)⟩
theorem lw_p47 : lw_okq (⟨"StripsFromAboveModel", "flownPlanned", "(III)I"⟩, 47) := ⟨⟨by decide +kernel, by decide +kernel⟩, List.mem_of_getElem? (i := 713) (by decide +kernel), List.mem_of_getElem? (i := 1050) (by decide +kernel), List.mem_of_getElem? (i := 1051) (by decide +kernel)⟩
def lw_privs_3 : List (MethodName × Nat) := [(⟨"StripsFromAboveModel", "signOf", "()I"⟩, 47), (⟨"StripsFromAboveModel", "between", "(I)Z"⟩, 47), (⟨"StripsFromAboveModel", "isPlane", "(I)Z"⟩, 47), (⟨"StripsFromAboveModel", "asksOf", "(IIII)I"⟩, 47), (⟨"StripsFromAboveModel", "says", "(I)I"⟩, 47), (⟨"StripsFromAboveModel", "mileOf", "(I)I"⟩, 47), (⟨"StripsFromAboveModel", "turnOf", "(I)I"⟩, 47), (⟨"StripsFromAboveModel", "isStrip", "(I)Z"⟩, 47), (⟨"StripsFromAboveModel", "flown", "()I"⟩, 47), (⟨"StripsFromAboveModel", "stripOf", "(III)V"⟩, 47), (⟨"StripsFromAboveModel", "driftsOver", "(II)I"⟩, 47), (⟨"StripsFromAboveModel", "click", "(IIIZ)V"⟩, 47), (⟨"StripsFromAboveModel", "coversOver", "(IIIZ)V"⟩, 47), (⟨"StripsFromAboveModel", "seesOver", "(II)I"⟩, 47), (⟨"StripsFromAboveModel", "atLeast", "(I)I"⟩, 47), (⟨"StripsFromAboveModel", "flownPlanned", "(III)I"⟩, 47)]
theorem lw_r3 : ∀ q ∈ lw_privs_3, lw_okq q := List.forall_mem_cons.mpr ⟨lw_p32, List.forall_mem_cons.mpr ⟨lw_p33, List.forall_mem_cons.mpr ⟨lw_p34, List.forall_mem_cons.mpr ⟨lw_p35, List.forall_mem_cons.mpr ⟨lw_p36, List.forall_mem_cons.mpr ⟨lw_p37, List.forall_mem_cons.mpr ⟨lw_p38, List.forall_mem_cons.mpr ⟨lw_p39, List.forall_mem_cons.mpr ⟨lw_p40, List.forall_mem_cons.mpr ⟨lw_p41, List.forall_mem_cons.mpr ⟨lw_p42, List.forall_mem_cons.mpr ⟨lw_p43, List.forall_mem_cons.mpr ⟨lw_p44, List.forall_mem_cons.mpr ⟨lw_p45, List.forall_mem_cons.mpr ⟨lw_p46, List.forall_mem_cons.mpr ⟨lw_p47, fun _ h => absurd h List.not_mem_nil⟩⟩⟩⟩⟩⟩⟩⟩⟩⟩⟩⟩⟩⟩⟩⟩
theorem lw_p48 : lw_okq (⟨"StripsFromAboveModel", "toldWrong", "(II)I"⟩, 47) := ⟨⟨by decide +kernel, by decide +kernel⟩, List.mem_of_getElem? (i := 713) (by decide +kernel), List.mem_of_getElem? (i := 1078) (by decide +kernel), List.mem_of_getElem? (i := 1079) (by decide +kernel)⟩
theorem lw_p49 : lw_okq (⟨"StripsFromAboveModel", "unlike", "(II)I"⟩, 47) := ⟨⟨by decide +kernel, by decide +kernel⟩, List.mem_of_getElem? (i := 713) (by decide +kernel), List.mem_of_getElem? (i := 1082) (by decide +kernel), List.mem_of_getElem? (i := 1083) (by decide +kernel)⟩
theorem lw_p50 : lw_okq (⟨"StripsFromAboveModel", "flownBy", "(II)I"⟩, 47) := ⟨⟨by decide +kernel, by decide +kernel⟩, List.mem_of_getElem? (i := 713) (by decide +kernel), List.mem_of_getElem? (i := 1107) (by decide +kernel), List.mem_of_getElem? (i := 1108) (by decide +kernel)⟩
def lw_privs_4 : List (MethodName × Nat) := [(⟨"StripsFromAboveModel", "toldWrong", "(II)I"⟩, 47), (⟨"StripsFromAboveModel", "unlike", "(II)I"⟩, 47), (⟨"StripsFromAboveModel", "flownBy", "(II)I"⟩, 47)]
theorem lw_r4 : ∀ q ∈ lw_privs_4, lw_okq q := List.forall_mem_cons.mpr ⟨lw_p48, List.forall_mem_cons.mpr ⟨lw_p49, List.forall_mem_cons.mpr ⟨lw_p50, fun _ h => absurd h List.not_mem_nil⟩⟩⟩
def lw_privs : List (MethodName × Nat) := lw_privs_1 ++ (lw_privs_2 ++ (lw_privs_3 ++ (lw_privs_4)))
def lw_tbl : List Cond := k2_sels lw_privs ++ tables_1
theorem lw_privs_ok : ∀ q ∈ lw_privs, lw_okq q := by
  show ∀ q ∈ lw_privs_1 ++ (lw_privs_2 ++ (lw_privs_3 ++ (lw_privs_4))), lw_okq q
  exact List.forall_mem_append.mpr ⟨lw_r1, List.forall_mem_append.mpr ⟨lw_r2, List.forall_mem_append.mpr ⟨lw_r3, lw_r4⟩⟩⟩
-- ===== end of PART A; then your names; then what follows =====
/-! ===== BEGIN words of one list among another's, by their places ===== -/
theorem goodIn_r {big : List Cond} (ws : List Cond) (ps : List Nat) (hp : ws = ps.filterMap (fun i => big[i]?)) (h : ws.all goodWord = true) : GoodIn big ws := by
  intro w hw
  have h1 := List.all_eq_true.mp h w hw
  rw [hp] at hw
  obtain ⟨i, -, hi⟩ := List.mem_filterMap.mp hw
  have hm : w ∈ big := by first | exact List.mem_of_getElem? hi | exact List.getElem?_mem hi
  exact ⟨hm, good_of_word h1⟩
theorem goodIn_app {big a b : List Cond} (ha : GoodIn big a) (hb : GoodIn big b) : GoodIn big (a ++ b) := fun w h => (List.mem_append.mp h).elim (ha w) (hb w)
theorem goodIn_ca {big a b : List Cond} {c : Cond} (ha : GoodIn big (c :: a)) (hb : GoodIn big b) : GoodIn big (c :: (a ++ b)) := fun w h => (List.mem_cons.mp h).elim (fun e => ha w (List.mem_cons.mpr (Or.inl e))) (fun h => (List.mem_append.mp h).elim (fun h => ha w (List.mem_cons.mpr (Or.inr h))) (hb w))
theorem goodIn_sub {big ws : List Cond} (hm : ∀ w ∈ ws, w ∈ big) (h : ws.all goodWord = true) : GoodIn big ws := fun w hw => ⟨hm w hw, good_of_word (List.all_eq_true.mp h w hw)⟩
/-! ===== END ===== -/

/-! ===== BEGIN printed: names, fields, word lists, decode rows ===== -/
def RX0 : String := "StripsFromAbove$Flight"
def TX0 : u_T := fun k => match k with
  | 0 => ("StripsFromAbove$Flight", "over", "[I", true)
  | 1 => ("StripsFromAbove$Flight", "clicks", "I", false)
  | 2 => ("StripsFromAbove$Flight", "lost", "I", false)
  | 3 => ("StripsFromAbove$Flight", "minutes", "I", false)
  | 4 => ("StripsFromAbove$Flight", "ended", "I", false)
  | 5 => ("StripsFromAbove$Flight", "kind", "I", false)
  | 6 => ("StripsFromAbove$Flight", "more", "I", false)
  | _ => ("StripsFromAbove$Flight", "names", "[I", true)
def tyX0 : Nat → FieldType := fun k => match k with
  | 0 => .array .int
  | 1 => .int
  | 2 => .int
  | 3 => .int
  | 4 => .int
  | 5 => .int
  | 6 => .int
  | _ => .array .int
abbrev wsX00 : List Cond := u_ws RX0 TX0 8
theorem nmX0 : ∀ a, a < 8 → ∀ b, b < 8 → a ≠ b → (TX0 a).2.1 ≠ (TX0 b).2.1 := by decide +kernel
theorem tyX0_ok : ∀ k, k < 8 → parseFieldDescriptor (TX0 k).2.2.1 = some (tyX0 k) := by decide +kernel
abbrev cX0_init : ByteArray := prog_2_method_1_code
def yX0_init : MethodName := ⟨RX0, "<init>", "()V"⟩
abbrev cX0_fly : ByteArray := prog_2_method_2_code
def yX0_fly : MethodName := ⟨RX0, "fly", "(LStripsFromAbove$Scene;LStripsFromAbove$Law;)V"⟩
abbrev cX0_flyStrip : ByteArray := prog_2_method_3_code
def yX0_flyStrip : MethodName := ⟨RX0, "flyStrip", "(LStripsFromAbove$Scene;LStripsFromAbove$Law;II)Z"⟩
abbrev cX0_driftsOver : ByteArray := prog_2_method_4_code
def yX0_driftsOver : MethodName := ⟨RX0, "driftsOver", "(LStripsFromAbove$Scene;LStripsFromAbove$Law;ZII)I"⟩
abbrev cX0_click : ByteArray := prog_2_method_5_code
def yX0_click : MethodName := ⟨RX0, "click", "(LStripsFromAbove$Scene;LStripsFromAbove$Law;ZII)V"⟩
abbrev cX0_cover : ByteArray := prog_2_method_6_code
def yX0_cover : MethodName := ⟨RX0, "cover", "(IIII)V"⟩
abbrev cX0_times : ByteArray := prog_2_method_7_code
def yX0_times : MethodName := ⟨RX0, "times", "([II)I"⟩
abbrev cX0_coveredMiles : ByteArray := prog_2_method_8_code
def yX0_coveredMiles : MethodName := ⟨RX0, "coveredMiles", "([II)I"⟩
def RX1 : String := "StripsFromAbove$Law"
def TX1 : u_T := fun k => match k with
  | 0 => ("StripsFromAbove$Law", "works", "[I", true)
  | 1 => ("StripsFromAbove$Law", "values", "[I", true)
  | 2 => ("StripsFromAbove$Law", "bounds", "[I", true)
  | 3 => ("StripsFromAbove$Law", "pile", "[I", true)
  | _ => ("StripsFromAbove$Law", "size", "I", false)
def tyX1 : Nat → FieldType := fun k => match k with
  | 0 => .array .int
  | 1 => .array .int
  | 2 => .array .int
  | 3 => .array .int
  | _ => .int
abbrev wsX10 : List Cond := u_ws RX1 TX1 5
theorem nmX1 : ∀ a, a < 5 → ∀ b, b < 5 → a ≠ b → (TX1 a).2.1 ≠ (TX1 b).2.1 := by decide +kernel
theorem tyX1_ok : ∀ k, k < 5 → parseFieldDescriptor (TX1 k).2.2.1 = some (tyX1 k) := by decide +kernel
abbrev cX1_init : ByteArray := prog_3_method_1_code
def yX1_init : MethodName := ⟨RX1, "<init>", "()V"⟩
abbrev cX1_clear : ByteArray := prog_3_method_2_code
def yX1_clear : MethodName := ⟨RX1, "clear", "()V"⟩
abbrev cX1_add : ByteArray := prog_3_method_3_code
def yX1_add : MethodName := ⟨RX1, "add", "(II)V"⟩
abbrev cX1_endPart : ByteArray := prog_3_method_4_code
def yX1_endPart : MethodName := ⟨RX1, "endPart", "(I)V"⟩
abbrev cX1_says : ByteArray := prog_3_method_5_code
def yX1_says : MethodName := ⟨RX1, "says", "(I[I)I"⟩
abbrev cX1_joined : ByteArray := prog_3_method_6_code
def yX1_joined : MethodName := ⟨RX1, "joined", "(III)I"⟩
def RX2 : String := "StripsFromAbove$Reader"
def TX2 : u_T := fun k => match k with
  | 0 => ("StripsFromAbove$Reader", "tape", "[I", true)
  | 1 => ("StripsFromAbove$Reader", "size", "I", true)
  | 2 => ("StripsFromAbove$Reader", "law", "LStripsFromAbove$Law;", true)
  | 3 => ("StripsFromAbove$Reader", "next", "I", false)
  | 4 => ("StripsFromAbove$Reader", "place", "I", false)
  | 5 => ("StripsFromAbove$Reader", "token", "I", false)
  | 6 => ("StripsFromAbove$Reader", "value", "I", false)
  | _ => ("StripsFromAbove$Reader", "fault", "I", false)
def tyX2 : Nat → FieldType := fun k => match k with
  | 0 => .array .int
  | 1 => .int
  | 2 => .object "StripsFromAbove$Law"
  | 3 => .int
  | 4 => .int
  | 5 => .int
  | 6 => .int
  | _ => .int
abbrev wsX20 : List Cond := u_ws RX2 TX2 8
theorem nmX2 : ∀ a, a < 8 → ∀ b, b < 8 → a ≠ b → (TX2 a).2.1 ≠ (TX2 b).2.1 := by decide +kernel
theorem tyX2_ok : ∀ k, k < 8 → parseFieldDescriptor (TX2 k).2.2.1 = some (tyX2 k) := by decide +kernel
abbrev cX2_init : ByteArray := prog_4_method_1_code
def yX2_init : MethodName := ⟨RX2, "<init>", "([IILStripsFromAbove$Law;)V"⟩
abbrev cX2_read : ByteArray := prog_4_method_2_code
def yX2_read : MethodName := ⟨RX2, "read", "()I"⟩
abbrev cX2_refuse : ByteArray := prog_4_method_3_code
def yX2_refuse : MethodName := ⟨RX2, "refuse", "()V"⟩
abbrev cX2_expect : ByteArray := prog_4_method_4_code
def yX2_expect : MethodName := ⟨RX2, "expect", "(I)V"⟩
abbrev cX2_readEither : ByteArray := prog_4_method_5_code
def yX2_readEither : MethodName := ⟨RX2, "readEither", "(I)V"⟩
abbrev cX2_readBoth : ByteArray := prog_4_method_6_code
def yX2_readBoth : MethodName := ⟨RX2, "readBoth", "(I)V"⟩
abbrev cX2_readNot : ByteArray := prog_4_method_7_code
def yX2_readNot : MethodName := ⟨RX2, "readNot", "(I)V"⟩
abbrev cX2_readSum : ByteArray := prog_4_method_8_code
def yX2_readSum : MethodName := ⟨RX2, "readSum", "(I)V"⟩
abbrev cX2_readTerm : ByteArray := prog_4_method_9_code
def yX2_readTerm : MethodName := ⟨RX2, "readTerm", "(I)V"⟩
abbrev cX2_readOne : ByteArray := prog_4_method_10_code
def yX2_readOne : MethodName := ⟨RX2, "readOne", "(I)V"⟩
abbrev cX2_advance : ByteArray := prog_4_method_11_code
def yX2_advance : MethodName := ⟨RX2, "advance", "()V"⟩
abbrev cX2_readWord : ByteArray := prog_4_method_12_code
def yX2_readWord : MethodName := ⟨RX2, "readWord", "()V"⟩
abbrev cX2_wordNumber : ByteArray := prog_4_method_13_code
def yX2_wordNumber : MethodName := ⟨RX2, "wordNumber", "(I)I"⟩
abbrev cX2_readNumber : ByteArray := prog_4_method_14_code
def yX2_readNumber : MethodName := ⟨RX2, "readNumber", "()V"⟩
abbrev cX2_isBlank : ByteArray := prog_4_method_15_code
def yX2_isBlank : MethodName := ⟨RX2, "isBlank", "(I)Z"⟩
abbrev cX2_isLetter : ByteArray := prog_4_method_16_code
def yX2_isLetter : MethodName := ⟨RX2, "isLetter", "(I)Z"⟩
abbrev cX2_isDigit : ByteArray := prog_4_method_17_code
def yX2_isDigit : MethodName := ⟨RX2, "isDigit", "(I)Z"⟩
abbrev cX2_isSign : ByteArray := prog_4_method_18_code
def yX2_isSign : MethodName := ⟨RX2, "isSign", "(I)Z"⟩
def RX3 : String := "StripsFromAbove$Scene"
def TX3 : u_T := fun k => match k with
  | 0 => ("StripsFromAbove$Scene", "hills", "[I", true)
  | 1 => ("StripsFromAbove$Scene", "clouds", "[I", true)
  | 2 => ("StripsFromAbove$Scene", "ways", "[I", true)
  | 3 => ("StripsFromAbove$Scene", "lines", "[I", true)
  | 4 => ("StripsFromAbove$Scene", "strips", "I", false)
  | 5 => ("StripsFromAbove$Scene", "kind", "[I", true)
  | 6 => ("StripsFromAbove$Scene", "more", "[I", true)
  | 7 => ("StripsFromAbove$Scene", "fuel", "[I", true)
  | 8 => ("StripsFromAbove$Scene", "film", "[I", true)
  | 9 => ("StripsFromAbove$Scene", "every", "[I", true)
  | 10 => ("StripsFromAbove$Scene", "planes", "I", false)
  | 11 => ("StripsFromAbove$Scene", "wind", "I", false)
  | 12 => ("StripsFromAbove$Scene", "hour", "I", false)
  | 13 => ("StripsFromAbove$Scene", "who", "I", false)
  | _ => ("StripsFromAbove$Scene", "law", "I", false)
def tyX3 : Nat → FieldType := fun k => match k with
  | 0 => .array .int
  | 1 => .array .int
  | 2 => .array .int
  | 3 => .array .int
  | 4 => .int
  | 5 => .array .int
  | 6 => .array .int
  | 7 => .array .int
  | 8 => .array .int
  | 9 => .array .int
  | 10 => .int
  | 11 => .int
  | 12 => .int
  | 13 => .int
  | _ => .int
abbrev wsX30 : List Cond := u_ws RX3 TX3 15
theorem nmX3 : ∀ a, a < 15 → ∀ b, b < 15 → a ≠ b → (TX3 a).2.1 ≠ (TX3 b).2.1 := by decide +kernel
theorem tyX3_ok : ∀ k, k < 15 → parseFieldDescriptor (TX3 k).2.2.1 = some (tyX3 k) := by decide +kernel
abbrev cX3_init : ByteArray := prog_5_method_1_code
def yX3_init : MethodName := ⟨RX3, "<init>", "()V"⟩
abbrev cX3_take : ByteArray := prog_5_method_2_code
def yX3_take : MethodName := ⟨RX3, "take", "(LStripsFromAbove$Scene;)V"⟩
abbrev cX3_addStrip : ByteArray := prog_5_method_3_code
def yX3_addStrip : MethodName := ⟨RX3, "addStrip", "(II)V"⟩
abbrev cX3_leaveOut : ByteArray := prog_5_method_4_code
def yX3_leaveOut : MethodName := ⟨RX3, "leaveOut", "(I)V"⟩
abbrev cX3_stripNumber : ByteArray := prog_5_method_5_code
def yX3_stripNumber : MethodName := ⟨RX3, "stripNumber", "(I)I"⟩
abbrev cX3_fillNames : ByteArray := prog_5_method_6_code
def yX3_fillNames : MethodName := ⟨RX3, "fillNames", "([IIII)V"⟩
def RX4 : String := "StripsFromAbove$Sheet"
def TX4 : u_T := fun k => match k with
  | 0 => ("StripsFromAbove$Sheet", "cells", "[I", true)
  | 1 => ("StripsFromAbove$Sheet", "sort", "I", false)
  | _ => ("StripsFromAbove$Sheet", "size", "I", false)
def tyX4 : Nat → FieldType := fun k => match k with
  | 0 => .array .int
  | 1 => .int
  | _ => .int
abbrev wsX40 : List Cond := u_ws RX4 TX4 3
theorem nmX4 : ∀ a, a < 3 → ∀ b, b < 3 → a ≠ b → (TX4 a).2.1 ≠ (TX4 b).2.1 := by decide +kernel
theorem tyX4_ok : ∀ k, k < 3 → parseFieldDescriptor (TX4 k).2.2.1 = some (tyX4 k) := by decide +kernel
abbrev cX4_init : ByteArray := prog_6_method_1_code
def yX4_init : MethodName := ⟨RX4, "<init>", "()V"⟩
abbrev cX4_become : ByteArray := prog_6_method_2_code
def yX4_become : MethodName := ⟨RX4, "become", "(II)V"⟩
abbrev cX4_write : ByteArray := prog_6_method_3_code
def yX4_write : MethodName := ⟨RX4, "write", "(II)V"⟩
abbrev cX4_hasRoom : ByteArray := prog_6_method_4_code
def yX4_hasRoom : MethodName := ⟨RX4, "hasRoom", "(II)Z"⟩
def RX5 : String := "StripsFromAbove"
def TX5 : u_T := fun k => match k with
  | 0 => ("StripsFromAbove", "now", "LStripsFromAbove$Scene;", true)
  | 1 => ("StripsFromAbove", "thought", "LStripsFromAbove$Scene;", true)
  | 2 => ("StripsFromAbove", "kept", "LStripsFromAbove$Scene;", true)
  | 3 => ("StripsFromAbove", "anyKept", "Z", false)
  | 4 => ("StripsFromAbove", "lawRow", "[LStripsFromAbove$Law;", true)
  | 5 => ("StripsFromAbove", "lawCount", "I", false)
  | 6 => ("StripsFromAbove", "tape", "[I", true)
  | 7 => ("StripsFromAbove", "tapeSize", "I", false)
  | 8 => ("StripsFromAbove", "sheetRow", "[LStripsFromAbove$Sheet;", true)
  | 9 => ("StripsFromAbove", "trip", "LStripsFromAbove$Flight;", true)
  | _ => ("StripsFromAbove", "asked", "[I", true)
def tyX5 : Nat → FieldType := fun k => match k with
  | 0 => .object "StripsFromAbove$Scene"
  | 1 => .object "StripsFromAbove$Scene"
  | 2 => .object "StripsFromAbove$Scene"
  | 3 => .boolean
  | 4 => .array (.object "StripsFromAbove$Law")
  | 5 => .int
  | 6 => .array .int
  | 7 => .int
  | 8 => .array (.object "StripsFromAbove$Sheet")
  | 9 => .object "StripsFromAbove$Flight"
  | _ => .array .int
abbrev wsX50 : List Cond := u_ws RX5 TX5 11
theorem nmX5 : ∀ a, a < 11 → ∀ b, b < 11 → a ≠ b → (TX5 a).2.1 ≠ (TX5 b).2.1 := by decide +kernel
theorem tyX5_ok : ∀ k, k < 11 → parseFieldDescriptor (TX5 k).2.2.1 = some (tyX5 k) := by decide +kernel
abbrev cX5_init : ByteArray := prog_1_method_1_code
def yX5_init : MethodName := ⟨RX5, "<init>", "()V"⟩
abbrev cX5_firstLaw : ByteArray := prog_1_method_2_code
def yX5_firstLaw : MethodName := ⟨RX5, "firstLaw", "()LStripsFromAbove$Law;"⟩
abbrev cX5_count : ByteArray := prog_1_method_3_code
def yX5_count : MethodName := ⟨RX5, "count", "(I)I"⟩
abbrev cX5_set : ByteArray := prog_1_method_4_code
def yX5_set : MethodName := ⟨RX5, "set", "(II)I"⟩
abbrev cX5_land : ByteArray := prog_1_method_5_code
def yX5_land : MethodName := ⟨RX5, "land", "(III)I"⟩
abbrev cX5_mile : ByteArray := prog_1_method_6_code
def yX5_mile : MethodName := ⟨RX5, "mile", "(II)I"⟩
abbrev cX5_feed : ByteArray := prog_1_method_7_code
def yX5_feed : MethodName := ⟨RX5, "feed", "(IIIIII)I"⟩
abbrev cX5_text : ByteArray := prog_1_method_8_code
def yX5_text : MethodName := ⟨RX5, "text", "()I"⟩
abbrev cX5_force : ByteArray := prog_1_method_9_code
def yX5_force : MethodName := ⟨RX5, "force", "(I)I"⟩
abbrev cX5_asks : ByteArray := prog_1_method_10_code
def yX5_asks : MethodName := ⟨RX5, "asks", "(IIII)I"⟩
abbrev cX5_plane : ByteArray := prog_1_method_11_code
def yX5_plane : MethodName := ⟨RX5, "plane", "(II)I"⟩
abbrev cX5_load : ByteArray := prog_1_method_12_code
def yX5_load : MethodName := ⟨RX5, "load", "(III)I"⟩
abbrev cX5_told : ByteArray := prog_1_method_13_code
def yX5_told : MethodName := ⟨RX5, "told", "(II)I"⟩
abbrev cX5_strip : ByteArray := prog_1_method_14_code
def yX5_strip : MethodName := ⟨RX5, "strip", "(II)I"⟩
abbrev cX5_drop : ByteArray := prog_1_method_15_code
def yX5_drop : MethodName := ⟨RX5, "drop", "(I)I"⟩
abbrev cX5_planned : ByteArray := prog_1_method_16_code
def yX5_planned : MethodName := ⟨RX5, "planned", "(I)I"⟩
abbrev cX5_flight : ByteArray := prog_1_method_17_code
def yX5_flight : MethodName := ⟨RX5, "flight", "(I)I"⟩
abbrev cX5_seen : ByteArray := prog_1_method_18_code
def yX5_seen : MethodName := ⟨RX5, "seen", "(I)I"⟩
abbrev cX5_gap : ByteArray := prog_1_method_19_code
def yX5_gap : MethodName := ⟨RX5, "gap", "(I)I"⟩
abbrev cX5_spare : ByteArray := prog_1_method_20_code
def yX5_spare : MethodName := ⟨RX5, "spare", "(I)I"⟩
abbrev cX5_again : ByteArray := prog_1_method_21_code
def yX5_again : MethodName := ⟨RX5, "again", "(I)I"⟩
abbrev cX5_apart : ByteArray := prog_1_method_22_code
def yX5_apart : MethodName := ⟨RX5, "apart", "(IIII)I"⟩
abbrev cX5_begin : ByteArray := prog_1_method_23_code
def yX5_begin : MethodName := ⟨RX5, "begin", "(II)I"⟩
abbrev cX5_seldom : ByteArray := prog_1_method_24_code
def yX5_seldom : MethodName := ⟨RX5, "seldom", "(I)I"⟩
abbrev cX5_who : ByteArray := prog_1_method_25_code
def yX5_who : MethodName := ⟨RX5, "who", "(I)I"⟩
abbrev cX5_when : ByteArray := prog_1_method_26_code
def yX5_when : MethodName := ⟨RX5, "when", "(I)I"⟩
abbrev cX5_tuft : ByteArray := prog_1_method_27_code
def yX5_tuft : MethodName := ⟨RX5, "tuft", "(I)I"⟩
abbrev cX5_judge : ByteArray := prog_1_method_28_code
def yX5_judge : MethodName := ⟨RX5, "judge", "(II)I"⟩
abbrev cX5_winds : ByteArray := prog_1_method_29_code
def yX5_winds : MethodName := ⟨RX5, "winds", "(II)I"⟩
abbrev cX5_kinds : ByteArray := prog_1_method_30_code
def yX5_kinds : MethodName := ⟨RX5, "kinds", "(III)I"⟩
abbrev cX5_laws : ByteArray := prog_1_method_31_code
def yX5_laws : MethodName := ⟨RX5, "laws", "(II)I"⟩
abbrev cX5_film : ByteArray := prog_1_method_32_code
def yX5_film : MethodName := ⟨RX5, "film", "(II)I"⟩
abbrev cX5_drawn : ByteArray := prog_1_method_33_code
def yX5_drawn : MethodName := ⟨RX5, "drawn", "(II)I"⟩
abbrev cX5_odds : ByteArray := prog_1_method_34_code
def yX5_odds : MethodName := ⟨RX5, "odds", "(IIIII)J"⟩
abbrev cX5_image : ByteArray := prog_1_method_35_code
def yX5_image : MethodName := ⟨RX5, "image", "()I"⟩
abbrev cX5_back : ByteArray := prog_1_method_36_code
def yX5_back : MethodName := ⟨RX5, "back", "()I"⟩
abbrev cX5_sheet : ByteArray := prog_1_method_37_code
def yX5_sheet : MethodName := ⟨RX5, "sheet", "(III)I"⟩
abbrev cX5_cell : ByteArray := prog_1_method_38_code
def yX5_cell : MethodName := ⟨RX5, "cell", "(III)I"⟩
abbrev cX5_copy : ByteArray := prog_1_method_39_code
def yX5_copy : MethodName := ⟨RX5, "copy", "(IIIII)I"⟩
abbrev cX5_landBy : ByteArray := prog_1_method_40_code
def yX5_landBy : MethodName := ⟨RX5, "landBy", "(IIII)I"⟩
abbrev cX5_taken : ByteArray := prog_1_method_41_code
def yX5_taken : MethodName := ⟨RX5, "taken", "(II)I"⟩
abbrev cX5_isPlane : ByteArray := prog_1_method_42_code
def yX5_isPlane : MethodName := ⟨RX5, "isPlane", "(I)Z"⟩
abbrev cX5_isMile : ByteArray := prog_1_method_43_code
def yX5_isMile : MethodName := ⟨RX5, "isMile", "(I)Z"⟩
abbrev cX5_isByte : ByteArray := prog_1_method_44_code
def yX5_isByte : MethodName := ⟨RX5, "isByte", "(I)Z"⟩
abbrev cX5_isHalf : ByteArray := prog_1_method_45_code
def yX5_isHalf : MethodName := ⟨RX5, "isHalf", "(I)Z"⟩
abbrev cX5_lawAt : ByteArray := prog_1_method_46_code
def yX5_lawAt : MethodName := ⟨RX5, "lawAt", "(I)LStripsFromAbove$Law;"⟩
abbrev cX5_sheetAt : ByteArray := prog_1_method_47_code
def yX5_sheetAt : MethodName := ⟨RX5, "sheetAt", "(I)LStripsFromAbove$Sheet;"⟩
abbrev cX5_flyNow : ByteArray := prog_1_method_48_code
def yX5_flyNow : MethodName := ⟨RX5, "flyNow", "()V"⟩
abbrev cX5_coveredBy : ByteArray := prog_1_method_49_code
def yX5_coveredBy : MethodName := ⟨RX5, "coveredBy", "(LStripsFromAbove$Scene;)I"⟩
abbrev cX5_planIn : ByteArray := prog_1_method_50_code
def yX5_planIn : MethodName := ⟨RX5, "planIn", "(III)V"⟩
abbrev cX5_drawClouds : ByteArray := prog_1_method_51_code
def yX5_drawClouds : MethodName := ⟨RX5, "drawClouds", "(II)V"⟩
abbrev cX5_refusalOf : ByteArray := prog_1_method_52_code
def yX5_refusalOf : MethodName := ⟨RX5, "refusalOf", "(II)I"⟩
abbrev cX5_firstOtherwise : ByteArray := prog_1_method_53_code
def yX5_firstOtherwise : MethodName := ⟨RX5, "firstOtherwise", "(LStripsFromAbove$Scene;II)I"⟩
abbrev cX5_at : ByteArray := prog_1_method_54_code
def yX5_at : MethodName := ⟨RX5, "at", "([II)I"⟩
abbrev cX5_put : ByteArray := prog_1_method_55_code
def yX5_put : MethodName := ⟨RX5, "put", "([III)V"⟩
abbrev cX5_bounded : ByteArray := prog_1_method_56_code
def yX5_bounded : MethodName := ⟨RX5, "bounded", "(III)I"⟩
abbrev cX5_linesOf : ByteArray := prog_1_method_57_code
def yX5_linesOf : MethodName := ⟨RX5, "linesOf", "(I)I"⟩
abbrev cX5_isOfKind : ByteArray := prog_1_method_58_code
def yX5_isOfKind : MethodName := ⟨RX5, "isOfKind", "(II)Z"⟩
abbrev cX5_seesAside : ByteArray := prog_1_method_59_code
def yX5_seesAside : MethodName := ⟨RX5, "seesAside", "(III)I"⟩
abbrev cX5_driftsAside : ByteArray := prog_1_method_60_code
def yX5_driftsAside : MethodName := ⟨RX5, "driftsAside", "(III)I"⟩
abbrev cX5_mileMinutes : ByteArray := prog_1_method_61_code
def yX5_mileMinutes : MethodName := ⟨RX5, "mileMinutes", "(I)I"⟩
abbrev cX5_turnMinutes : ByteArray := prog_1_method_62_code
def yX5_turnMinutes : MethodName := ⟨RX5, "turnMinutes", "(II)I"⟩
def RX6 : String := "StripsFromAboveModel"
def TX6 : u_T := fun k => match k with
  | 0 => ("StripsFromAboveModel", "hills", "[I", true)
  | 1 => ("StripsFromAboveModel", "clouds", "[I", true)
  | 2 => ("StripsFromAboveModel", "wind", "I", false)
  | 3 => ("StripsFromAboveModel", "hour0", "I", false)
  | 4 => ("StripsFromAboveModel", "flies", "I", false)
  | 5 => ("StripsFromAboveModel", "planes", "I", false)
  | 6 => ("StripsFromAboveModel", "kind", "[I", true)
  | 7 => ("StripsFromAboveModel", "moreOf", "[I", true)
  | 8 => ("StripsFromAboveModel", "loads", "[I", true)
  | 9 => ("StripsFromAboveModel", "strips", "I", false)
  | 10 => ("StripsFromAboveModel", "ways", "[I", true)
  | 11 => ("StripsFromAboveModel", "lines", "[I", true)
  | 12 => ("StripsFromAboveModel", "tape", "[I", true)
  | 13 => ("StripsFromAboveModel", "taped", "I", false)
  | 14 => ("StripsFromAboveModel", "codes", "[I", true)
  | 15 => ("StripsFromAboveModel", "starts", "[I", true)
  | 16 => ("StripsFromAboveModel", "texts", "I", false)
  | 17 => ("StripsFromAboveModel", "rule", "I", false)
  | 18 => ("StripsFromAboveModel", "hasImage", "Z", false)
  | 19 => ("StripsFromAboveModel", "imageLand", "[I", true)
  | 20 => ("StripsFromAboveModel", "imageRows", "[I", true)
  | 21 => ("StripsFromAboveModel", "imageHeld", "[I", true)
  | 22 => ("StripsFromAboveModel", "sheetSort", "[I", true)
  | 23 => ("StripsFromAboveModel", "sheetSize", "[I", true)
  | 24 => ("StripsFromAboveModel", "cells", "[I", true)
  | 25 => ("StripsFromAboveModel", "law", "[I", true)
  | 26 => ("StripsFromAboveModel", "at", "I", false)
  | 27 => ("StripsFromAboveModel", "begun", "I", false)
  | 28 => ("StripsFromAboveModel", "token", "I", false)
  | 29 => ("StripsFromAboveModel", "value", "I", false)
  | 30 => ("StripsFromAboveModel", "words", "[I", true)
  | 31 => ("StripsFromAboveModel", "held", "[I", true)
  | 32 => ("StripsFromAboveModel", "heldMany", "I", false)
  | 33 => ("StripsFromAboveModel", "opens", "I", false)
  | 34 => ("StripsFromAboveModel", "out", "I", false)
  | 35 => ("StripsFromAboveModel", "stack", "[I", true)
  | 36 => ("StripsFromAboveModel", "named", "[I", true)
  | 37 => ("StripsFromAboveModel", "covers", "[I", true)
  | 38 => ("StripsFromAboveModel", "clicks", "I", false)
  | 39 => ("StripsFromAboveModel", "lostMany", "I", false)
  | 40 => ("StripsFromAboveModel", "minutes", "I", false)
  | 41 => ("StripsFromAboveModel", "flownMany", "I", false)
  | 42 => ("StripsFromAboveModel", "ended", "Z", false)
  | 43 => ("StripsFromAboveModel", "leftOut", "I", false)
  | 44 => ("StripsFromAboveModel", "keptWays", "[I", true)
  | 45 => ("StripsFromAboveModel", "keptLines", "[I", true)
  | _ => ("StripsFromAboveModel", "keptClouds", "[I", true)
def tyX6 : Nat → FieldType := fun k => match k with
  | 0 => .array .int
  | 1 => .array .int
  | 2 => .int
  | 3 => .int
  | 4 => .int
  | 5 => .int
  | 6 => .array .int
  | 7 => .array .int
  | 8 => .array .int
  | 9 => .int
  | 10 => .array .int
  | 11 => .array .int
  | 12 => .array .int
  | 13 => .int
  | 14 => .array .int
  | 15 => .array .int
  | 16 => .int
  | 17 => .int
  | 18 => .boolean
  | 19 => .array .int
  | 20 => .array .int
  | 21 => .array .int
  | 22 => .array .int
  | 23 => .array .int
  | 24 => .array .int
  | 25 => .array .int
  | 26 => .int
  | 27 => .int
  | 28 => .int
  | 29 => .int
  | 30 => .array .int
  | 31 => .array .int
  | 32 => .int
  | 33 => .int
  | 34 => .int
  | 35 => .array .int
  | 36 => .array .int
  | 37 => .array .int
  | 38 => .int
  | 39 => .int
  | 40 => .int
  | 41 => .int
  | 42 => .boolean
  | 43 => .int
  | 44 => .array .int
  | 45 => .array .int
  | _ => .array .int
abbrev wsX60 : List Cond := u_ws RX6 TX6 47
theorem nmX6 : ∀ a, a < 47 → ∀ b, b < 47 → a ≠ b → (TX6 a).2.1 ≠ (TX6 b).2.1 := by decide +kernel
theorem tyX6_ok : ∀ k, k < 47 → parseFieldDescriptor (TX6 k).2.2.1 = some (tyX6 k) := by decide +kernel
abbrev cX6_init : ByteArray := prog_8_method_1_code
def yX6_init : MethodName := ⟨RX6, "<init>", "()V"⟩
abbrev cX6_in : ByteArray := prog_8_method_3_code
def yX6_in : MethodName := ⟨RX6, "in", "(III)Z"⟩
abbrev cX6_within : ByteArray := prog_8_method_4_code
def yX6_within : MethodName := ⟨RX6, "within", "(III)I"⟩
abbrev cX6_isPlane : ByteArray := prog_8_method_5_code
def yX6_isPlane : MethodName := ⟨RX6, "isPlane", "(I)Z"⟩
abbrev cX6_isMile : ByteArray := prog_8_method_6_code
def yX6_isMile : MethodName := ⟨RX6, "isMile", "(I)Z"⟩
abbrev cX6_count : ByteArray := prog_8_method_7_code
def yX6_count : MethodName := ⟨RX6, "count", "(I)I"⟩
abbrev cX6_set : ByteArray := prog_8_method_8_code
def yX6_set : MethodName := ⟨RX6, "set", "(II)I"⟩
abbrev cX6_land : ByteArray := prog_8_method_9_code
def yX6_land : MethodName := ⟨RX6, "land", "(III)I"⟩
abbrev cX6_mile : ByteArray := prog_8_method_10_code
def yX6_mile : MethodName := ⟨RX6, "mile", "(II)I"⟩
abbrev cX6_isByte : ByteArray := prog_8_method_11_code
def yX6_isByte : MethodName := ⟨RX6, "isByte", "(I)Z"⟩
abbrev cX6_feed : ByteArray := prog_8_method_12_code
def yX6_feed : MethodName := ⟨RX6, "feed", "(IIIIII)I"⟩
abbrev cX6_wordFrom : ByteArray := prog_8_method_13_code
def yX6_wordFrom : MethodName := ⟨RX6, "wordFrom", "(II)I"⟩
abbrev cX6_next : ByteArray := prog_8_method_14_code
def yX6_next : MethodName := ⟨RX6, "next", "()V"⟩
abbrev cX6_rank : ByteArray := prog_8_method_15_code
def yX6_rank : MethodName := ⟨RX6, "rank", "(I)I"⟩
abbrev cX6_puts : ByteArray := prog_8_method_16_code
def yX6_puts : MethodName := ⟨RX6, "puts", "(I)V"⟩
abbrev cX6_unwinds : ByteArray := prog_8_method_17_code
def yX6_unwinds : MethodName := ⟨RX6, "unwinds", "(I)V"⟩
abbrev cX6_holds : ByteArray := prog_8_method_18_code
def yX6_holds : MethodName := ⟨RX6, "holds", "(I)V"⟩
abbrev cX6_opensOne : ByteArray := prog_8_method_19_code
def yX6_opensOne : MethodName := ⟨RX6, "opensOne", "(I)Z"⟩
abbrev cX6_between : ByteArray := prog_8_method_20_code
def yX6_between : MethodName := ⟨RX6, "between", "(I)Z"⟩
abbrev cX6_signOf : ByteArray := prog_8_method_21_code
def yX6_signOf : MethodName := ⟨RX6, "signOf", "()I"⟩
abbrev cX6_eRead : ByteArray := prog_8_method_22_code
def yX6_eRead : MethodName := ⟨RX6, "eRead", "()Z"⟩
abbrev cX6_text : ByteArray := prog_8_method_23_code
def yX6_text : MethodName := ⟨RX6, "text", "()I"⟩
abbrev cX6_two : ByteArray := prog_8_method_24_code
def yX6_two : MethodName := ⟨RX6, "two", "(III)I"⟩
abbrev cX6_says : ByteArray := prog_8_method_25_code
def yX6_says : MethodName := ⟨RX6, "says", "(I)I"⟩
abbrev cX6_force : ByteArray := prog_8_method_26_code
def yX6_force : MethodName := ⟨RX6, "force", "(I)I"⟩
abbrev cX6_asksOf : ByteArray := prog_8_method_27_code
def yX6_asksOf : MethodName := ⟨RX6, "asksOf", "(IIII)I"⟩
abbrev cX6_asks : ByteArray := prog_8_method_28_code
def yX6_asks : MethodName := ⟨RX6, "asks", "(IIII)I"⟩
abbrev cX6_plane : ByteArray := prog_8_method_29_code
def yX6_plane : MethodName := ⟨RX6, "plane", "(II)I"⟩
abbrev cX6_load : ByteArray := prog_8_method_30_code
def yX6_load : MethodName := ⟨RX6, "load", "(III)I"⟩
abbrev cX6_mileOf : ByteArray := prog_8_method_31_code
def yX6_mileOf : MethodName := ⟨RX6, "mileOf", "(I)I"⟩
abbrev cX6_turnOf : ByteArray := prog_8_method_32_code
def yX6_turnOf : MethodName := ⟨RX6, "turnOf", "(I)I"⟩
abbrev cX6_told : ByteArray := prog_8_method_33_code
def yX6_told : MethodName := ⟨RX6, "told", "(II)I"⟩
abbrev cX6_strip : ByteArray := prog_8_method_34_code
def yX6_strip : MethodName := ⟨RX6, "strip", "(II)I"⟩
abbrev cX6_isStrip : ByteArray := prog_8_method_35_code
def yX6_isStrip : MethodName := ⟨RX6, "isStrip", "(I)Z"⟩
abbrev cX6_drop : ByteArray := prog_8_method_36_code
def yX6_drop : MethodName := ⟨RX6, "drop", "(I)I"⟩
abbrev cX6_planned : ByteArray := prog_8_method_37_code
def yX6_planned : MethodName := ⟨RX6, "planned", "(I)I"⟩
abbrev cX6_seesOver : ByteArray := prog_8_method_38_code
def yX6_seesOver : MethodName := ⟨RX6, "seesOver", "(II)I"⟩
abbrev cX6_driftsOver : ByteArray := prog_8_method_39_code
def yX6_driftsOver : MethodName := ⟨RX6, "driftsOver", "(II)I"⟩
abbrev cX6_coversOver : ByteArray := prog_8_method_40_code
def yX6_coversOver : MethodName := ⟨RX6, "coversOver", "(IIIZ)V"⟩
abbrev cX6_click : ByteArray := prog_8_method_41_code
def yX6_click : MethodName := ⟨RX6, "click", "(IIIZ)V"⟩
abbrev cX6_stripOf : ByteArray := prog_8_method_42_code
def yX6_stripOf : MethodName := ⟨RX6, "stripOf", "(III)V"⟩
abbrev cX6_flown : ByteArray := prog_8_method_43_code
def yX6_flown : MethodName := ⟨RX6, "flown", "()I"⟩
abbrev cX6_atLeast : ByteArray := prog_8_method_44_code
def yX6_atLeast : MethodName := ⟨RX6, "atLeast", "(I)I"⟩
abbrev cX6_flight : ByteArray := prog_8_method_45_code
def yX6_flight : MethodName := ⟨RX6, "flight", "(I)I"⟩
abbrev cX6_seen : ByteArray := prog_8_method_46_code
def yX6_seen : MethodName := ⟨RX6, "seen", "(I)I"⟩
abbrev cX6_gap : ByteArray := prog_8_method_47_code
def yX6_gap : MethodName := ⟨RX6, "gap", "(I)I"⟩
abbrev cX6_spare : ByteArray := prog_8_method_48_code
def yX6_spare : MethodName := ⟨RX6, "spare", "(I)I"⟩
abbrev cX6_again : ByteArray := prog_8_method_49_code
def yX6_again : MethodName := ⟨RX6, "again", "(I)I"⟩
abbrev cX6_flownPlanned : ByteArray := prog_8_method_50_code
def yX6_flownPlanned : MethodName := ⟨RX6, "flownPlanned", "(III)I"⟩
abbrev cX6_apart : ByteArray := prog_8_method_51_code
def yX6_apart : MethodName := ⟨RX6, "apart", "(IIII)I"⟩
abbrev cX6_begin : ByteArray := prog_8_method_52_code
def yX6_begin : MethodName := ⟨RX6, "begin", "(II)I"⟩
abbrev cX6_seldom : ByteArray := prog_8_method_53_code
def yX6_seldom : MethodName := ⟨RX6, "seldom", "(I)I"⟩
abbrev cX6_who : ByteArray := prog_8_method_54_code
def yX6_who : MethodName := ⟨RX6, "who", "(I)I"⟩
abbrev cX6_when : ByteArray := prog_8_method_55_code
def yX6_when : MethodName := ⟨RX6, "when", "(I)I"⟩
abbrev cX6_tuft : ByteArray := prog_8_method_56_code
def yX6_tuft : MethodName := ⟨RX6, "tuft", "(I)I"⟩
abbrev cX6_toldWrong : ByteArray := prog_8_method_57_code
def yX6_toldWrong : MethodName := ⟨RX6, "toldWrong", "(II)I"⟩
abbrev cX6_unlike : ByteArray := prog_8_method_58_code
def yX6_unlike : MethodName := ⟨RX6, "unlike", "(II)I"⟩
abbrev cX6_judge : ByteArray := prog_8_method_59_code
def yX6_judge : MethodName := ⟨RX6, "judge", "(II)I"⟩
abbrev cX6_winds : ByteArray := prog_8_method_60_code
def yX6_winds : MethodName := ⟨RX6, "winds", "(II)I"⟩
abbrev cX6_kinds : ByteArray := prog_8_method_61_code
def yX6_kinds : MethodName := ⟨RX6, "kinds", "(III)I"⟩
abbrev cX6_laws : ByteArray := prog_8_method_62_code
def yX6_laws : MethodName := ⟨RX6, "laws", "(II)I"⟩
abbrev cX6_film : ByteArray := prog_8_method_63_code
def yX6_film : MethodName := ⟨RX6, "film", "(II)I"⟩
abbrev cX6_flownBy : ByteArray := prog_8_method_64_code
def yX6_flownBy : MethodName := ⟨RX6, "flownBy", "(II)I"⟩
abbrev cX6_drawn : ByteArray := prog_8_method_65_code
def yX6_drawn : MethodName := ⟨RX6, "drawn", "(II)I"⟩
abbrev cX6_lowest : ByteArray := prog_8_method_66_code
def yX6_lowest : MethodName := ⟨RX6, "lowest", "(JJI)J"⟩
abbrev cX6_odds : ByteArray := prog_8_method_67_code
def yX6_odds : MethodName := ⟨RX6, "odds", "(IIIII)J"⟩
abbrev cX6_image : ByteArray := prog_8_method_68_code
def yX6_image : MethodName := ⟨RX6, "image", "()I"⟩
abbrev cX6_back : ByteArray := prog_8_method_69_code
def yX6_back : MethodName := ⟨RX6, "back", "()I"⟩
abbrev cX6_sheet : ByteArray := prog_8_method_70_code
def yX6_sheet : MethodName := ⟨RX6, "sheet", "(III)I"⟩
abbrev cX6_cell : ByteArray := prog_8_method_71_code
def yX6_cell : MethodName := ⟨RX6, "cell", "(III)I"⟩
abbrev cX6_copy : ByteArray := prog_8_method_72_code
def yX6_copy : MethodName := ⟨RX6, "copy", "(IIIII)I"⟩
abbrev cX6_landBy : ByteArray := prog_8_method_73_code
def yX6_landBy : MethodName := ⟨RX6, "landBy", "(IIII)I"⟩
abbrev cX6_isUnder : ByteArray := prog_8_method_74_code
def yX6_isUnder : MethodName := ⟨RX6, "isUnder", "(II)Z"⟩
abbrev cX6_taken : ByteArray := prog_8_method_75_code
def yX6_taken : MethodName := ⟨RX6, "taken", "(II)I"⟩
def RJx145de : String := "java/io/Serializable"
def TJx145de : u_T := fun k => match k with
  | _ => ("", "", "", false)
def tyJx145de : Nat → FieldType := fun k => match k with
  | _ => .int
abbrev wsJx145de0 : List Cond := u_ws RJx145de TJx145de 0
theorem nmJx145de : ∀ a, a < 0 → ∀ b, b < 0 → a ≠ b → (TJx145de a).2.1 ≠ (TJx145de b).2.1 := by decide +kernel
theorem tyJx145de_ok : ∀ k, k < 0 → parseFieldDescriptor (TJx145de k).2.2.1 = some (tyJx145de k) := by decide +kernel
def RJx9f9b0 : String := "java/lang/CharSequence"
def TJx9f9b0 : u_T := fun k => match k with
  | _ => ("", "", "", false)
def tyJx9f9b0 : Nat → FieldType := fun k => match k with
  | _ => .int
abbrev wsJx9f9b00 : List Cond := u_ws RJx9f9b0 TJx9f9b0 0
theorem nmJx9f9b0 : ∀ a, a < 0 → ∀ b, b < 0 → a ≠ b → (TJx9f9b0 a).2.1 ≠ (TJx9f9b0 b).2.1 := by decide +kernel
theorem tyJx9f9b0_ok : ∀ k, k < 0 → parseFieldDescriptor (TJx9f9b0 k).2.2.1 = some (tyJx9f9b0 k) := by decide +kernel
def RJxb160c : String := "java/lang/Comparable"
def TJxb160c : u_T := fun k => match k with
  | _ => ("", "", "", false)
def tyJxb160c : Nat → FieldType := fun k => match k with
  | _ => .int
abbrev wsJxb160c0 : List Cond := u_ws RJxb160c TJxb160c 0
theorem nmJxb160c : ∀ a, a < 0 → ∀ b, b < 0 → a ≠ b → (TJxb160c a).2.1 ≠ (TJxb160c b).2.1 := by decide +kernel
theorem tyJxb160c_ok : ∀ k, k < 0 → parseFieldDescriptor (TJxb160c k).2.2.1 = some (tyJxb160c k) := by decide +kernel
def RJ9 : String := "java/lang/Math"
def TJ9 : u_T := fun k => match k with
  | _ => ("", "", "", false)
def tyJ9 : Nat → FieldType := fun k => match k with
  | _ => .int
abbrev wsJ90 : List Cond := u_ws RJ9 TJ9 0
theorem nmJ9 : ∀ a, a < 0 → ∀ b, b < 0 → a ≠ b → (TJ9 a).2.1 ≠ (TJ9 b).2.1 := by decide +kernel
theorem tyJ9_ok : ∀ k, k < 0 → parseFieldDescriptor (TJ9 k).2.2.1 = some (tyJ9 k) := by decide +kernel
abbrev cJ9_max_7cf53 : ByteArray := prog_9_method_65_code
def yJ9_max_7cf53 : MethodName := ⟨RJ9, "max", "(II)I"⟩
abbrev cJ9_min_7cf53 : ByteArray := prog_9_method_69_code
def yJ9_min_7cf53 : MethodName := ⟨RJ9, "min", "(II)I"⟩
def RJ0 : String := "java/lang/String"
def TJ0 : u_T := fun k => match k with
  | _ => ("", "", "", false)
def tyJ0 : Nat → FieldType := fun k => match k with
  | _ => .int
abbrev wsJ00 : List Cond := u_ws RJ0 TJ0 0
theorem nmJ0 : ∀ a, a < 0 → ∀ b, b < 0 → a ≠ b → (TJ0 a).2.1 ≠ (TJ0 b).2.1 := by decide +kernel
theorem tyJ0_ok : ∀ k, k < 0 → parseFieldDescriptor (TJ0 k).2.2.1 = some (tyJ0 k) := by decide +kernel
abbrev cJ0_length_8abf5 : ByteArray := prog_10_method_54_code
def yJ0_length_8abf5 : MethodName := ⟨RJ0, "length", "()I"⟩
abbrev cJ0_charAt_5068e : ByteArray := prog_10_method_56_code
def yJ0_charAt_5068e : MethodName := ⟨RJ0, "charAt", "(I)C"⟩
abbrev cJ0_coder_7d493 : ByteArray := prog_10_method_152_code
def yJ0_coder_7d493 : MethodName := ⟨RJ0, "coder", "()B"⟩
abbrev cJ0_isLatin1_aae02 : ByteArray := prog_10_method_154_code
def yJ0_isLatin1_aae02 : MethodName := ⟨RJ0, "isLatin1", "()Z"⟩
abbrev cJ0_checkIndex_df160 : ByteArray := prog_10_method_155_code
def yJ0_checkIndex_df160 : MethodName := ⟨RJ0, "checkIndex", "(II)V"⟩
def RJ1 : String := "java/lang/StringLatin1"
def TJ1 : u_T := fun k => match k with
  | _ => ("", "", "", false)
def tyJ1 : Nat → FieldType := fun k => match k with
  | _ => .int
abbrev wsJ10 : List Cond := u_ws RJ1 TJ1 0
theorem nmJ1 : ∀ a, a < 0 → ∀ b, b < 0 → a ≠ b → (TJ1 a).2.1 ≠ (TJ1 b).2.1 := by decide +kernel
theorem tyJ1_ok : ∀ k, k < 0 → parseFieldDescriptor (TJ1 k).2.2.1 = some (tyJ1 k) := by decide +kernel
abbrev cJ1_charAt_3b067 : ByteArray := prog_11_method_2_code
def yJ1_charAt_3b067 : MethodName := ⟨RJ1, "charAt", "([BI)C"⟩
def RJ2 : String := "java/lang/StringUTF16"
def TJ2 : u_T := fun k => match k with
  | _ => ("", "", "", false)
def tyJ2 : Nat → FieldType := fun k => match k with
  | _ => .int
abbrev wsJ20 : List Cond := u_ws RJ2 TJ2 0
theorem nmJ2 : ∀ a, a < 0 → ∀ b, b < 0 → a ≠ b → (TJ2 a).2.1 ≠ (TJ2 b).2.1 := by decide +kernel
theorem tyJ2_ok : ∀ k, k < 0 → parseFieldDescriptor (TJ2 k).2.2.1 = some (tyJ2 k) := by decide +kernel
abbrev cJ2_getChar_3b067 : ByteArray := prog_12_method_5_code
def yJ2_getChar_3b067 : MethodName := ⟨RJ2, "getChar", "([BI)C"⟩
abbrev cJ2_length_9d52b : ByteArray := prog_12_method_6_code
def yJ2_length_9d52b : MethodName := ⟨RJ2, "length", "([B)I"⟩
abbrev cJ2_charAt_3b067 : ByteArray := prog_12_method_83_code
def yJ2_charAt_3b067 : MethodName := ⟨RJ2, "charAt", "([BI)C"⟩
abbrev cJ2_checkIndex_2214a : ByteArray := prog_12_method_91_code
def yJ2_checkIndex_2214a : MethodName := ⟨RJ2, "checkIndex", "(I[B)V"⟩
def RJ10 : String := "java/lang/System"
def TJ10 : u_T := fun k => match k with
  | _ => ("", "", "", false)
def tyJ10 : Nat → FieldType := fun k => match k with
  | _ => .int
abbrev wsJ100 : List Cond := u_ws RJ10 TJ10 0
theorem nmJ10 : ∀ a, a < 0 → ∀ b, b < 0 → a ≠ b → (TJ10 a).2.1 ≠ (TJ10 b).2.1 := by decide +kernel
theorem tyJ10_ok : ∀ k, k < 0 → parseFieldDescriptor (TJ10 k).2.2.1 = some (tyJ10 k) := by decide +kernel
def RJxfd54e : String := "java/lang/constant/Constable"
def TJxfd54e : u_T := fun k => match k with
  | _ => ("", "", "", false)
def tyJxfd54e : Nat → FieldType := fun k => match k with
  | _ => .int
abbrev wsJxfd54e0 : List Cond := u_ws RJxfd54e TJxfd54e 0
theorem nmJxfd54e : ∀ a, a < 0 → ∀ b, b < 0 → a ≠ b → (TJxfd54e a).2.1 ≠ (TJxfd54e b).2.1 := by decide +kernel
theorem tyJxfd54e_ok : ∀ k, k < 0 → parseFieldDescriptor (TJxfd54e k).2.2.1 = some (tyJxfd54e k) := by decide +kernel
def RJx3cf43 : String := "java/lang/constant/ConstantDesc"
def TJx3cf43 : u_T := fun k => match k with
  | _ => ("", "", "", false)
def tyJx3cf43 : Nat → FieldType := fun k => match k with
  | _ => .int
abbrev wsJx3cf430 : List Cond := u_ws RJx3cf43 TJx3cf43 0
theorem nmJx3cf43 : ∀ a, a < 0 → ∀ b, b < 0 → a ≠ b → (TJx3cf43 a).2.1 ≠ (TJx3cf43 b).2.1 := by decide +kernel
theorem tyJx3cf43_ok : ∀ k, k < 0 → parseFieldDescriptor (TJx3cf43 k).2.2.1 = some (tyJx3cf43 k) := by decide +kernel
def RJ7 : String := "java/util/Arrays"
def TJ7 : u_T := fun k => match k with
  | _ => ("", "", "", false)
def tyJ7 : Nat → FieldType := fun k => match k with
  | _ => .int
abbrev wsJ70 : List Cond := u_ws RJ7 TJ7 0
theorem nmJ7 : ∀ a, a < 0 → ∀ b, b < 0 → a ≠ b → (TJ7 a).2.1 ≠ (TJ7 b).2.1 := by decide +kernel
theorem tyJ7_ok : ∀ k, k < 0 → parseFieldDescriptor (TJ7 k).2.2.1 = some (tyJ7 k) := by decide +kernel
abbrev cJ7_fill_53178 : ByteArray := prog_14_method_103_code
def yJ7_fill_53178 : MethodName := ⟨RJ7, "fill", "([II)V"⟩
def RJ3 : String := "jdk/internal/util/Preconditions"
def TJ3 : u_T := fun k => match k with
  | _ => ("", "", "", false)
def tyJ3 : Nat → FieldType := fun k => match k with
  | _ => .int
abbrev wsJ30 : List Cond := u_ws RJ3 TJ3 0
theorem nmJ3 : ∀ a, a < 0 → ∀ b, b < 0 → a ≠ b → (TJ3 a).2.1 ≠ (TJ3 b).2.1 := by decide +kernel
theorem tyJ3_ok : ∀ k, k < 0 → parseFieldDescriptor (TJ3 k).2.2.1 = some (tyJ3 k) := by decide +kernel
abbrev cJ3_checkIndex_8e157 : ByteArray := prog_15_method_11_code
def yJ3_checkIndex_8e157 : MethodName := ⟨RJ3, "checkIndex", "(IILjava/util/function/BiFunction;)I"⟩
def RL : String := "StripsFromAboveLaw"
abbrev cL_law : ByteArray := code
def yL_law : MethodName := ⟨RL, "law", "([I)Z"⟩
def wsL_law_r1 : List Cond := [Cond.classLink RL 7 RX5, Cond.instantiable RX5 11, Cond.initialized RX5, Cond.classLink RL 10 RX6, Cond.instantiable RX6 47, Cond.initialized RX6, Cond.methodLink RL 9 yX5_init, Cond.instanceMethod yX5_init, Cond.code yX5_init cX5_init 2 none, Cond.methodLink RX5 1 objectInit, Cond.instanceMethod objectInit, Cond.code objectInit ⟨#[0xb1]⟩ 1 none, Cond.classLink RX5 7 RX3, Cond.instantiable RX3 15, Cond.initialized RX3, Cond.fieldLink RX5 10 "StripsFromAbove" "now" "LStripsFromAbove$Scene;", Cond.fieldLink RX5 16 "StripsFromAbove" "thought" "LStripsFromAbove$Scene;", Cond.fieldLink RX5 19 "StripsFromAbove" "kept" "LStripsFromAbove$Scene;", Cond.classLink RX5 22 RX1, Cond.fieldLink RX5 24 "StripsFromAbove" "lawRow" "[LStripsFromAbove$Law;", Cond.arrayClass .int, Cond.fieldLink RX5 28 "StripsFromAbove" "tape" "[I", Cond.classLink RX5 32 RX4, Cond.fieldLink RX5 34 "StripsFromAbove" "sheetRow" "[LStripsFromAbove$Sheet;"]
def wsL_law_r2 : List Cond := [Cond.classLink RX5 38 RX0, Cond.instantiable RX0 8, Cond.initialized RX0, Cond.fieldLink RX5 41 "StripsFromAbove" "trip" "LStripsFromAbove$Flight;", Cond.fieldLink RX5 45 "StripsFromAbove" "asked" "[I", Cond.instantiable RX1 5, Cond.initialized RX1, Cond.fieldLink RX5 53 "StripsFromAbove" "lawCount" "I", Cond.instantiable RX4 3, Cond.initialized RX4, Cond.instanceMethod yX3_init, Cond.code yX3_init cX3_init 1 none, Cond.methodLink RX3 3 objectInit, Cond.fieldLink RX3 9 "StripsFromAbove$Scene" "hills" "[I", Cond.fieldLink RX3 15 "StripsFromAbove$Scene" "clouds" "[I", Cond.fieldLink RX3 18 "StripsFromAbove$Scene" "ways" "[I", Cond.fieldLink RX3 21 "StripsFromAbove$Scene" "lines" "[I", Cond.fieldLink RX3 24 "StripsFromAbove$Scene" "kind" "[I", Cond.fieldLink RX3 27 "StripsFromAbove$Scene" "more" "[I", Cond.fieldLink RX3 30 "StripsFromAbove$Scene" "fuel" "[I", Cond.fieldLink RX3 33 "StripsFromAbove$Scene" "film" "[I", Cond.fieldLink RX3 36 "StripsFromAbove$Scene" "every" "[I", Cond.fieldLink RX3 39 "StripsFromAbove$Scene" "hour" "I", Cond.fieldLink RX3 43 "StripsFromAbove$Scene" "who" "I"]
def wsL_law_r3 : List Cond := [Cond.instanceMethod yX0_init, Cond.code yX0_init cX0_init 1 none, Cond.methodLink RX0 3 objectInit, Cond.fieldLink RX0 9 "StripsFromAbove$Flight" "over" "[I", Cond.fieldLink RX0 15 "StripsFromAbove$Flight" "names" "[I", Cond.methodLink RX5 48 yX5_firstLaw, Cond.static yX5_firstLaw, Cond.code yX5_firstLaw cX5_firstLaw 3 (some (.object "StripsFromAbove$Law")), Cond.methodLink RX5 66 Lib.Math.min.name, Cond.static Lib.Math.min.name, Cond.initialized "java/lang/Math", Cond.code Lib.Math.min.name Lib.Math.min.code 2 (some .int), Cond.classLink RX5 80 RX2, Cond.instantiable RX2 8, Cond.initialized RX2, Cond.methodLink RX5 60 yJ0_length_8abf5, Cond.instanceMethod yJ0_length_8abf5, Cond.selects RJ0 yJ0_length_8abf5 yJ0_length_8abf5, Cond.initialized RJ0, Cond.code yJ0_length_8abf5 cJ0_length_8abf5 1 (some .int), Cond.fieldLink RJ0 9 "java/lang/String" "value" "[B", Cond.methodLink RJ0 335 yJ0_coder_7d493, Cond.instanceMethod yJ0_coder_7d493, Cond.selects RJ0 yJ0_coder_7d493 yJ0_coder_7d493]
def wsL_law_r4 : List Cond := [Cond.code yJ0_coder_7d493 cJ0_coder_7d493 1 (some .byte), Cond.fieldLink RJ0 38 "java/lang/String" "COMPACT_STRINGS" "Z", Cond.fieldLink RJ0 15 "java/lang/String" "coder" "B", Cond.methodLink RX5 72 yJ0_charAt_5068e, Cond.instanceMethod yJ0_charAt_5068e, Cond.selects RJ0 yJ0_charAt_5068e yJ0_charAt_5068e, Cond.code yJ0_charAt_5068e cJ0_charAt_5068e 2 (some .char), Cond.methodLink RJ0 492 yJ0_isLatin1_aae02, Cond.instanceMethod yJ0_isLatin1_aae02, Cond.selects RJ0 yJ0_isLatin1_aae02 yJ0_isLatin1_aae02, Cond.code yJ0_isLatin1_aae02 cJ0_isLatin1_aae02 1 (some .boolean), Cond.methodLink RJ0 495 yJ1_charAt_3b067, Cond.static yJ1_charAt_3b067, Cond.initialized RJ1, Cond.code yJ1_charAt_3b067 cJ1_charAt_3b067 2 (some .char), Cond.methodLink RJ1 9 yJ0_checkIndex_df160, Cond.static yJ0_checkIndex_df160, Cond.code yJ0_checkIndex_df160 cJ0_checkIndex_df160 2 none, Cond.fieldLink RJ0 1053 "jdk/internal/util/Preconditions" "SIOOBE_FORMATTER" "Ljava/util/function/BiFunction;", Cond.methodLink RJ0 1059 yJ3_checkIndex_8e157, Cond.static yJ3_checkIndex_8e157, Cond.initialized RJ3, Cond.code yJ3_checkIndex_8e157 cJ3_checkIndex_8e157 3 (some .int), Cond.methodLink RJ0 498 yJ2_charAt_3b067]
def wsL_law_r5 : List Cond := [Cond.static yJ2_charAt_3b067, Cond.initialized RJ2, Cond.code yJ2_charAt_3b067 cJ2_charAt_3b067 2 (some .char), Cond.methodLink RJ2 67 yJ2_checkIndex_2214a, Cond.static yJ2_checkIndex_2214a, Cond.code yJ2_checkIndex_2214a cJ2_checkIndex_2214a 2 none, Cond.methodLink RJ2 48 yJ2_length_9d52b, Cond.static yJ2_length_9d52b, Cond.code yJ2_length_9d52b cJ2_length_9d52b 1 (some .int), Cond.methodLink RJ2 414 yJ0_checkIndex_df160, Cond.methodLink RJ2 71 yJ2_getChar_3b067, Cond.static yJ2_getChar_3b067, Cond.code yJ2_getChar_3b067 cJ2_getChar_3b067 2 (some .char), Cond.fieldLink RJ2 44 "java/lang/StringUTF16" "$assertionsDisabled" "Z", Cond.fieldLink RJ2 59 "java/lang/StringUTF16" "HI_BYTE_SHIFT" "I", Cond.fieldLink RJ2 63 "java/lang/StringUTF16" "LO_BYTE_SHIFT" "I", Cond.methodLink RX5 76 yX5_put, Cond.static yX5_put, Cond.code yX5_put cX5_put 3 none, Cond.instanceMethod yX1_init, Cond.code yX1_init cX1_init 1 none, Cond.methodLink RX1 3 objectInit, Cond.fieldLink RX1 9 "StripsFromAbove$Law" "works" "[I", Cond.fieldLink RX1 15 "StripsFromAbove$Law" "values" "[I"]
def wsL_law_r6 : List Cond := [Cond.fieldLink RX1 18 "StripsFromAbove$Law" "bounds" "[I", Cond.fieldLink RX1 21 "StripsFromAbove$Law" "pile" "[I", Cond.methodLink RX5 82 yX2_init, Cond.instanceMethod yX2_init, Cond.code yX2_init cX2_init 4 none, Cond.methodLink RX2 3 objectInit, Cond.fieldLink RX2 9 "StripsFromAbove$Reader" "fault" "I", Cond.fieldLink RX2 15 "StripsFromAbove$Reader" "tape" "[I", Cond.fieldLink RX2 19 "StripsFromAbove$Reader" "size" "I", Cond.fieldLink RX2 22 "StripsFromAbove$Reader" "law" "LStripsFromAbove$Law;", Cond.methodLink RX5 85 yX2_read, Cond.instanceMethod yX2_read, Cond.selects RX2 yX2_read yX2_read, Cond.code yX2_read cX2_read 2 (some .int), Cond.fieldLink RX2 44 "StripsFromAbove$Reader" "token" "I", Cond.methodLink RX2 26 yX1_clear, Cond.instanceMethod yX1_clear, Cond.selects RX1 yX1_clear yX1_clear, Cond.code yX1_clear cX1_clear 1 none, Cond.fieldLink RX1 24 "StripsFromAbove$Law" "size" "I", Cond.methodLink RX2 31 yX2_advance, Cond.instanceMethod yX2_advance, Cond.selects RX2 yX2_advance yX2_advance, Cond.code yX2_advance cX2_advance 2 none]
def wsL_law_r7 : List Cond := [Cond.fieldLink RX2 75 "StripsFromAbove$Reader" "next" "I", Cond.fieldLink RX2 50 "StripsFromAbove$Reader" "place" "I", Cond.static yX5_at, Cond.code yX5_at cX5_at 2 (some .int), Cond.methodLink RX2 82 yX2_isBlank, Cond.static yX2_isBlank, Cond.code yX2_isBlank cX2_isBlank 1 (some .boolean), Cond.methodLink RX2 86 yX2_isLetter, Cond.static yX2_isLetter, Cond.code yX2_isLetter cX2_isLetter 1 (some .boolean), Cond.methodLink RX2 89 yX2_readWord, Cond.instanceMethod yX2_readWord, Cond.selects RX2 yX2_readWord yX2_readWord, Cond.code yX2_readWord cX2_readWord 2 none, Cond.fieldLink RX2 72 "StripsFromAbove$Reader" "value" "I", Cond.methodLink RX2 101 yX2_wordNumber, Cond.instanceMethod yX2_wordNumber, Cond.selects RX2 yX2_wordNumber yX2_wordNumber, Cond.code yX2_wordNumber cX2_wordNumber 8 (some .int), Cond.methodLink RX2 107 yJ0_length_8abf5, Cond.methodLink RX2 113 yJ0_charAt_5068e, Cond.methodLink RX2 92 yX2_isDigit, Cond.static yX2_isDigit, Cond.code yX2_isDigit cX2_isDigit 1 (some .boolean)]
def wsL_law_r8 : List Cond := [Cond.methodLink RX2 95 yX2_readNumber, Cond.instanceMethod yX2_readNumber, Cond.selects RX2 yX2_readNumber yX2_readNumber, Cond.code yX2_readNumber cX2_readNumber 1 none, Cond.methodLink RX2 98 yX2_isSign, Cond.static yX2_isSign, Cond.code yX2_isSign cX2_isSign 1 (some .boolean), Cond.methodLink RX2 34 yX2_expect, Cond.instanceMethod yX2_expect, Cond.selects RX2 yX2_expect yX2_expect, Cond.code yX2_expect cX2_expect 2 none, Cond.methodLink RX2 47 yX2_refuse, Cond.instanceMethod yX2_refuse, Cond.selects RX2 yX2_refuse yX2_refuse, Cond.code yX2_refuse cX2_refuse 1 none, Cond.methodLink RX2 38 yX2_readEither, Cond.instanceMethod yX2_readEither, Cond.selects RX2 yX2_readEither yX2_readEither, Cond.code yX2_readEither cX2_readEither 3 none, Cond.methodLink RX2 53 yX2_readBoth, Cond.instanceMethod yX2_readBoth, Cond.selects RX2 yX2_readBoth yX2_readBoth, Cond.methodLink RX2 56 yX1_add, Cond.instanceMethod yX1_add]
def wsL_law_r9 : List Cond := [Cond.selects RX1 yX1_add yX1_add, Cond.code yX1_add cX1_add 3 none, Cond.code yX2_readBoth cX2_readBoth 3 none, Cond.methodLink RX2 60 yX2_readNot, Cond.instanceMethod yX2_readNot, Cond.selects RX2 yX2_readNot yX2_readNot, Cond.code yX2_readNot cX2_readNot 3 none, Cond.methodLink RX2 63 yX2_readSum, Cond.instanceMethod yX2_readSum, Cond.selects RX2 yX2_readSum yX2_readSum, Cond.code yX2_readOne cX2_readOne 3 none, Cond.methodLink RX2 69 yX2_readOne, Cond.instanceMethod yX2_readOne, Cond.selects RX2 yX2_readOne yX2_readOne, Cond.code yX2_readSum cX2_readSum 4 none, Cond.methodLink RX2 66 yX2_readTerm, Cond.instanceMethod yX2_readTerm, Cond.selects RX2 yX2_readTerm yX2_readTerm, Cond.code yX2_readTerm cX2_readTerm 3 none, Cond.methodLink RX2 41 yX1_endPart, Cond.instanceMethod yX1_endPart, Cond.selects RX1 yX1_endPart yX1_endPart, Cond.code yX1_endPart cX1_endPart 2 none, Cond.instanceMethod yX4_init]
def wsL_law_r10 : List Cond := [Cond.code yX4_init cX4_init 1 none, Cond.methodLink RX4 3 objectInit, Cond.fieldLink RX4 9 "StripsFromAbove$Sheet" "cells" "[I", Cond.fieldLink RX4 15 "StripsFromAbove$Sheet" "sort" "I", Cond.methodLink RL 12 yX6_init, Cond.instanceMethod yX6_init, Cond.code yX6_init cX6_init 2 none, Cond.methodLink RX6 1 objectInit, Cond.fieldLink RX6 7 "StripsFromAboveModel" "hills" "[I", Cond.fieldLink RX6 13 "StripsFromAboveModel" "clouds" "[I", Cond.fieldLink RX6 16 "StripsFromAboveModel" "hour0" "I", Cond.fieldLink RX6 20 "StripsFromAboveModel" "flies" "I", Cond.fieldLink RX6 23 "StripsFromAboveModel" "kind" "[I", Cond.fieldLink RX6 26 "StripsFromAboveModel" "moreOf" "[I", Cond.fieldLink RX6 29 "StripsFromAboveModel" "loads" "[I", Cond.fieldLink RX6 32 "StripsFromAboveModel" "ways" "[I", Cond.fieldLink RX6 35 "StripsFromAboveModel" "lines" "[I", Cond.fieldLink RX6 38 "StripsFromAboveModel" "tape" "[I", Cond.fieldLink RX6 41 "StripsFromAboveModel" "codes" "[I", Cond.fieldLink RX6 44 "StripsFromAboveModel" "starts" "[I", Cond.fieldLink RX6 47 "StripsFromAboveModel" "imageLand" "[I", Cond.fieldLink RX6 50 "StripsFromAboveModel" "imageRows" "[I", Cond.fieldLink RX6 53 "StripsFromAboveModel" "imageHeld" "[I", Cond.fieldLink RX6 56 "StripsFromAboveModel" "sheetSort" "[I"]
def wsL_law_r11 : List Cond := [Cond.fieldLink RX6 59 "StripsFromAboveModel" "sheetSize" "[I", Cond.fieldLink RX6 62 "StripsFromAboveModel" "cells" "[I", Cond.fieldLink RX6 65 "StripsFromAboveModel" "law" "[I", Cond.fieldLink RX6 68 "StripsFromAboveModel" "words" "[I", Cond.fieldLink RX6 71 "StripsFromAboveModel" "held" "[I", Cond.fieldLink RX6 74 "StripsFromAboveModel" "stack" "[I", Cond.fieldLink RX6 77 "StripsFromAboveModel" "named" "[I", Cond.fieldLink RX6 80 "StripsFromAboveModel" "covers" "[I", Cond.fieldLink RX6 83 "StripsFromAboveModel" "leftOut" "I", Cond.fieldLink RX6 86 "StripsFromAboveModel" "keptWays" "[I", Cond.fieldLink RX6 89 "StripsFromAboveModel" "keptLines" "[I", Cond.fieldLink RX6 92 "StripsFromAboveModel" "keptClouds" "[I", Cond.fieldLink RX6 95 "StripsFromAboveModel" "taped" "I", Cond.methodLink RX6 98 yX6_text, Cond.instanceMethod yX6_text, Cond.selects RX6 yX6_text yX6_text, Cond.code yX6_text cX6_text 3 (some .int), Cond.fieldLink RX6 115 "StripsFromAboveModel" "texts" "I", Cond.fieldLink RX6 132 "StripsFromAboveModel" "at" "I", Cond.fieldLink RX6 147 "StripsFromAboveModel" "out" "I", Cond.fieldLink RX6 138 "StripsFromAboveModel" "token" "I", Cond.fieldLink RX6 141 "StripsFromAboveModel" "value" "I", Cond.fieldLink RX6 135 "StripsFromAboveModel" "begun" "I", Cond.methodLink RX6 170 yX6_next]
def wsL_law_r12 : List Cond := [Cond.instanceMethod yX6_next, Cond.selects RX6 yX6_next yX6_next, Cond.code yX6_next cX6_next 3 none, Cond.methodLink RX6 105 yX6_in, Cond.static yX6_in, Cond.code yX6_in cX6_in 3 (some .boolean), Cond.methodLink RX6 144 yX6_wordFrom, Cond.instanceMethod yX6_wordFrom, Cond.selects RX6 yX6_wordFrom yX6_wordFrom, Cond.code yX6_wordFrom cX6_wordFrom 6 (some .int), Cond.methodLink RX6 183 yX6_eRead, Cond.instanceMethod yX6_eRead, Cond.selects RX6 yX6_eRead yX6_eRead, Cond.code yX6_eRead cX6_eRead 4 (some .boolean), Cond.fieldLink RX6 150 "StripsFromAboveModel" "heldMany" "I", Cond.fieldLink RX6 157 "StripsFromAboveModel" "opens" "I", Cond.constant RX6 173 (100000), Cond.methodLink RX6 160 yX6_puts, Cond.instanceMethod yX6_puts, Cond.selects RX6 yX6_puts yX6_puts, Cond.code yX6_puts cX6_puts 2 none, Cond.methodLink RX6 167 yX6_unwinds, Cond.instanceMethod yX6_unwinds, Cond.selects RX6 yX6_unwinds yX6_unwinds]
def wsL_law_r13 : List Cond := [Cond.code yX6_unwinds cX6_unwinds 3 none, Cond.methodLink RX6 153 yX6_rank, Cond.static yX6_rank, Cond.code yX6_rank cX6_rank 1 (some .int), Cond.methodLink RX6 174 yX6_opensOne, Cond.instanceMethod yX6_opensOne, Cond.selects RX6 yX6_opensOne yX6_opensOne, Cond.code yX6_opensOne cX6_opensOne 2 (some .boolean), Cond.methodLink RX6 164 yX6_holds, Cond.instanceMethod yX6_holds, Cond.selects RX6 yX6_holds yX6_holds, Cond.code yX6_holds cX6_holds 2 none, Cond.methodLink RX6 177 yX6_signOf, Cond.instanceMethod yX6_signOf, Cond.selects RX6 yX6_signOf yX6_signOf, Cond.code yX6_signOf cX6_signOf 1 (some .int), Cond.methodLink RX6 180 yX6_between, Cond.instanceMethod yX6_between, Cond.selects RX6 yX6_between yX6_between, Cond.code yX6_between cX6_between 2 (some .boolean), Cond.methodLink RL 13 yX5_count, Cond.instanceMethod yX5_count, Cond.selects RX5 yX5_count yX5_count, Cond.code yX5_count cX5_count 2 (some .int)]
def wsL_law_r14 : List Cond := [Cond.fieldLink RX5 88 "StripsFromAbove$Scene" "planes" "I", Cond.fieldLink RX5 91 "StripsFromAbove$Scene" "strips" "I", Cond.fieldLink RX5 94 "StripsFromAbove$Scene" "wind" "I", Cond.fieldLink RX5 97 "StripsFromAbove$Scene" "hour" "I", Cond.fieldLink RX5 100 "StripsFromAbove$Scene" "who" "I", Cond.fieldLink RX5 103 "StripsFromAbove$Scene" "law" "I", Cond.fieldLink RX5 106 "StripsFromAbove" "tapeSize" "I", Cond.methodLink RL 17 yX6_count, Cond.instanceMethod yX6_count, Cond.selects RX6 yX6_count yX6_count, Cond.code yX6_count cX6_count 2 (some .int), Cond.fieldLink RX6 102 "StripsFromAboveModel" "planes" "I", Cond.fieldLink RX6 109 "StripsFromAboveModel" "strips" "I", Cond.fieldLink RX6 112 "StripsFromAboveModel" "wind" "I", Cond.fieldLink RX6 118 "StripsFromAboveModel" "rule" "I", Cond.methodLink RL 18 yX5_set, Cond.instanceMethod yX5_set, Cond.selects RX5 yX5_set yX5_set, Cond.code yX5_set cX5_set 4 (some .int), Cond.methodLink RX5 109 yX5_isPlane, Cond.instanceMethod yX5_isPlane, Cond.selects RX5 yX5_isPlane yX5_isPlane, Cond.code yX5_isPlane cX5_isPlane 2 (some .boolean), Cond.methodLink RL 22 yX6_set]
def wsL_law_r15 : List Cond := [Cond.instanceMethod yX6_set, Cond.selects RX6 yX6_set yX6_set, Cond.code yX6_set cX6_set 4 (some .int), Cond.methodLink RL 23 yX5_land, Cond.instanceMethod yX5_land, Cond.selects RX5 yX5_land yX5_land, Cond.code yX5_land cX5_land 6 (some .int), Cond.fieldLink RX5 116 "StripsFromAbove$Scene" "hills" "[I", Cond.fieldLink RX5 119 "StripsFromAbove$Scene" "clouds" "[I", Cond.methodLink RX5 113 yX5_isMile, Cond.static yX5_isMile, Cond.code yX5_isMile cX5_isMile 1 (some .boolean), Cond.methodLink RX5 122 yX5_at, Cond.methodLink RL 27 yX6_land, Cond.instanceMethod yX6_land, Cond.selects RX6 yX6_land yX6_land, Cond.code yX6_land cX6_land 5 (some .int), Cond.methodLink RX6 121 yX6_isMile, Cond.static yX6_isMile, Cond.code yX6_isMile cX6_isMile 1 (some .boolean), Cond.methodLink RX6 125 yX6_mile, Cond.instanceMethod yX6_mile, Cond.selects RX6 yX6_mile yX6_mile, Cond.code yX6_mile cX6_mile 3 (some .int)]
def wsL_law_r16 : List Cond := [Cond.methodLink RL 28 yX5_mile, Cond.instanceMethod yX5_mile, Cond.selects RX5 yX5_mile yX5_mile, Cond.code yX5_mile cX5_mile 3 (some .int), Cond.methodLink RL 31 yX6_mile, Cond.methodLink RL 32 yX5_feed, Cond.instanceMethod yX5_feed, Cond.selects RX5 yX5_feed yX5_feed, Cond.code yX5_feed cX5_feed 7 (some .int), Cond.methodLink RX5 126 yX5_isByte, Cond.static yX5_isByte, Cond.code yX5_isByte cX5_isByte 1 (some .boolean), Cond.methodLink RL 36 yX6_feed, Cond.instanceMethod yX6_feed, Cond.selects RX6 yX6_feed yX6_feed, Cond.code yX6_feed cX6_feed 8 (some .int), Cond.methodLink RX6 129 yX6_isByte, Cond.static yX6_isByte, Cond.code yX6_isByte cX6_isByte 1 (some .boolean), Cond.methodLink RL 37 yX5_text, Cond.instanceMethod yX5_text, Cond.selects RX5 yX5_text yX5_text, Cond.code yX5_text cX5_text 3 (some .int), Cond.methodLink RX5 129 yX5_lawAt]
def wsL_law_r17 : List Cond := [Cond.instanceMethod yX5_lawAt, Cond.selects RX5 yX5_lawAt yX5_lawAt, Cond.code yX5_lawAt cX5_lawAt 2 (some (.object "StripsFromAbove$Law")), Cond.methodLink RL 41 yX6_text, Cond.methodLink RL 42 yX5_force, Cond.instanceMethod yX5_force, Cond.selects RX5 yX5_force yX5_force, Cond.code yX5_force cX5_force 3 (some .int), Cond.methodLink RL 45 yX6_force, Cond.instanceMethod yX6_force, Cond.selects RX6 yX6_force yX6_force, Cond.code yX6_force cX6_force 3 (some .int), Cond.methodLink RL 46 yX5_asks, Cond.instanceMethod yX5_asks, Cond.selects RX5 yX5_asks yX5_asks, Cond.code yX5_asks cX5_asks 6 (some .int), Cond.methodLink RX5 133 yX3_fillNames, Cond.instanceMethod yX3_fillNames, Cond.selects RX3 yX3_fillNames yX3_fillNames, Cond.code yX3_fillNames cX3_fillNames 5 none, Cond.fieldLink RX3 58 "StripsFromAbove$Scene" "wind" "I", Cond.methodLink RX3 72 Lib.Math.min.name, Cond.methodLink RX5 137 yX1_says, Cond.instanceMethod yX1_says]
def wsL_law_r18 : List Cond := [Cond.selects RX1 yX1_says yX1_says, Cond.code yX1_says cX1_says 7 (some .int), Cond.methodLink RX1 38 yX1_joined, Cond.static yX1_joined, Cond.code yX1_joined cX1_joined 3 (some .int), Cond.static yX5_bounded, Cond.code yX5_bounded cX5_bounded 3 (some .int), Cond.methodLink RL 50 yX6_asks, Cond.instanceMethod yX6_asks, Cond.selects RX6 yX6_asks yX6_asks, Cond.code yX6_asks cX6_asks 5 (some .int), Cond.methodLink RX6 197 yX6_isPlane, Cond.instanceMethod yX6_isPlane, Cond.selects RX6 yX6_isPlane yX6_isPlane, Cond.code yX6_isPlane cX6_isPlane 2 (some .boolean), Cond.methodLink RX6 200 yX6_asksOf, Cond.instanceMethod yX6_asksOf, Cond.selects RX6 yX6_asksOf yX6_asksOf, Cond.code yX6_asksOf cX6_asksOf 5 (some .int), Cond.methodLink RX6 191 yX6_says, Cond.instanceMethod yX6_says, Cond.selects RX6 yX6_says yX6_says, Cond.code yX6_says cX6_says 5 (some .int), Cond.methodLink RX6 187 yX6_two]
def wsL_law_r19 : List Cond := [Cond.static yX6_two, Cond.code yX6_two cX6_two 3 (some .int), Cond.methodLink RX6 194 yX6_within, Cond.static yX6_within, Cond.code yX6_within cX6_within 3 (some .int), Cond.methodLink RL 51 yX5_plane, Cond.instanceMethod yX5_plane, Cond.selects RX5 yX5_plane yX5_plane, Cond.code yX5_plane cX5_plane 4 (some .int), Cond.fieldLink RX5 141 "StripsFromAbove$Scene" "kind" "[I", Cond.fieldLink RX5 144 "StripsFromAbove$Scene" "more" "[I", Cond.fieldLink RX5 147 "StripsFromAbove$Scene" "fuel" "[I", Cond.fieldLink RX5 150 "StripsFromAbove$Scene" "film" "[I", Cond.fieldLink RX5 153 "StripsFromAbove$Scene" "every" "[I", Cond.methodLink RL 54 yX6_plane, Cond.instanceMethod yX6_plane, Cond.selects RX6 yX6_plane yX6_plane, Cond.code yX6_plane cX6_plane 3 (some .int), Cond.methodLink RL 55 yX5_load, Cond.instanceMethod yX5_load, Cond.selects RX5 yX5_load yX5_load, Cond.code yX5_load cX5_load 7 (some .int), Cond.methodLink RL 58 yX6_load, Cond.instanceMethod yX6_load]
def wsL_law_r20 : List Cond := [Cond.selects RX6 yX6_load yX6_load, Cond.code yX6_load cX6_load 5 (some .int), Cond.methodLink RL 59 yX5_told, Cond.instanceMethod yX5_told, Cond.selects RX5 yX5_told yX5_told, Cond.code yX5_told cX5_told 3 (some .int), Cond.methodLink RX5 156 yX5_mileMinutes, Cond.static yX5_mileMinutes, Cond.code yX5_mileMinutes cX5_mileMinutes 1 (some .int), Cond.methodLink RX5 262 yX5_isOfKind, Cond.static yX5_isOfKind, Cond.code yX5_isOfKind cX5_isOfKind 4 (some .boolean), Cond.fieldLink RX5 275 "StripsFromAbove" "ABOVE" "[I", Cond.methodLink RX5 160 yX5_turnMinutes, Cond.static yX5_turnMinutes, Cond.code yX5_turnMinutes cX5_turnMinutes 2 (some .int), Cond.methodLink RL 62 yX6_told, Cond.instanceMethod yX6_told, Cond.selects RX6 yX6_told yX6_told, Cond.code yX6_told cX6_told 3 (some .int), Cond.methodLink RX6 204 yX6_mileOf, Cond.instanceMethod yX6_mileOf, Cond.selects RX6 yX6_mileOf yX6_mileOf, Cond.code yX6_mileOf cX6_mileOf 2 (some .int)]
def wsL_law_r21 : List Cond := [Cond.methodLink RX6 207 yX6_turnOf, Cond.instanceMethod yX6_turnOf, Cond.selects RX6 yX6_turnOf yX6_turnOf, Cond.code yX6_turnOf cX6_turnOf 2 (some .int), Cond.methodLink RL 63 yX5_strip, Cond.instanceMethod yX5_strip, Cond.selects RX5 yX5_strip yX5_strip, Cond.code yX5_strip cX5_strip 3 (some .int), Cond.methodLink RX5 163 yX5_linesOf, Cond.static yX5_linesOf, Cond.code yX5_linesOf cX5_linesOf 1 (some .int), Cond.methodLink RX5 166 yX3_addStrip, Cond.instanceMethod yX3_addStrip, Cond.selects RX3 yX3_addStrip yX3_addStrip, Cond.code yX3_addStrip cX3_addStrip 3 none, Cond.fieldLink RX3 52 "StripsFromAbove$Scene" "strips" "I", Cond.methodLink RL 66 yX6_strip, Cond.instanceMethod yX6_strip, Cond.selects RX6 yX6_strip yX6_strip, Cond.code yX6_strip cX6_strip 3 (some .int), Cond.methodLink RL 67 yX5_drop, Cond.instanceMethod yX5_drop, Cond.selects RX5 yX5_drop yX5_drop, Cond.code yX5_drop cX5_drop 3 (some .int)]
def wsL_law_r22 : List Cond := [Cond.methodLink RX5 170 yX3_stripNumber, Cond.instanceMethod yX3_stripNumber, Cond.selects RX3 yX3_stripNumber yX3_stripNumber, Cond.code yX3_stripNumber cX3_stripNumber 2 (some .int), Cond.methodLink RX5 173 yX3_leaveOut, Cond.instanceMethod yX3_leaveOut, Cond.selects RX3 yX3_leaveOut yX3_leaveOut, Cond.code yX3_leaveOut cX3_leaveOut 3 none, Cond.methodLink RL 70 yX6_drop, Cond.instanceMethod yX6_drop, Cond.selects RX6 yX6_drop yX6_drop, Cond.code yX6_drop cX6_drop 4 (some .int), Cond.methodLink RX6 210 yX6_isStrip, Cond.instanceMethod yX6_isStrip, Cond.selects RX6 yX6_isStrip yX6_isStrip, Cond.code yX6_isStrip cX6_isStrip 2 (some .boolean), Cond.methodLink RL 71 yX5_planned, Cond.instanceMethod yX5_planned, Cond.selects RX5 yX5_planned yX5_planned, Cond.code yX5_planned cX5_planned 2 (some .int), Cond.methodLink RL 74 yX6_planned, Cond.instanceMethod yX6_planned, Cond.selects RX6 yX6_planned yX6_planned, Cond.code yX6_planned cX6_planned 2 (some .int)]
def wsL_law_r23 : List Cond := [Cond.methodLink RL 75 yX5_flight, Cond.instanceMethod yX5_flight, Cond.selects RX5 yX5_flight yX5_flight, Cond.code yX5_flight cX5_flight 2 (some .int), Cond.fieldLink RX5 183 "StripsFromAbove$Flight" "clicks" "I", Cond.fieldLink RX5 186 "StripsFromAbove$Flight" "lost" "I", Cond.fieldLink RX5 189 "StripsFromAbove$Flight" "minutes" "I", Cond.fieldLink RX5 192 "StripsFromAbove$Flight" "ended" "I", Cond.methodLink RX5 177 yX5_flyNow, Cond.instanceMethod yX5_flyNow, Cond.selects RX5 yX5_flyNow yX5_flyNow, Cond.code yX5_flyNow cX5_flyNow 1 none, Cond.methodLink RX5 265 yX0_fly, Cond.instanceMethod yX0_fly, Cond.selects RX0 yX0_fly yX0_fly, Cond.code yX0_fly cX0_fly 4 none, Cond.fieldLink RX0 24 "StripsFromAbove$Flight" "clicks" "I", Cond.fieldLink RX0 28 "StripsFromAbove$Flight" "lost" "I", Cond.fieldLink RX0 31 "StripsFromAbove$Flight" "minutes" "I", Cond.fieldLink RX0 34 "StripsFromAbove$Flight" "ended" "I", Cond.fieldLink RX0 37 "StripsFromAbove$Scene" "who" "I", Cond.fieldLink RX0 42 "StripsFromAbove$Scene" "kind" "[I", Cond.fieldLink RX0 49 "StripsFromAbove$Flight" "kind" "I", Cond.fieldLink RX0 51 "StripsFromAbove$Scene" "more" "[I"]
def wsL_law_r24 : List Cond := [Cond.fieldLink RX0 54 "StripsFromAbove$Flight" "more" "I", Cond.fieldLink RX0 56 "StripsFromAbove$Scene" "strips" "I", Cond.fieldLink RX0 63 "StripsFromAbove$Scene" "ways" "[I", Cond.fieldLink RX0 66 "StripsFromAbove$Scene" "lines" "[I", Cond.methodLink RX0 18 yJ7_fill_53178, Cond.static yJ7_fill_53178, Cond.initialized RJ7, Cond.code yJ7_fill_53178 cJ7_fill_53178 4 none, Cond.methodLink RX0 69 yX0_flyStrip, Cond.instanceMethod yX0_flyStrip, Cond.selects RX0 yX0_flyStrip yX0_flyStrip, Cond.code yX0_flyStrip cX0_flyStrip 15 (some .boolean), Cond.fieldLink RX0 77 "StripsFromAbove$Scene" "fuel" "[I", Cond.fieldLink RX0 80 "StripsFromAbove$Scene" "film" "[I", Cond.fieldLink RX0 83 "StripsFromAbove$Scene" "every" "[I", Cond.methodLink RX0 86 yX0_driftsOver, Cond.instanceMethod yX0_driftsOver, Cond.selects RX0 yX0_driftsOver yX0_driftsOver, Cond.code yX0_driftsOver cX0_driftsOver 7 (some .int), Cond.methodLink RX0 94 yX3_fillNames, Cond.methodLink RX0 98 yX1_says, Cond.static yX5_driftsAside, Cond.code yX5_driftsAside cX5_driftsAside 4 (some .int), Cond.methodLink RX5 282 Lib.Math.max.name]
def wsL_law_r25 : List Cond := [Cond.static Lib.Math.max.name, Cond.code Lib.Math.max.name Lib.Math.max.code 2 (some .int), Cond.methodLink RX5 278 yX5_bounded, Cond.methodLink RX0 90 yX0_click, Cond.instanceMethod yX0_click, Cond.selects RX0 yX0_click yX0_click, Cond.code yX0_click cX0_click 11 none, Cond.fieldLink RX0 108 "StripsFromAbove$Scene" "hour" "I", Cond.static yX5_seesAside, Cond.code yX5_seesAside cX5_seesAside 4 (some .int), Cond.methodLink RX0 114 yX0_cover, Cond.instanceMethod yX0_cover, Cond.selects RX0 yX0_cover yX0_cover, Cond.code yX0_cover cX0_cover 9 none, Cond.methodLink RX0 118 Lib.Math.min.name, Cond.methodLink RX0 123 Lib.Math.max.name, Cond.methodLink RX5 180 yX0_coveredMiles, Cond.instanceMethod yX0_coveredMiles, Cond.selects RX0 yX0_coveredMiles yX0_coveredMiles, Cond.code yX0_coveredMiles cX0_coveredMiles 5 (some .int), Cond.methodLink RX0 130 yX0_times, Cond.instanceMethod yX0_times, Cond.selects RX0 yX0_times yX0_times, Cond.code yX0_times cX0_times 3 (some .int)]
def wsL_law_r26 : List Cond := [Cond.methodLink RL 78 yX6_flight, Cond.instanceMethod yX6_flight, Cond.selects RX6 yX6_flight yX6_flight, Cond.code yX6_flight cX6_flight 3 (some .int), Cond.fieldLink RX6 213 "StripsFromAboveModel" "clicks" "I", Cond.fieldLink RX6 222 "StripsFromAboveModel" "lostMany" "I", Cond.fieldLink RX6 219 "StripsFromAboveModel" "minutes" "I", Cond.fieldLink RX6 239 "StripsFromAboveModel" "flownMany" "I", Cond.methodLink RX6 249 yX6_flown, Cond.instanceMethod yX6_flown, Cond.selects RX6 yX6_flown yX6_flown, Cond.code yX6_flown cX6_flown 3 (some .int), Cond.fieldLink RX6 232 "StripsFromAboveModel" "ended" "Z", Cond.methodLink RX6 242 yX6_stripOf, Cond.instanceMethod yX6_stripOf, Cond.selects RX6 yX6_stripOf yX6_stripOf, Cond.code yX6_stripOf cX6_stripOf 11 none, Cond.methodLink RX6 229 yX6_driftsOver, Cond.instanceMethod yX6_driftsOver, Cond.selects RX6 yX6_driftsOver yX6_driftsOver, Cond.code yX6_driftsOver cX6_driftsOver 5 (some .int), Cond.methodLink RX6 236 yX6_click, Cond.instanceMethod yX6_click, Cond.selects RX6 yX6_click yX6_click]
def wsL_law_r27 : List Cond := [Cond.code yX6_click cX6_click 8 none, Cond.methodLink RX6 225 yX6_coversOver, Cond.instanceMethod yX6_coversOver, Cond.selects RX6 yX6_coversOver yX6_coversOver, Cond.code yX6_coversOver cX6_coversOver 10 none, Cond.methodLink RX6 216 yX6_seesOver, Cond.instanceMethod yX6_seesOver, Cond.selects RX6 yX6_seesOver yX6_seesOver, Cond.code yX6_seesOver cX6_seesOver 5 (some .int), Cond.methodLink RX6 246 yX6_atLeast, Cond.instanceMethod yX6_atLeast, Cond.selects RX6 yX6_atLeast yX6_atLeast, Cond.code yX6_atLeast cX6_atLeast 4 (some .int), Cond.methodLink RL 79 yX5_seen, Cond.instanceMethod yX5_seen, Cond.selects RX5 yX5_seen yX5_seen, Cond.code yX5_seen cX5_seen 2 (some .int), Cond.methodLink RX5 195 yX0_times, Cond.methodLink RL 82 yX6_seen, Cond.instanceMethod yX6_seen, Cond.selects RX6 yX6_seen yX6_seen, Cond.code yX6_seen cX6_seen 2 (some .int), Cond.methodLink RL 83 yX5_gap, Cond.instanceMethod yX5_gap]
def wsL_law_r28 : List Cond := [Cond.selects RX5 yX5_gap yX5_gap, Cond.code yX5_gap cX5_gap 4 (some .int), Cond.methodLink RL 86 yX6_gap, Cond.instanceMethod yX6_gap, Cond.selects RX6 yX6_gap yX6_gap, Cond.code yX6_gap cX6_gap 4 (some .int), Cond.methodLink RL 87 yX5_spare, Cond.instanceMethod yX5_spare, Cond.selects RX5 yX5_spare yX5_spare, Cond.code yX5_spare cX5_spare 4 (some .int), Cond.methodLink RX5 198 yX5_isHalf, Cond.static yX5_isHalf, Cond.code yX5_isHalf cX5_isHalf 1 (some .boolean), Cond.methodLink RX5 201 yX5_coveredBy, Cond.instanceMethod yX5_coveredBy, Cond.selects RX5 yX5_coveredBy yX5_coveredBy, Cond.code yX5_coveredBy cX5_coveredBy 2 (some .int), Cond.methodLink RX5 205 yX3_take, Cond.instanceMethod yX3_take, Cond.selects RX3 yX3_take yX3_take, Cond.code yX3_take cX3_take 2 none, Cond.methodLink RX3 46 arraycopyName, Cond.native arraycopyName, Cond.static arraycopyName]
def wsL_law_r29 : List Cond := [Cond.initialized "java/lang/System", Cond.fieldLink RX3 55 "StripsFromAbove$Scene" "planes" "I", Cond.fieldLink RX3 61 "StripsFromAbove$Scene" "law" "I", Cond.methodLink RL 90 yX6_spare, Cond.instanceMethod yX6_spare, Cond.selects RX6 yX6_spare yX6_spare, Cond.code yX6_spare cX6_spare 6 (some .int), Cond.methodLink RL 91 yX5_again, Cond.instanceMethod yX5_again, Cond.selects RX5 yX5_again yX5_again, Cond.code yX5_again cX5_again 7 (some .int), Cond.methodLink RL 94 yX6_again, Cond.instanceMethod yX6_again, Cond.selects RX6 yX6_again yX6_again, Cond.code yX6_again cX6_again 8 (some .int), Cond.methodLink RL 95 yX5_apart, Cond.instanceMethod yX5_apart, Cond.selects RX5 yX5_apart yX5_apart, Cond.code yX5_apart cX5_apart 6 (some .int), Cond.methodLink RX5 209 yX5_planIn, Cond.instanceMethod yX5_planIn, Cond.selects RX5 yX5_planIn yX5_planIn, Cond.code yX5_planIn cX5_planIn 7 none, Cond.methodLink RL 98 yX6_apart]
def wsL_law_r30 : List Cond := [Cond.instanceMethod yX6_apart, Cond.selects RX6 yX6_apart yX6_apart, Cond.code yX6_apart cX6_apart 6 (some .int), Cond.methodLink RX6 252 yX6_flownPlanned, Cond.instanceMethod yX6_flownPlanned, Cond.selects RX6 yX6_flownPlanned yX6_flownPlanned, Cond.code yX6_flownPlanned cX6_flownPlanned 7 (some .int), Cond.methodLink RL 99 yX5_begin, Cond.instanceMethod yX5_begin, Cond.selects RX5 yX5_begin yX5_begin, Cond.code yX5_begin cX5_begin 8 (some .int), Cond.methodLink RL 102 yX6_begin, Cond.instanceMethod yX6_begin, Cond.selects RX6 yX6_begin yX6_begin, Cond.code yX6_begin cX6_begin 7 (some .int), Cond.methodLink RL 103 yX5_seldom, Cond.instanceMethod yX5_seldom, Cond.selects RX5 yX5_seldom yX5_seldom, Cond.code yX5_seldom cX5_seldom 4 (some .int), Cond.methodLink RL 106 yX6_seldom, Cond.instanceMethod yX6_seldom, Cond.selects RX6 yX6_seldom yX6_seldom, Cond.code yX6_seldom cX6_seldom 8 (some .int), Cond.methodLink RL 107 yX5_who]
def wsL_law_r31 : List Cond := [Cond.instanceMethod yX5_who, Cond.selects RX5 yX5_who yX5_who, Cond.code yX5_who cX5_who 6 (some .int), Cond.methodLink RL 110 yX6_who, Cond.instanceMethod yX6_who, Cond.selects RX6 yX6_who yX6_who, Cond.code yX6_who cX6_who 7 (some .int), Cond.methodLink RL 111 yX5_when, Cond.instanceMethod yX5_when, Cond.selects RX5 yX5_when yX5_when, Cond.code yX5_when cX5_when 6 (some .int), Cond.methodLink RL 114 yX6_when, Cond.instanceMethod yX6_when, Cond.selects RX6 yX6_when yX6_when, Cond.code yX6_when cX6_when 7 (some .int), Cond.methodLink RL 115 yX5_tuft, Cond.instanceMethod yX5_tuft, Cond.selects RX5 yX5_tuft yX5_tuft, Cond.code yX5_tuft cX5_tuft 4 (some .int), Cond.fieldLink RX5 213 "StripsFromAbove$Flight" "over" "[I", Cond.methodLink RL 118 yX6_tuft, Cond.instanceMethod yX6_tuft, Cond.selects RX6 yX6_tuft yX6_tuft, Cond.code yX6_tuft cX6_tuft 6 (some .int)]
def wsL_law_r32 : List Cond := [Cond.methodLink RL 119 yX5_judge, Cond.instanceMethod yX5_judge, Cond.selects RX5 yX5_judge yX5_judge, Cond.code yX5_judge cX5_judge 4 (some .int), Cond.methodLink RX5 216 yX5_refusalOf, Cond.instanceMethod yX5_refusalOf, Cond.selects RX5 yX5_refusalOf yX5_refusalOf, Cond.code yX5_refusalOf cX5_refusalOf 4 (some .int), Cond.fieldLink RX5 243 "StripsFromAbove$Sheet" "sort" "I", Cond.fieldLink RX5 246 "StripsFromAbove$Sheet" "size" "I", Cond.methodLink RX5 223 yX5_sheetAt, Cond.instanceMethod yX5_sheetAt, Cond.selects RX5 yX5_sheetAt yX5_sheetAt, Cond.code yX5_sheetAt cX5_sheetAt 2 (some (.object "StripsFromAbove$Sheet")), Cond.methodLink RX5 219 yX5_firstOtherwise, Cond.instanceMethod yX5_firstOtherwise, Cond.selects RX5 yX5_firstOtherwise yX5_firstOtherwise, Cond.code yX5_firstOtherwise cX5_firstOtherwise 6 (some .int), Cond.fieldLink RX5 253 "StripsFromAbove$Sheet" "cells" "[I", Cond.methodLink RL 122 yX6_judge, Cond.instanceMethod yX6_judge, Cond.selects RX6 yX6_judge yX6_judge, Cond.code yX6_judge cX6_judge 4 (some .int), Cond.methodLink RX6 255 yX6_toldWrong]
def wsL_law_r33 : List Cond := [Cond.instanceMethod yX6_toldWrong, Cond.selects RX6 yX6_toldWrong yX6_toldWrong, Cond.code yX6_toldWrong cX6_toldWrong 3 (some .int), Cond.methodLink RX6 258 yX6_unlike, Cond.instanceMethod yX6_unlike, Cond.selects RX6 yX6_unlike yX6_unlike, Cond.code yX6_unlike cX6_unlike 4 (some .int), Cond.methodLink RL 123 yX5_winds, Cond.instanceMethod yX5_winds, Cond.selects RX5 yX5_winds yX5_winds, Cond.code yX5_winds cX5_winds 6 (some .int), Cond.methodLink RL 126 yX6_winds, Cond.instanceMethod yX6_winds, Cond.selects RX6 yX6_winds yX6_winds, Cond.code yX6_winds cX6_winds 7 (some .int), Cond.methodLink RL 127 yX5_kinds, Cond.instanceMethod yX5_kinds, Cond.selects RX5 yX5_kinds yX5_kinds, Cond.code yX5_kinds cX5_kinds 9 (some .int), Cond.methodLink RL 130 yX6_kinds, Cond.instanceMethod yX6_kinds, Cond.selects RX6 yX6_kinds yX6_kinds, Cond.code yX6_kinds cX6_kinds 11 (some .int), Cond.methodLink RL 131 yX5_laws]
def wsL_law_r34 : List Cond := [Cond.instanceMethod yX5_laws, Cond.selects RX5 yX5_laws yX5_laws, Cond.code yX5_laws cX5_laws 6 (some .int), Cond.methodLink RL 134 yX6_laws, Cond.instanceMethod yX6_laws, Cond.selects RX6 yX6_laws yX6_laws, Cond.code yX6_laws cX6_laws 7 (some .int), Cond.methodLink RL 135 yX5_film, Cond.instanceMethod yX5_film, Cond.selects RX5 yX5_film yX5_film, Cond.code yX5_film cX5_film 7 (some .int), Cond.methodLink RX5 227 yX4_become, Cond.instanceMethod yX4_become, Cond.selects RX4 yX4_become yX4_become, Cond.code yX4_become cX4_become 3 none, Cond.fieldLink RX4 19 "StripsFromAbove$Sheet" "size" "I", Cond.methodLink RX4 22 yJ7_fill_53178, Cond.methodLink RX5 230 yX4_write, Cond.instanceMethod yX4_write, Cond.selects RX4 yX4_write yX4_write, Cond.code yX4_write cX4_write 3 none, Cond.methodLink RL 138 yX6_film, Cond.instanceMethod yX6_film, Cond.selects RX6 yX6_film yX6_film]
def wsL_law_r35 : List Cond := [Cond.code yX6_film cX6_film 6 (some .int), Cond.methodLink RL 139 yX5_drawn, Cond.instanceMethod yX5_drawn, Cond.selects RX5 yX5_drawn yX5_drawn, Cond.code yX5_drawn cX5_drawn 3 (some .int), Cond.constant RX5 233 (99999), Cond.methodLink RX5 234 yX5_drawClouds, Cond.instanceMethod yX5_drawClouds, Cond.selects RX5 yX5_drawClouds yX5_drawClouds, Cond.code yX5_drawClouds cX5_drawClouds 6 none, Cond.constantLong RX5 269 (48271), Cond.constantLong RX5 271 (2147483647), Cond.constantLong RX5 273 (100), Cond.methodLink RL 142 yX6_drawn, Cond.instanceMethod yX6_drawn, Cond.selects RX6 yX6_drawn yX6_drawn, Cond.code yX6_drawn cX6_drawn 3 (some .int), Cond.constant RX6 267 (99999), Cond.methodLink RX6 268 yX6_flownBy, Cond.instanceMethod yX6_flownBy, Cond.selects RX6 yX6_flownBy yX6_flownBy, Cond.code yX6_flownBy cX6_flownBy 7 (some .int), Cond.constantLong RX6 261 (48271), Cond.constantLong RX6 263 (2147483647)]
def wsL_law_r36 : List Cond := [Cond.constantLong RX6 265 (100), Cond.methodLink RL 143 yX5_odds, Cond.instanceMethod yX5_odds, Cond.selects RX5 yX5_odds yX5_odds, Cond.code yX5_odds cX5_odds 9 (some .long), Cond.constantLong RX5 237 (-4611686018427387904), Cond.methodLink RL 147 yX6_odds, Cond.instanceMethod yX6_odds, Cond.selects RX6 yX6_odds yX6_odds, Cond.code yX6_odds cX6_odds 9 (some .long), Cond.constantLong RX6 271 (-4611686018427387904), Cond.methodLink RX6 273 yX6_lowest, Cond.static yX6_lowest, Cond.code yX6_lowest cX6_lowest 11 (some .long), Cond.methodLink RL 148 yX5_image, Cond.instanceMethod yX5_image, Cond.selects RX5 yX5_image yX5_image, Cond.code yX5_image cX5_image 1 (some .int), Cond.fieldLink RX5 239 "StripsFromAbove" "anyKept" "Z", Cond.methodLink RL 151 yX6_image, Cond.instanceMethod yX6_image, Cond.selects RX6 yX6_image yX6_image, Cond.code yX6_image cX6_image 2 (some .int), Cond.fieldLink RX6 277 "StripsFromAboveModel" "hasImage" "Z"]
def wsL_law_r37 : List Cond := [Cond.methodLink RL 152 yX5_back, Cond.instanceMethod yX5_back, Cond.selects RX5 yX5_back yX5_back, Cond.code yX5_back cX5_back 1 (some .int), Cond.methodLink RL 155 yX6_back, Cond.instanceMethod yX6_back, Cond.selects RX6 yX6_back yX6_back, Cond.code yX6_back cX6_back 2 (some .int), Cond.methodLink RL 156 yX5_sheet, Cond.instanceMethod yX5_sheet, Cond.selects RX5 yX5_sheet yX5_sheet, Cond.code yX5_sheet cX5_sheet 5 (some .int), Cond.methodLink RL 159 yX6_sheet, Cond.instanceMethod yX6_sheet, Cond.selects RX6 yX6_sheet yX6_sheet, Cond.code yX6_sheet cX6_sheet 5 (some .int), Cond.methodLink RL 160 yX5_cell, Cond.instanceMethod yX5_cell, Cond.selects RX5 yX5_cell yX5_cell, Cond.code yX5_cell cX5_cell 5 (some .int), Cond.methodLink RL 163 yX6_cell, Cond.instanceMethod yX6_cell, Cond.selects RX6 yX6_cell yX6_cell, Cond.code yX6_cell cX6_cell 4 (some .int)]
def wsL_law_r38 : List Cond := [Cond.methodLink RL 164 yX5_copy, Cond.instanceMethod yX5_copy, Cond.selects RX5 yX5_copy yX5_copy, Cond.code yX5_copy cX5_copy 8 (some .int), Cond.methodLink RX5 256 arraycopyName, Cond.methodLink RX5 249 yX4_hasRoom, Cond.instanceMethod yX4_hasRoom, Cond.selects RX4 yX4_hasRoom yX4_hasRoom, Cond.code yX4_hasRoom cX4_hasRoom 3 (some .boolean), Cond.methodLink RL 168 yX6_copy, Cond.instanceMethod yX6_copy, Cond.selects RX6 yX6_copy yX6_copy, Cond.code yX6_copy cX6_copy 10 (some .int), Cond.methodLink RL 169 yX5_landBy, Cond.instanceMethod yX5_landBy, Cond.selects RX5 yX5_landBy yX5_landBy, Cond.code yX5_landBy cX5_landBy 10 (some .int), Cond.methodLink RL 172 yX6_landBy, Cond.instanceMethod yX6_landBy, Cond.selects RX6 yX6_landBy yX6_landBy, Cond.code yX6_landBy cX6_landBy 9 (some .int), Cond.methodLink RX6 280 yX6_land, Cond.methodLink RL 173 yX5_taken, Cond.instanceMethod yX5_taken]
def wsL_law_r39 : List Cond := [Cond.selects RX5 yX5_taken yX5_taken, Cond.code yX5_taken cX5_taken 3 (some .int), Cond.methodLink RL 176 yX6_taken, Cond.instanceMethod yX6_taken, Cond.selects RX6 yX6_taken yX6_taken, Cond.code yX6_taken cX6_taken 3 (some .int), Cond.methodLink RX6 283 yX6_isUnder, Cond.static yX6_isUnder, Cond.code yX6_isUnder cX6_isUnder 2 (some .boolean)]
def wsL_law : List Cond := (wsL_law_r1 ++ (wsL_law_r2 ++ (wsL_law_r3 ++ (wsL_law_r4 ++ (wsL_law_r5 ++ (wsL_law_r6 ++ (wsL_law_r7 ++ (wsL_law_r8 ++ (wsL_law_r9 ++ (wsL_law_r10 ++ (wsL_law_r11 ++ (wsL_law_r12 ++ (wsL_law_r13 ++ (wsL_law_r14 ++ (wsL_law_r15 ++ (wsL_law_r16 ++ (wsL_law_r17 ++ (wsL_law_r18 ++ (wsL_law_r19 ++ (wsL_law_r20 ++ (wsL_law_r21 ++ (wsL_law_r22 ++ (wsL_law_r23 ++ (wsL_law_r24 ++ (wsL_law_r25 ++ (wsL_law_r26 ++ (wsL_law_r27 ++ (wsL_law_r28 ++ (wsL_law_r29 ++ (wsL_law_r30 ++ (wsL_law_r31 ++ (wsL_law_r32 ++ (wsL_law_r33 ++ (wsL_law_r34 ++ (wsL_law_r35 ++ (wsL_law_r36 ++ (wsL_law_r37 ++ (wsL_law_r38 ++ wsL_law_r39)))))))))))))))))))))))))))))))))))))) ++ wsX50 ++ wsX60 ++ wsX30 ++ wsX00 ++ wsX10 ++ wsX40 ++ wsX20 ++ ([] : List Cond)
theorem am_mem {big : List Cond} (ws : List Cond) (ps : List Nat) (h : ws.map some = ps.map (fun i => big[i]?)) : ∀ w ∈ ws, w ∈ big := by
  intro w hw
  have h1 : some w ∈ ws.map some := List.mem_map.mpr ⟨w, hw, rfl⟩
  rw [h] at h1
  obtain ⟨i, -, hi⟩ := List.mem_map.mp h1
  exact List.mem_of_getElem? hi
set_option maxRecDepth 20000 in
theorem am_in1 : ∀ w ∈ wsL_law_r1, w ∈ lw_tbl := am_mem _ [66, 67, 52, 763, 764, 63, 68, 69, 70, 71, 72, 73, 74, 75, 53, 402, 403, 404, 150, 406, 149, 408, 152, 410] rfl
set_option maxRecDepth 20000 in
theorem am_in2 : ∀ w ∈ wsL_law_r2, w ∈ lw_tbl := am_mem _ [154, 155, 54, 411, 412, 248, 60, 407, 384, 62, 77, 78, 79, 80, 82, 84, 86, 91, 94, 97, 100, 103, 110, 113] rfl
set_option maxRecDepth 20000 in
theorem am_in3 : ∀ w ∈ wsL_law_r3, w ∈ lw_tbl := am_mem _ [157, 158, 159, 160, 172, 190, 191, 192, 204, 205, 56, 206, 270, 271, 61, 194, 195, 196, 55, 197, 1204, 198, 199, 200] rfl
set_option maxRecDepth 20000 in
theorem am_in4 : ∀ w ∈ wsL_law_r4, w ∈ lw_tbl := am_mem _ [201, 202, 1205, 207, 208, 209, 210, 211, 212, 213, 214, 215, 216, 57, 217, 218, 219, 220, 221, 223, 224, 58, 225, 226] rfl
set_option maxRecDepth 20000 in
theorem am_in5 : ∀ w ∈ wsL_law_r5, w ∈ lw_tbl := am_mem _ [227, 59, 228, 229, 230, 231, 232, 233, 234, 235, 236, 237, 238, 239, 241, 243, 245, 246, 247, 250, 251, 252, 253, 254] rfl
set_option maxRecDepth 20000 in
theorem am_in6 : ∀ w ∈ wsL_law_r6, w ∈ lw_tbl := am_mem _ [255, 256, 272, 273, 274, 275, 283, 276, 277, 278, 301, 302, 303, 304, 281, 305, 306, 307, 308, 257, 309, 311, 0, 312] rfl
set_option maxRecDepth 20000 in
theorem am_in7 : ∀ w ∈ wsL_law_r7, w ∈ lw_tbl := am_mem _ [279, 280, 314, 315, 316, 317, 318, 319, 320, 321, 322, 324, 1, 325, 282, 326, 328, 2, 329, 331, 332, 333, 334, 335] rfl
set_option maxRecDepth 20000 in
theorem am_in8 : ∀ w ∈ wsL_law_r8, w ∈ lw_tbl := am_mem _ [336, 338, 3, 339, 340, 341, 342, 343, 345, 4, 346, 347, 349, 5, 350, 351, 353, 6, 354, 355, 357, 7, 363, 364] rfl
set_option maxRecDepth 20000 in
theorem am_in9 : ∀ w ∈ wsL_law_r9, w ∈ lw_tbl := am_mem _ [365, 366, 358, 359, 361, 8, 362, 368, 370, 9, 379, 376, 378, 11, 371, 372, 374, 10, 375, 380, 381, 382, 383, 386] rfl
set_option maxRecDepth 20000 in
theorem am_in10 : ∀ w ∈ wsL_law_r10, w ∈ lw_tbl := am_mem _ [387, 388, 389, 391, 765, 766, 767, 768, 816, 817, 819, 820, 822, 823, 824, 826, 827, 828, 830, 831, 835, 836, 837, 838] rfl
set_option maxRecDepth 20000 in
theorem am_in11 : ∀ w ∈ wsL_law_r11, w ∈ lw_tbl := am_mem _ [839, 840, 841, 846, 847, 851, 852, 853, 859, 860, 861, 862, 829, 769, 770, 771, 772, 832, 842, 850, 844, 845, 843, 773] rfl
set_option maxRecDepth 20000 in
theorem am_in12 : ∀ w ∈ wsL_law_r12, w ∈ lw_tbl := am_mem _ [775, 25, 776, 777, 778, 779, 780, 782, 26, 783, 784, 786, 27, 787, 848, 849, 788, 789, 791, 28, 792, 793, 795, 29] rfl
set_option maxRecDepth 20000 in
theorem am_in13 : ∀ w ∈ wsL_law_r13, w ∈ lw_tbl := am_mem _ [796, 797, 798, 799, 800, 802, 30, 803, 804, 806, 31, 807, 808, 810, 32, 811, 812, 814, 33, 815, 436, 437, 438, 439] rfl
set_option maxRecDepth 20000 in
theorem am_in14 : ∀ w ∈ wsL_law_r14, w ∈ lw_tbl := am_mem _ [107, 90, 109, 111, 115, 117, 409, 958, 959, 960, 961, 821, 825, 818, 833, 440, 441, 442, 443, 444, 446, 12, 447, 962] rfl
set_option maxRecDepth 20000 in
theorem am_in15 : ∀ w ∈ wsL_law_r15, w ∈ lw_tbl := am_mem _ [963, 964, 965, 448, 449, 450, 451, 81, 83, 452, 453, 454, 455, 966, 967, 968, 969, 970, 971, 972, 973, 974, 975, 976] rfl
set_option maxRecDepth 20000 in
theorem am_in16 : ∀ w ∈ wsL_law_r16, w ∈ lw_tbl := am_mem _ [456, 457, 458, 459, 977, 460, 461, 462, 463, 464, 465, 466, 978, 979, 980, 981, 982, 983, 984, 467, 468, 469, 470, 471] rfl
set_option maxRecDepth 20000 in
theorem am_in17 : ∀ w ∈ wsL_law_r17, w ∈ lw_tbl := am_mem _ [473, 13, 474, 985, 475, 476, 477, 478, 986, 987, 988, 989, 479, 480, 481, 482, 483, 484, 485, 486, 108, 489, 490, 491] rfl
set_option maxRecDepth 20000 in
theorem am_in18 : ∀ w ∈ wsL_law_r18, w ∈ lw_tbl := am_mem _ [492, 493, 495, 496, 497, 503, 504, 990, 991, 992, 993, 994, 996, 34, 997, 998, 1000, 35, 1001, 1002, 1004, 36, 1005, 1006] rfl
set_option maxRecDepth 20000 in
theorem am_in19 : ∀ w ∈ wsL_law_r19, w ∈ lw_tbl := am_mem _ [1007, 1008, 1009, 1010, 1011, 505, 506, 507, 508, 93, 96, 99, 102, 105, 1012, 1013, 1014, 1015, 509, 510, 511, 512, 1016, 1017] rfl
set_option maxRecDepth 20000 in
theorem am_in20 : ∀ w ∈ wsL_law_r20, w ∈ lw_tbl := am_mem _ [1018, 1019, 513, 514, 515, 516, 517, 518, 519, 520, 521, 522, 523, 525, 526, 527, 1020, 1021, 1022, 1023, 1024, 1026, 37, 1027] rfl
set_option maxRecDepth 20000 in
theorem am_in21 : ∀ w ∈ wsL_law_r21, w ∈ lw_tbl := am_mem _ [1028, 1030, 38, 1031, 528, 529, 530, 531, 532, 533, 534, 535, 536, 537, 538, 88, 1032, 1033, 1034, 1035, 539, 540, 541, 542] rfl
set_option maxRecDepth 20000 in
theorem am_in22 : ∀ w ∈ wsL_law_r22, w ∈ lw_tbl := am_mem _ [543, 544, 545, 546, 547, 548, 549, 550, 1036, 1037, 1038, 1039, 1040, 1042, 39, 1043, 551, 552, 553, 554, 1044, 1045, 1046, 1047] rfl
set_option maxRecDepth 20000 in
theorem am_in23 : ∀ w ∈ wsL_law_r23, w ∈ lw_tbl := am_mem _ [555, 556, 557, 558, 163, 165, 167, 169, 559, 561, 14, 562, 563, 564, 565, 566, 162, 164, 166, 168, 114, 92, 170, 95] rfl
set_option maxRecDepth 20000 in
theorem am_in24 : ∀ w ∈ wsL_law_r24, w ∈ lw_tbl := am_mem _ [171, 89, 85, 87, 567, 568, 64, 569, 572, 574, 15, 575, 98, 101, 104, 577, 579, 16, 580, 581, 582, 584, 585, 586] rfl
set_option maxRecDepth 20000 in
theorem am_in25 : ∀ w ∈ wsL_law_r25, w ∈ lw_tbl := am_mem _ [587, 588, 589, 590, 592, 17, 593, 112, 595, 596, 597, 599, 18, 600, 601, 602, 604, 605, 606, 607, 608, 609, 610, 611] rfl
set_option maxRecDepth 20000 in
theorem am_in26 : ∀ w ∈ wsL_law_r26, w ∈ lw_tbl := am_mem _ [1048, 1049, 1050, 1051, 854, 855, 856, 857, 1052, 1054, 40, 1055, 858, 1056, 1058, 41, 1059, 1060, 1062, 42, 1063, 1064, 1066, 43] rfl
set_option maxRecDepth 20000 in
theorem am_in27 : ∀ w ∈ wsL_law_r27, w ∈ lw_tbl := am_mem _ [1067, 1068, 1070, 44, 1071, 1072, 1074, 45, 1075, 1076, 1078, 46, 1079, 612, 613, 614, 615, 616, 1080, 1081, 1082, 1083, 617, 618] rfl
set_option maxRecDepth 20000 in
theorem am_in28 : ∀ w ∈ wsL_law_r28, w ∈ lw_tbl := am_mem _ [619, 620, 1084, 1085, 1086, 1087, 621, 622, 623, 624, 625, 626, 627, 628, 630, 19, 631, 632, 633, 634, 635, 636, 638, 637] rfl
set_option maxRecDepth 20000 in
theorem am_in29 : ∀ w ∈ wsL_law_r29, w ∈ lw_tbl := am_mem _ [65, 106, 116, 1088, 1089, 1090, 1091, 639, 640, 641, 642, 1092, 1093, 1094, 1095, 643, 644, 645, 646, 647, 649, 20, 650, 1096] rfl
set_option maxRecDepth 20000 in
theorem am_in30 : ∀ w ∈ wsL_law_r30, w ∈ lw_tbl := am_mem _ [1097, 1098, 1099, 1100, 1102, 47, 1103, 651, 652, 653, 654, 1104, 1105, 1106, 1107, 655, 656, 657, 658, 1108, 1109, 1110, 1111, 659] rfl
set_option maxRecDepth 20000 in
theorem am_in31 : ∀ w ∈ wsL_law_r31, w ∈ lw_tbl := am_mem _ [660, 661, 662, 1112, 1113, 1114, 1115, 663, 664, 665, 666, 1116, 1117, 1118, 1119, 667, 668, 669, 670, 161, 1120, 1121, 1122, 1123] rfl
set_option maxRecDepth 20000 in
theorem am_in32 : ∀ w ∈ wsL_law_r32, w ∈ lw_tbl := am_mem _ [671, 672, 673, 674, 675, 677, 21, 678, 392, 394, 679, 681, 22, 682, 683, 685, 23, 686, 390, 1124, 1125, 1126, 1127, 1128] rfl
set_option maxRecDepth 20000 in
theorem am_in33 : ∀ w ∈ wsL_law_r33, w ∈ lw_tbl := am_mem _ [1130, 48, 1131, 1132, 1134, 49, 1135, 687, 688, 689, 690, 1136, 1137, 1138, 1139, 691, 692, 693, 694, 1140, 1141, 1142, 1143, 695] rfl
set_option maxRecDepth 20000 in
theorem am_in34 : ∀ w ∈ wsL_law_r34, w ∈ lw_tbl := am_mem _ [696, 697, 698, 1144, 1145, 1146, 1147, 699, 700, 701, 702, 703, 704, 705, 706, 393, 707, 708, 709, 710, 711, 1148, 1149, 1150] rfl
set_option maxRecDepth 20000 in
theorem am_in35 : ∀ w ∈ wsL_law_r35, w ∈ lw_tbl := am_mem _ [1151, 713, 714, 715, 716, 717, 718, 720, 24, 721, 722, 723, 724, 1152, 1153, 1154, 1155, 1156, 1157, 1159, 50, 1160, 1161, 1162] rfl
set_option maxRecDepth 20000 in
theorem am_in36 : ∀ w ∈ wsL_law_r36, w ∈ lw_tbl := am_mem _ [1163, 725, 726, 727, 728, 729, 1164, 1165, 1166, 1167, 1168, 1169, 1170, 1171, 730, 731, 732, 733, 405, 1172, 1173, 1174, 1175, 834] rfl
set_option maxRecDepth 20000 in
theorem am_in37 : ∀ w ∈ wsL_law_r37, w ∈ lw_tbl := am_mem _ [734, 735, 736, 737, 1176, 1177, 1178, 1179, 738, 739, 740, 741, 1180, 1181, 1182, 1183, 742, 743, 744, 745, 1184, 1185, 1186, 1187] rfl
set_option maxRecDepth 20000 in
theorem am_in38 : ∀ w ∈ wsL_law_r38, w ∈ lw_tbl := am_mem _ [746, 747, 748, 749, 754, 750, 751, 752, 753, 1188, 1189, 1190, 1191, 755, 756, 757, 758, 1192, 1193, 1194, 1195, 1196, 759, 760] rfl
set_option maxRecDepth 20000 in
theorem am_in39 : ∀ w ∈ wsL_law_r39, w ∈ lw_tbl := am_mem _ [761, 762, 1197, 1198, 1199, 1200, 1201, 1202, 1203] rfl
set_option maxRecDepth 20000 in
theorem inX0 : ∀ w ∈ wsX00, w ∈ lw_tbl := am_mem _ [173, 175, 177, 179, 181, 183, 185, 187] rfl
set_option maxRecDepth 20000 in
theorem inX1 : ∀ w ∈ wsX10, w ∈ lw_tbl := am_mem _ [258, 260, 262, 264, 266] rfl
set_option maxRecDepth 20000 in
theorem inX2 : ∀ w ∈ wsX20, w ∈ lw_tbl := am_mem _ [284, 286, 288, 290, 292, 294, 296, 298] rfl
set_option maxRecDepth 20000 in
theorem inX3 : ∀ w ∈ wsX30, w ∈ lw_tbl := am_mem _ [118, 120, 122, 124, 126, 128, 130, 132, 134, 136, 138, 140, 142, 144, 146] rfl
set_option maxRecDepth 20000 in
theorem inX4 : ∀ w ∈ wsX40, w ∈ lw_tbl := am_mem _ [395, 397, 399] rfl
set_option maxRecDepth 20000 in
theorem inX5 : ∀ w ∈ wsX50, w ∈ lw_tbl := am_mem _ [413, 415, 417, 419, 421, 423, 425, 427, 429, 431, 433] rfl
set_option maxRecDepth 20000 in
theorem inX6 : ∀ w ∈ wsX60, w ∈ lw_tbl := am_mem _ [863, 865, 867, 869, 871, 873, 875, 877, 879, 881, 883, 885, 887, 889, 891, 893, 895, 897, 899, 901, 903, 905, 907, 909, 911, 913, 915, 917, 919, 921, 923, 925, 927, 929, 931, 933, 935, 937, 939, 941, 943, 945, 947, 949, 951, 953, 955] rfl
abbrev vwCl : List vw_C := [(RX0, TX0, 8), (RX1, TX1, 5), (RX2, TX2, 8), (RX3, TX3, 15), (RX4, TX4, 3), (RX5, TX5, 11), (RX6, TX6, 47)]
