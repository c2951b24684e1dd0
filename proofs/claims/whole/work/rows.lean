section
-- ===== PART A: goes FIRST, ahead of the names: the tables' words, and 'selects' of the private methods out of them =====
/-- a private method of a class that the tables say can be made, by its rows of tables_1 -/
def lw_okq (q : MethodName × Nat) : Prop := (q.1.cls ≠ "java/lang/invoke/MethodHandle" ∧ q.1.cls ≠ "java/lang/invoke/VarHandle") ∧ Cond.instantiable q.1.cls q.2 ∈ tables_1 ∧ Cond.privateMethod q.1 ∈ tables_1 ∧ Cond.instanceMethod q.1 ∈ tables_1
theorem lw_p0 : lw_okq (⟨"PaperTrellis", "stepsRound", "(II)I"⟩, 13) := ⟨⟨by decide +kernel, by decide +kernel⟩, List.mem_of_getElem? (i := 15) (by decide +kernel), List.mem_of_getElem? (i := 522) (by decide +kernel), List.mem_of_getElem? (i := 523) (by decide +kernel)⟩
theorem lw_p1 : lw_okq (⟨"PaperTrellis", "looksLike", "(II)Z"⟩, 13) := ⟨⟨by decide +kernel, by decide +kernel⟩, List.mem_of_getElem? (i := 15) (by decide +kernel), List.mem_of_getElem? (i := 532) (by decide +kernel), List.mem_of_getElem? (i := 533) (by decide +kernel)⟩
theorem lw_p2 : lw_okq (⟨"PaperTrellis", "unlikeRows", "(I)I"⟩, 13) := ⟨⟨by decide +kernel, by decide +kernel⟩, List.mem_of_getElem? (i := 15) (by decide +kernel), List.mem_of_getElem? (i := 562) (by decide +kernel), List.mem_of_getElem? (i := 563) (by decide +kernel)⟩
theorem lw_p3 : lw_okq (⟨"PaperTrellis", "holds", "(III)Z"⟩, 13) := ⟨⟨by decide +kernel, by decide +kernel⟩, List.mem_of_getElem? (i := 15) (by decide +kernel), List.mem_of_getElem? (i := 575) (by decide +kernel), List.mem_of_getElem? (i := 576) (by decide +kernel)⟩
theorem lw_p4 : lw_okq (⟨"PaperTrellis", "countOfRests", "()I"⟩, 13) := ⟨⟨by decide +kernel, by decide +kernel⟩, List.mem_of_getElem? (i := 15) (by decide +kernel), List.mem_of_getElem? (i := 637) (by decide +kernel), List.mem_of_getElem? (i := 638) (by decide +kernel)⟩
theorem lw_p5 : lw_okq (⟨"PaperTrellis", "isRest", "(II)Z"⟩, 13) := ⟨⟨by decide +kernel, by decide +kernel⟩, List.mem_of_getElem? (i := 15) (by decide +kernel), List.mem_of_getElem? (i := 641) (by decide +kernel), List.mem_of_getElem? (i := 642) (by decide +kernel)⟩
theorem lw_p6 : lw_okq (⟨"PaperTrellis", "firstRest", "()I"⟩, 13) := ⟨⟨by decide +kernel, by decide +kernel⟩, List.mem_of_getElem? (i := 15) (by decide +kernel), List.mem_of_getElem? (i := 649) (by decide +kernel), List.mem_of_getElem? (i := 650) (by decide +kernel)⟩
theorem lw_p7 : lw_okq (⟨"PaperTrellis", "happens", "(I)V"⟩, 13) := ⟨⟨by decide +kernel, by decide +kernel⟩, List.mem_of_getElem? (i := 15) (by decide +kernel), List.mem_of_getElem? (i := 674) (by decide +kernel), List.mem_of_getElem? (i := 675) (by decide +kernel)⟩
theorem lw_p8 : lw_okq (⟨"PaperTrellisModel", "readPaper", "()I"⟩, 36) := ⟨⟨by decide +kernel, by decide +kernel⟩, List.mem_of_getElem? (i := 692) (by decide +kernel), List.mem_of_getElem? (i := 823) (by decide +kernel), List.mem_of_getElem? (i := 824) (by decide +kernel)⟩
theorem lw_p9 : lw_okq (⟨"PaperTrellisModel", "readPattern", "()Z"⟩, 36) := ⟨⟨by decide +kernel, by decide +kernel⟩, List.mem_of_getElem? (i := 692) (by decide +kernel), List.mem_of_getElem? (i := 827) (by decide +kernel), List.mem_of_getElem? (i := 828) (by decide +kernel)⟩
theorem lw_p10 : lw_okq (⟨"PaperTrellisModel", "from", "(III)I"⟩, 36) := ⟨⟨by decide +kernel, by decide +kernel⟩, List.mem_of_getElem? (i := 692) (by decide +kernel), List.mem_of_getElem? (i := 831) (by decide +kernel), List.mem_of_getElem? (i := 832) (by decide +kernel)⟩
theorem lw_p11 : lw_okq (⟨"PaperTrellisModel", "readKind", "()I"⟩, 36) := ⟨⟨by decide +kernel, by decide +kernel⟩, List.mem_of_getElem? (i := 692) (by decide +kernel), List.mem_of_getElem? (i := 835) (by decide +kernel), List.mem_of_getElem? (i := 836) (by decide +kernel)⟩
theorem lw_p12 : lw_okq (⟨"PaperTrellisModel", "readOneBoy", "()Z"⟩, 36) := ⟨⟨by decide +kernel, by decide +kernel⟩, List.mem_of_getElem? (i := 692) (by decide +kernel), List.mem_of_getElem? (i := 839) (by decide +kernel), List.mem_of_getElem? (i := 840) (by decide +kernel)⟩
theorem lw_p13 : lw_okq (⟨"PaperTrellisModel", "hasRoom", "()Z"⟩, 36) := ⟨⟨by decide +kernel, by decide +kernel⟩, List.mem_of_getElem? (i := 692) (by decide +kernel), List.mem_of_getElem? (i := 843) (by decide +kernel), List.mem_of_getElem? (i := 844) (by decide +kernel)⟩
theorem lw_p14 : lw_okq (⟨"PaperTrellisModel", "cellsOf", "(I)I"⟩, 36) := ⟨⟨by decide +kernel, by decide +kernel⟩, List.mem_of_getElem? (i := 692) (by decide +kernel), List.mem_of_getElem? (i := 855) (by decide +kernel), List.mem_of_getElem? (i := 856) (by decide +kernel)⟩
theorem lw_p15 : lw_okq (⟨"PaperTrellisModel", "kindOf", "([II)I"⟩, 36) := ⟨⟨by decide +kernel, by decide +kernel⟩, List.mem_of_getElem? (i := 692) (by decide +kernel), List.mem_of_getElem? (i := 859) (by decide +kernel), List.mem_of_getElem? (i := 860) (by decide +kernel)⟩
def lw_privs_1 : List (MethodName × Nat) := [(⟨"PaperTrellis", "stepsRound", "(II)I"⟩, 13), (⟨"PaperTrellis", "looksLike", "(II)Z"⟩, 13), (⟨"PaperTrellis", "unlikeRows", "(I)I"⟩, 13), (⟨"PaperTrellis", "holds", "(III)Z"⟩, 13), (⟨"PaperTrellis", "countOfRests", "()I"⟩, 13), (⟨"PaperTrellis", "isRest", "(II)Z"⟩, 13), (⟨"PaperTrellis", "firstRest", "()I"⟩, 13), (⟨"PaperTrellis", "happens", "(I)V"⟩, 13), (⟨"PaperTrellisModel", "readPaper", "()I"⟩, 36), (⟨"PaperTrellisModel", "readPattern", "()Z"⟩, 36), (⟨"PaperTrellisModel", "from", "(III)I"⟩, 36), (⟨"PaperTrellisModel", "readKind", "()I"⟩, 36), (⟨"PaperTrellisModel", "readOneBoy", "()Z"⟩, 36), (⟨"PaperTrellisModel", "hasRoom", "()Z"⟩, 36), (⟨"PaperTrellisModel", "cellsOf", "(I)I"⟩, 36), (⟨"PaperTrellisModel", "kindOf", "([II)I"⟩, 36)]
theorem lw_r1 : ∀ q ∈ lw_privs_1, lw_okq q := List.forall_mem_cons.mpr ⟨lw_p0, List.forall_mem_cons.mpr ⟨lw_p1, List.forall_mem_cons.mpr ⟨lw_p2, List.forall_mem_cons.mpr ⟨lw_p3, List.forall_mem_cons.mpr ⟨lw_p4, List.forall_mem_cons.mpr ⟨lw_p5, List.forall_mem_cons.mpr ⟨lw_p6, List.forall_mem_cons.mpr ⟨lw_p7, List.forall_mem_cons.mpr ⟨lw_p8, List.forall_mem_cons.mpr ⟨lw_p9, List.forall_mem_cons.mpr ⟨lw_p10, List.forall_mem_cons.mpr ⟨lw_p11, List.forall_mem_cons.mpr ⟨lw_p12, List.forall_mem_cons.mpr ⟨lw_p13, List.forall_mem_cons.mpr ⟨lw_p14, List.forall_mem_cons.mpr ⟨lw_p15, fun _ h => absurd h List.not_mem_nil⟩⟩⟩⟩⟩⟩⟩⟩⟩⟩⟩⟩⟩⟩⟩⟩
theorem lw_p16 : lw_okq (⟨"PaperTrellisModel", "homes", "([I)I"⟩, 36) := ⟨⟨by decide +kernel, by decide +kernel⟩, List.mem_of_getElem? (i := 692) (by decide +kernel), List.mem_of_getElem? (i := 866) (by decide +kernel), List.mem_of_getElem? (i := 867) (by decide +kernel)⟩
theorem lw_p17 : lw_okq (⟨"PaperTrellisModel", "isHome", "([II)Z"⟩, 36) := ⟨⟨by decide +kernel, by decide +kernel⟩, List.mem_of_getElem? (i := 692) (by decide +kernel), List.mem_of_getElem? (i := 870) (by decide +kernel), List.mem_of_getElem? (i := 871) (by decide +kernel)⟩
theorem lw_p18 : lw_okq (⟨"PaperTrellisModel", "noCell", "(I)Z"⟩, 36) := ⟨⟨by decide +kernel, by decide +kernel⟩, List.mem_of_getElem? (i := 692) (by decide +kernel), List.mem_of_getElem? (i := 878) (by decide +kernel), List.mem_of_getElem? (i := 879) (by decide +kernel)⟩
theorem lw_p19 : lw_okq (⟨"PaperTrellisModel", "cellBeside", "(IIZ)I"⟩, 36) := ⟨⟨by decide +kernel, by decide +kernel⟩, List.mem_of_getElem? (i := 692) (by decide +kernel), List.mem_of_getElem? (i := 890) (by decide +kernel), List.mem_of_getElem? (i := 891) (by decide +kernel)⟩
theorem lw_p20 : lw_okq (⟨"PaperTrellisModel", "goWay", "(IZ)V"⟩, 36) := ⟨⟨by decide +kernel, by decide +kernel⟩, List.mem_of_getElem? (i := 692) (by decide +kernel), List.mem_of_getElem? (i := 894) (by decide +kernel), List.mem_of_getElem? (i := 895) (by decide +kernel)⟩
theorem lw_p21 : lw_okq (⟨"PaperTrellisModel", "noBoy", "(I)Z"⟩, 36) := ⟨⟨by decide +kernel, by decide +kernel⟩, List.mem_of_getElem? (i := 692) (by decide +kernel), List.mem_of_getElem? (i := 902) (by decide +kernel), List.mem_of_getElem? (i := 903) (by decide +kernel)⟩
theorem lw_p22 : lw_okq (⟨"PaperTrellisModel", "waysOf", "(I)I"⟩, 36) := ⟨⟨by decide +kernel, by decide +kernel⟩, List.mem_of_getElem? (i := 692) (by decide +kernel), List.mem_of_getElem? (i := 906) (by decide +kernel), List.mem_of_getElem? (i := 907) (by decide +kernel)⟩
theorem lw_p23 : lw_okq (⟨"PaperTrellisModel", "canGo", "([III)Z"⟩, 36) := ⟨⟨by decide +kernel, by decide +kernel⟩, List.mem_of_getElem? (i := 692) (by decide +kernel), List.mem_of_getElem? (i := 910) (by decide +kernel), List.mem_of_getElem? (i := 911) (by decide +kernel)⟩
theorem lw_p24 : lw_okq (⟨"PaperTrellisModel", "stand", "([II)V"⟩, 36) := ⟨⟨by decide +kernel, by decide +kernel⟩, List.mem_of_getElem? (i := 692) (by decide +kernel), List.mem_of_getElem? (i := 914) (by decide +kernel), List.mem_of_getElem? (i := 915) (by decide +kernel)⟩
theorem lw_p25 : lw_okq (⟨"PaperTrellisModel", "isThere", "()Z"⟩, 36) := ⟨⟨by decide +kernel, by decide +kernel⟩, List.mem_of_getElem? (i := 692) (by decide +kernel), List.mem_of_getElem? (i := 918) (by decide +kernel), List.mem_of_getElem? (i := 919) (by decide +kernel)⟩
theorem lw_p26 : lw_okq (⟨"PaperTrellisModel", "canBe", "([III)Z"⟩, 36) := ⟨⟨by decide +kernel, by decide +kernel⟩, List.mem_of_getElem? (i := 692) (by decide +kernel), List.mem_of_getElem? (i := 923) (by decide +kernel), List.mem_of_getElem? (i := 924) (by decide +kernel)⟩
theorem lw_p27 : lw_okq (⟨"PaperTrellisModel", "note", "()V"⟩, 36) := ⟨⟨by decide +kernel, by decide +kernel⟩, List.mem_of_getElem? (i := 692) (by decide +kernel), List.mem_of_getElem? (i := 931) (by decide +kernel), List.mem_of_getElem? (i := 932) (by decide +kernel)⟩
theorem lw_p28 : lw_okq (⟨"PaperTrellisModel", "goStep", "([III)Z"⟩, 36) := ⟨⟨by decide +kernel, by decide +kernel⟩, List.mem_of_getElem? (i := 692) (by decide +kernel), List.mem_of_getElem? (i := 935) (by decide +kernel), List.mem_of_getElem? (i := 936) (by decide +kernel)⟩
theorem lw_p29 : lw_okq (⟨"PaperTrellisModel", "away", "([I)I"⟩, 36) := ⟨⟨by decide +kernel, by decide +kernel⟩, List.mem_of_getElem? (i := 692) (by decide +kernel), List.mem_of_getElem? (i := 943) (by decide +kernel), List.mem_of_getElem? (i := 944) (by decide +kernel)⟩
theorem lw_p30 : lw_okq (⟨"PaperTrellisModel", "goCall", "([II)V"⟩, 36) := ⟨⟨by decide +kernel, by decide +kernel⟩, List.mem_of_getElem? (i := 692) (by decide +kernel), List.mem_of_getElem? (i := 950) (by decide +kernel), List.mem_of_getElem? (i := 951) (by decide +kernel)⟩
theorem lw_p31 : lw_okq (⟨"PaperTrellisModel", "hears", "([III)Z"⟩, 36) := ⟨⟨by decide +kernel, by decide +kernel⟩, List.mem_of_getElem? (i := 692) (by decide +kernel), List.mem_of_getElem? (i := 954) (by decide +kernel), List.mem_of_getElem? (i := 955) (by decide +kernel)⟩
def lw_privs_2 : List (MethodName × Nat) := [(⟨"PaperTrellisModel", "homes", "([I)I"⟩, 36), (⟨"PaperTrellisModel", "isHome", "([II)Z"⟩, 36), (⟨"PaperTrellisModel", "noCell", "(I)Z"⟩, 36), (⟨"PaperTrellisModel", "cellBeside", "(IIZ)I"⟩, 36), (⟨"PaperTrellisModel", "goWay", "(IZ)V"⟩, 36), (⟨"PaperTrellisModel", "noBoy", "(I)Z"⟩, 36), (⟨"PaperTrellisModel", "waysOf", "(I)I"⟩, 36), (⟨"PaperTrellisModel", "canGo", "([III)Z"⟩, 36), (⟨"PaperTrellisModel", "stand", "([II)V"⟩, 36), (⟨"PaperTrellisModel", "isThere", "()Z"⟩, 36), (⟨"PaperTrellisModel", "canBe", "([III)Z"⟩, 36), (⟨"PaperTrellisModel", "note", "()V"⟩, 36), (⟨"PaperTrellisModel", "goStep", "([III)Z"⟩, 36), (⟨"PaperTrellisModel", "away", "([I)I"⟩, 36), (⟨"PaperTrellisModel", "goCall", "([II)V"⟩, 36), (⟨"PaperTrellisModel", "hears", "([III)Z"⟩, 36)]
theorem lw_r2 : ∀ q ∈ lw_privs_2, lw_okq q := List.forall_mem_cons.mpr ⟨lw_p16, List.forall_mem_cons.mpr ⟨lw_p17, List.forall_mem_cons.mpr ⟨lw_p18, List.forall_mem_cons.mpr ⟨lw_p19, List.forall_mem_cons.mpr ⟨lw_p20, List.forall_mem_cons.mpr ⟨lw_p21, List.forall_mem_cons.mpr ⟨lw_p22, List.forall_mem_cons.mpr ⟨lw_p23, List.forall_mem_cons.mpr ⟨lw_p24, List.forall_mem_cons.mpr ⟨lw_p25, List.forall_mem_cons.mpr ⟨lw_p26, List.forall_mem_cons.mpr ⟨lw_p27, List.forall_mem_cons.mpr ⟨lw_p28, List.forall_mem_cons.mpr ⟨lw_p29, List.forall_mem_cons.mpr ⟨lw_p30, List.forall_mem_cons.mpr ⟨lw_p31, fun _ h => absurd h List.not_mem_nil⟩⟩⟩⟩⟩⟩⟩⟩⟩⟩⟩⟩⟩⟩⟩⟩
theorem lw_p32 : lw_okq (⟨"PaperTrellisModel", "layFar", "(I)V"⟩, 36) := ⟨⟨by decide +kernel, by decide +kernel⟩, List.mem_of_getElem? (i := 692) (by decide +kernel), List.mem_of_getElem? (i := 970) (by decide +kernel), List.mem_of_getElem? (i := 971) (by decide +kernel)⟩
theorem lw_p33 : lw_okq (⟨"PaperTrellisModel", "spotNumber", "()I"⟩, 36) := ⟨⟨by decide +kernel, by decide +kernel⟩, List.mem_of_getElem? (i := 692) (by decide +kernel), List.mem_of_getElem? (i := 974) (by decide +kernel), List.mem_of_getElem? (i := 975) (by decide +kernel)⟩
theorem lw_p34 : lw_okq (⟨"PaperTrellisModel", "reachOf", "(II)I"⟩, 36) := ⟨⟨by decide +kernel, by decide +kernel⟩, List.mem_of_getElem? (i := 692) (by decide +kernel), List.mem_of_getElem? (i := 983) (by decide +kernel), List.mem_of_getElem? (i := 984) (by decide +kernel)⟩
theorem lw_p35 : lw_okq (⟨"PaperTrellisModel", "areAlike", "(II)Z"⟩, 36) := ⟨⟨by decide +kernel, by decide +kernel⟩, List.mem_of_getElem? (i := 692) (by decide +kernel), List.mem_of_getElem? (i := 995) (by decide +kernel), List.mem_of_getElem? (i := 996) (by decide +kernel)⟩
theorem lw_p36 : lw_okq (⟨"PaperTrellisModel", "fewest", "()I"⟩, 36) := ⟨⟨by decide +kernel, by decide +kernel⟩, List.mem_of_getElem? (i := 692) (by decide +kernel), List.mem_of_getElem? (i := 1003) (by decide +kernel), List.mem_of_getElem? (i := 1004) (by decide +kernel)⟩
theorem lw_p37 : lw_okq (⟨"PaperTrellisModel", "unlikeBy", "(I)I"⟩, 36) := ⟨⟨by decide +kernel, by decide +kernel⟩, List.mem_of_getElem? (i := 692) (by decide +kernel), List.mem_of_getElem? (i := 1014) (by decide +kernel), List.mem_of_getElem? (i := 1015) (by decide +kernel)⟩
theorem lw_p38 : lw_okq (⟨"PaperTrellisModel", "begin", "()V"⟩, 36) := ⟨⟨by decide +kernel, by decide +kernel⟩, List.mem_of_getElem? (i := 692) (by decide +kernel), List.mem_of_getElem? (i := 1027) (by decide +kernel), List.mem_of_getElem? (i := 1028) (by decide +kernel)⟩
theorem lw_p39 : lw_okq (⟨"PaperTrellisModel", "does", "(I)Z"⟩, 36) := ⟨⟨by decide +kernel, by decide +kernel⟩, List.mem_of_getElem? (i := 692) (by decide +kernel), List.mem_of_getElem? (i := 1031) (by decide +kernel), List.mem_of_getElem? (i := 1032) (by decide +kernel)⟩
theorem lw_p40 : lw_okq (⟨"PaperTrellisModel", "cellFrom", "(III)I"⟩, 36) := ⟨⟨by decide +kernel, by decide +kernel⟩, List.mem_of_getElem? (i := 692) (by decide +kernel), List.mem_of_getElem? (i := 1061) (by decide +kernel), List.mem_of_getElem? (i := 1062) (by decide +kernel)⟩
theorem lw_p41 : lw_okq (⟨"PaperTrellisModel", "layGains", "(III)V"⟩, 36) := ⟨⟨by decide +kernel, by decide +kernel⟩, List.mem_of_getElem? (i := 692) (by decide +kernel), List.mem_of_getElem? (i := 1069) (by decide +kernel), List.mem_of_getElem? (i := 1070) (by decide +kernel)⟩
def lw_privs_3 : List (MethodName × Nat) := [(⟨"PaperTrellisModel", "layFar", "(I)V"⟩, 36), (⟨"PaperTrellisModel", "spotNumber", "()I"⟩, 36), (⟨"PaperTrellisModel", "reachOf", "(II)I"⟩, 36), (⟨"PaperTrellisModel", "areAlike", "(II)Z"⟩, 36), (⟨"PaperTrellisModel", "fewest", "()I"⟩, 36), (⟨"PaperTrellisModel", "unlikeBy", "(I)I"⟩, 36), (⟨"PaperTrellisModel", "begin", "()V"⟩, 36), (⟨"PaperTrellisModel", "does", "(I)Z"⟩, 36), (⟨"PaperTrellisModel", "cellFrom", "(III)I"⟩, 36), (⟨"PaperTrellisModel", "layGains", "(III)V"⟩, 36)]
theorem lw_r3 : ∀ q ∈ lw_privs_3, lw_okq q := List.forall_mem_cons.mpr ⟨lw_p32, List.forall_mem_cons.mpr ⟨lw_p33, List.forall_mem_cons.mpr ⟨lw_p34, List.forall_mem_cons.mpr ⟨lw_p35, List.forall_mem_cons.mpr ⟨lw_p36, List.forall_mem_cons.mpr ⟨lw_p37, List.forall_mem_cons.mpr ⟨lw_p38, List.forall_mem_cons.mpr ⟨lw_p39, List.forall_mem_cons.mpr ⟨lw_p40, List.forall_mem_cons.mpr ⟨lw_p41, fun _ h => absurd h List.not_mem_nil⟩⟩⟩⟩⟩⟩⟩⟩⟩⟩
def lw_privs : List (MethodName × Nat) := lw_privs_1 ++ (lw_privs_2 ++ (lw_privs_3))
def lw_tbl : List Cond := k2_sels lw_privs ++ tables_1
theorem lw_privs_ok : ∀ q ∈ lw_privs, lw_okq q := by
  show ∀ q ∈ lw_privs_1 ++ (lw_privs_2 ++ (lw_privs_3)), lw_okq q
  exact List.forall_mem_append.mpr ⟨lw_r1, List.forall_mem_append.mpr ⟨lw_r2, lw_r3⟩⟩
-- ===== end of PART A; then your names; then what follows =====
end
section
def RX0 : String := "PaperTrellis$Acts"
def TX0 : u_T := fun k => match k with
  | 0 => ("PaperTrellis$Acts", "before", "[LPaperTrellis$Scene;", true)
  | 1 => ("PaperTrellis$Acts", "next", "I", false)
  | _ => ("PaperTrellis$Acts", "count", "I", false)
def tyX0 : Nat → FieldType := fun k => match k with
  | 0 => .array (.object "PaperTrellis$Scene")
  | 1 => .int
  | _ => .int
abbrev wsX00 : List Cond := u_ws RX0 TX0 3
theorem nmX0 : ∀ a, a < 3 → ∀ b, b < 3 → a ≠ b → (TX0 a).2.1 ≠ (TX0 b).2.1 := by decide +kernel
theorem tyX0_ok : ∀ k, k < 3 → parseFieldDescriptor (TX0 k).2.2.1 = some (tyX0 k) := by decide +kernel
abbrev cX0_init : ByteArray := prog_2_method_1_code
def yX0_init : MethodName := ⟨RX0, "<init>", "(LPaperTrellis$Pattern;)V"⟩
abbrev cX0_remember : ByteArray := prog_2_method_2_code
def yX0_remember : MethodName := ⟨RX0, "remember", "(LPaperTrellis$Scene;)V"⟩
abbrev cX0_takeBack : ByteArray := prog_2_method_3_code
def yX0_takeBack : MethodName := ⟨RX0, "takeBack", "(LPaperTrellis$Scene;)Z"⟩
abbrev cX0_forgetAll : ByteArray := prog_2_method_4_code
def yX0_forgetAll : MethodName := ⟨RX0, "forgetAll", "()V"⟩
def RX1 : String := "PaperTrellis$Cover"
def TX1 : u_T := fun k => match k with
  | _ => ("PaperTrellis$Cover", "best", "[I", true)
def tyX1 : Nat → FieldType := fun k => match k with
  | _ => .array .int
abbrev wsX10 : List Cond := u_ws RX1 TX1 1
theorem nmX1 : ∀ a, a < 1 → ∀ b, b < 1 → a ≠ b → (TX1 a).2.1 ≠ (TX1 b).2.1 := by decide +kernel
theorem tyX1_ok : ∀ k, k < 1 → parseFieldDescriptor (TX1 k).2.2.1 = some (tyX1 k) := by decide +kernel
abbrev cX1_init : ByteArray := prog_3_method_1_code
def yX1_init : MethodName := ⟨RX1, "<init>", "()V"⟩
abbrev cX1_cellsToCall : ByteArray := prog_3_method_2_code
def yX1_cellsToCall : MethodName := ⟨RX1, "cellsToCall", "(LPaperTrellis$Scene;)I"⟩
abbrev cX1_addCell : ByteArray := prog_3_method_3_code
def yX1_addCell : MethodName := ⟨RX1, "addCell", "(II)V"⟩
abbrev cX1_hearers : ByteArray := prog_3_method_4_code
def yX1_hearers : MethodName := ⟨RX1, "hearers", "(LPaperTrellis$Scene;I)I"⟩
def RX2 : String := "PaperTrellis$Goings"
def TX2 : u_T := fun k => match k with
  | 0 => ("PaperTrellis$Goings", "cells", "[I", true)
  | _ => ("PaperTrellis$Goings", "alone", "[I", true)
def tyX2 : Nat → FieldType := fun k => match k with
  | 0 => .array .int
  | _ => .array .int
abbrev wsX20 : List Cond := u_ws RX2 TX2 2
theorem nmX2 : ∀ a, a < 2 → ∀ b, b < 2 → a ≠ b → (TX2 a).2.1 ≠ (TX2 b).2.1 := by decide +kernel
theorem tyX2_ok : ∀ k, k < 2 → parseFieldDescriptor (TX2 k).2.2.1 = some (tyX2 k) := by decide +kernel
abbrev cX2_init : ByteArray := prog_4_method_1_code
def yX2_init : MethodName := ⟨RX2, "<init>", "()V"⟩
abbrev cX2_lookAt : ByteArray := prog_4_method_2_code
def yX2_lookAt : MethodName := ⟨RX2, "lookAt", "(LPaperTrellis$Scene;I)V"⟩
abbrev cX2_worth : ByteArray := prog_4_method_3_code
def yX2_worth : MethodName := ⟨RX2, "worth", "(ILPaperTrellis$Goings;I)I"⟩
def RX3 : String := "PaperTrellis$Pattern"
def TX3 : u_T := fun k => match k with
  | 0 => ("PaperTrellis$Pattern", "w", "I", false)
  | 1 => ("PaperTrellis$Pattern", "h", "I", false)
  | 2 => ("PaperTrellis$Pattern", "drop", "I", false)
  | 3 => ("PaperTrellis$Pattern", "cells", "I", false)
  | 4 => ("PaperTrellis$Pattern", "boys", "I", false)
  | 5 => ("PaperTrellis$Pattern", "kinds", "[I", true)
  | 6 => ("PaperTrellis$Pattern", "homes", "[I", true)
  | 7 => ("PaperTrellis$Pattern", "boyKinds", "[I", true)
  | 8 => ("PaperTrellis$Pattern", "besidePlain", "[I", true)
  | 9 => ("PaperTrellis$Pattern", "besideStraight", "[I", true)
  | _ => ("PaperTrellis$Pattern", "sheets", "[I", true)
def tyX3 : Nat → FieldType := fun k => match k with
  | 0 => .int
  | 1 => .int
  | 2 => .int
  | 3 => .int
  | 4 => .int
  | 5 => .array .int
  | 6 => .array .int
  | 7 => .array .int
  | 8 => .array .int
  | 9 => .array .int
  | _ => .array .int
abbrev wsX30 : List Cond := u_ws RX3 TX3 11
theorem nmX3 : ∀ a, a < 11 → ∀ b, b < 11 → a ≠ b → (TX3 a).2.1 ≠ (TX3 b).2.1 := by decide +kernel
theorem tyX3_ok : ∀ k, k < 11 → parseFieldDescriptor (TX3 k).2.2.1 = some (tyX3 k) := by decide +kernel
abbrev cX3_init : ByteArray := prog_5_method_1_code
def yX3_init : MethodName := ⟨RX3, "<init>", "()V"⟩
abbrev cX3_readFrom : ByteArray := prog_5_method_2_code
def yX3_readFrom : MethodName := ⟨RX3, "readFrom", "(LPaperTrellis$Text;)V"⟩
abbrev cX3_layOut : ByteArray := prog_5_method_3_code
def yX3_layOut : MethodName := ⟨RX3, "layOut", "()V"⟩
abbrev cX3_layRow : ByteArray := prog_5_method_4_code
def yX3_layRow : MethodName := ⟨RX3, "layRow", "(II)V"⟩
abbrev cX3_layColumn : ByteArray := prog_5_method_5_code
def yX3_layColumn : MethodName := ⟨RX3, "layColumn", "(II)V"⟩
abbrev cX3_lay : ByteArray := prog_5_method_6_code
def yX3_lay : MethodName := ⟨RX3, "lay", "(IIIII)V"⟩
abbrev cX3_rowOn : ByteArray := prog_5_method_7_code
def yX3_rowOn : MethodName := ⟨RX3, "rowOn", "(II)I"⟩
abbrev cX3_hasCell : ByteArray := prog_5_method_8_code
def yX3_hasCell : MethodName := ⟨RX3, "hasCell", "(I)Z"⟩
abbrev cX3_hasBoy : ByteArray := prog_5_method_9_code
def yX3_hasBoy : MethodName := ⟨RX3, "hasBoy", "(I)Z"⟩
abbrev cX3_goesStraight : ByteArray := prog_5_method_10_code
def yX3_goesStraight : MethodName := ⟨RX3, "goesStraight", "(I)Z"⟩
abbrev cX3_cellBeside : ByteArray := prog_5_method_11_code
def yX3_cellBeside : MethodName := ⟨RX3, "cellBeside", "(IIZ)I"⟩
abbrev cX3_placeBeside : ByteArray := prog_5_method_12_code
def yX3_placeBeside : MethodName := ⟨RX3, "placeBeside", "(IIZ)I"⟩
def RX4 : String := "PaperTrellis$Scene"
def TX4 : u_T := fun k => match k with
  | 0 => ("PaperTrellis$Scene", "pattern", "LPaperTrellis$Pattern;", true)
  | 1 => ("PaperTrellis$Scene", "places", "[I", true)
  | _ => ("PaperTrellis$Scene", "cutCells", "I", false)
def tyX4 : Nat → FieldType := fun k => match k with
  | 0 => .object "PaperTrellis$Pattern"
  | 1 => .array .int
  | _ => .int
abbrev wsX40 : List Cond := u_ws RX4 TX4 3
theorem nmX4 : ∀ a, a < 3 → ∀ b, b < 3 → a ≠ b → (TX4 a).2.1 ≠ (TX4 b).2.1 := by decide +kernel
theorem tyX4_ok : ∀ k, k < 3 → parseFieldDescriptor (TX4 k).2.2.1 = some (tyX4 k) := by decide +kernel
abbrev cX4_init : ByteArray := prog_6_method_1_code
def yX4_init : MethodName := ⟨RX4, "<init>", "(LPaperTrellis$Pattern;)V"⟩
abbrev cX4_begin : ByteArray := prog_6_method_2_code
def yX4_begin : MethodName := ⟨RX4, "begin", "()V"⟩
abbrev cX4_become : ByteArray := prog_6_method_3_code
def yX4_become : MethodName := ⟨RX4, "become", "(LPaperTrellis$Scene;)V"⟩
abbrev cX4_kindAt : ByteArray := prog_6_method_4_code
def yX4_kindAt : MethodName := ⟨RX4, "kindAt", "(I)I"⟩
abbrev cX4_cellsOfKind : ByteArray := prog_6_method_5_code
def yX4_cellsOfKind : MethodName := ⟨RX4, "cellsOfKind", "(I)I"⟩
abbrev cX4_cutAway : ByteArray := prog_6_method_6_code
def yX4_cutAway : MethodName := ⟨RX4, "cutAway", "(I)V"⟩
abbrev cX4_canBe : ByteArray := prog_6_method_7_code
def yX4_canBe : MethodName := ⟨RX4, "canBe", "(II)Z"⟩
abbrev cX4_placeOn : ByteArray := prog_6_method_8_code
def yX4_placeOn : MethodName := ⟨RX4, "placeOn", "(III)I"⟩
abbrev cX4_goes : ByteArray := prog_6_method_9_code
def yX4_goes : MethodName := ⟨RX4, "goes", "(II)Z"⟩
abbrev cX4_waysOpen : ByteArray := prog_6_method_10_code
def yX4_waysOpen : MethodName := ⟨RX4, "waysOpen", "(I)I"⟩
abbrev cX4_homePlace : ByteArray := prog_6_method_11_code
def yX4_homePlace : MethodName := ⟨RX4, "homePlace", "(I)I"⟩
abbrev cX4_isHome : ByteArray := prog_6_method_12_code
def yX4_isHome : MethodName := ⟨RX4, "isHome", "(I)Z"⟩
abbrev cX4_whoIsHome : ByteArray := prog_6_method_13_code
def yX4_whoIsHome : MethodName := ⟨RX4, "whoIsHome", "()I"⟩
abbrev cX4_countNotHome : ByteArray := prog_6_method_14_code
def yX4_countNotHome : MethodName := ⟨RX4, "countNotHome", "()I"⟩
abbrev cX4_doesHear : ByteArray := prog_6_method_15_code
def yX4_doesHear : MethodName := ⟨RX4, "doesHear", "(II)Z"⟩
abbrev cX4_bringHome : ByteArray := prog_6_method_16_code
def yX4_bringHome : MethodName := ⟨RX4, "bringHome", "(I)I"⟩
def RX5 : String := "PaperTrellis$Search"
def TX5 : u_T := fun k => match k with
  | 0 => ("PaperTrellis$Search", "rounds", "[I", true)
  | 1 => ("PaperTrellis$Search", "found", "[I", true)
  | 2 => ("PaperTrellis$Search", "count", "I", false)
  | _ => ("PaperTrellis$Search", "reaches", "[I", true)
def tyX5 : Nat → FieldType := fun k => match k with
  | 0 => .array .int
  | 1 => .array .int
  | 2 => .int
  | _ => .array .int
abbrev wsX50 : List Cond := u_ws RX5 TX5 4
theorem nmX5 : ∀ a, a < 4 → ∀ b, b < 4 → a ≠ b → (TX5 a).2.1 ≠ (TX5 b).2.1 := by decide +kernel
theorem tyX5_ok : ∀ k, k < 4 → parseFieldDescriptor (TX5 k).2.2.1 = some (tyX5 k) := by decide +kernel
abbrev cX5_init : ByteArray := prog_7_method_1_code
def yX5_init : MethodName := ⟨RX5, "<init>", "()V"⟩
abbrev cX5_spread : ByteArray := prog_7_method_2_code
def yX5_spread : MethodName := ⟨RX5, "spread", "(LPaperTrellis$Scene;II)V"⟩
abbrev cX5_clear : ByteArray := prog_7_method_3_code
def yX5_clear : MethodName := ⟨RX5, "clear", "()V"⟩
abbrev cX5_put : ByteArray := prog_7_method_4_code
def yX5_put : MethodName := ⟨RX5, "put", "(II)V"⟩
abbrev cX5_stepsHome : ByteArray := prog_7_method_5_code
def yX5_stepsHome : MethodName := ⟨RX5, "stepsHome", "(LPaperTrellis$Scene;I)I"⟩
abbrev cX5_cellsWithin : ByteArray := prog_7_method_6_code
def yX5_cellsWithin : MethodName := ⟨RX5, "cellsWithin", "(LPaperTrellis$Scene;II)I"⟩
abbrev cX5_sixtiethsShared : ByteArray := prog_7_method_7_code
def yX5_sixtiethsShared : MethodName := ⟨RX5, "sixtiethsShared", "(LPaperTrellis$Scene;I)I"⟩
def RX6 : String := "PaperTrellis$Sight"
def TX6 : u_T := fun k => match k with
  | 0 => ("PaperTrellis$Sight", "xs", "[I", true)
  | 1 => ("PaperTrellis$Sight", "ys", "[I", true)
  | 2 => ("PaperTrellis$Sight", "kinds", "[I", true)
  | _ => ("PaperTrellis$Sight", "count", "I", false)
def tyX6 : Nat → FieldType := fun k => match k with
  | 0 => .array .int
  | 1 => .array .int
  | 2 => .array .int
  | _ => .int
abbrev wsX60 : List Cond := u_ws RX6 TX6 4
theorem nmX6 : ∀ a, a < 4 → ∀ b, b < 4 → a ≠ b → (TX6 a).2.1 ≠ (TX6 b).2.1 := by decide +kernel
theorem tyX6_ok : ∀ k, k < 4 → parseFieldDescriptor (TX6 k).2.2.1 = some (tyX6 k) := by decide +kernel
abbrev cX6_init : ByteArray := prog_8_method_1_code
def yX6_init : MethodName := ⟨RX6, "<init>", "()V"⟩
abbrev cX6_add : ByteArray := prog_8_method_2_code
def yX6_add : MethodName := ⟨RX6, "add", "(III)Z"⟩
abbrev cX6_isSoFrom : ByteArray := prog_8_method_3_code
def yX6_isSoFrom : MethodName := ⟨RX6, "isSoFrom", "(LPaperTrellis$Scene;I)Z"⟩
abbrev cX6_cellOff : ByteArray := prog_8_method_4_code
def yX6_cellOff : MethodName := ⟨RX6, "cellOff", "(LPaperTrellis$Pattern;IIII)I"⟩
def RX7 : String := "PaperTrellis$Text"
def TX7 : u_T := fun k => match k with
  | 0 => ("PaperTrellis$Text", "bytes", "[I", true)
  | _ => ("PaperTrellis$Text", "length", "I", false)
def tyX7 : Nat → FieldType := fun k => match k with
  | 0 => .array .int
  | _ => .int
abbrev wsX70 : List Cond := u_ws RX7 TX7 2
theorem nmX7 : ∀ a, a < 2 → ∀ b, b < 2 → a ≠ b → (TX7 a).2.1 ≠ (TX7 b).2.1 := by decide +kernel
theorem tyX7_ok : ∀ k, k < 2 → parseFieldDescriptor (TX7 k).2.2.1 = some (tyX7 k) := by decide +kernel
abbrev cX7_init : ByteArray := prog_9_method_1_code
def yX7_init : MethodName := ⟨RX7, "<init>", "()V"⟩
abbrev cX7_add : ByteArray := prog_9_method_2_code
def yX7_add : MethodName := ⟨RX7, "add", "(I)Z"⟩
abbrev cX7_firstFault : ByteArray := prog_9_method_3_code
def yX7_firstFault : MethodName := ⟨RX7, "firstFault", "()I"⟩
abbrev cX7_fits : ByteArray := prog_9_method_4_code
def yX7_fits : MethodName := ⟨RX7, "fits", "(I)Z"⟩
abbrev cX7_fitsInBoy : ByteArray := prog_9_method_5_code
def yX7_fitsInBoy : MethodName := ⟨RX7, "fitsInBoy", "(II)Z"⟩
abbrev cX7_isFreeCell : ByteArray := prog_9_method_6_code
def yX7_isFreeCell : MethodName := ⟨RX7, "isFreeCell", "(I)Z"⟩
abbrev cX7_hasFreeCell : ByteArray := prog_9_method_7_code
def yX7_hasFreeCell : MethodName := ⟨RX7, "hasFreeCell", "()Z"⟩
abbrev cX7_isWhole : ByteArray := prog_9_method_8_code
def yX7_isWhole : MethodName := ⟨RX7, "isWhole", "()Z"⟩
abbrev cX7_figure : ByteArray := prog_9_method_9_code
def yX7_figure : MethodName := ⟨RX7, "figure", "(I)I"⟩
abbrev cX7_cells : ByteArray := prog_9_method_10_code
def yX7_cells : MethodName := ⟨RX7, "cells", "()I"⟩
abbrev cX7_boys : ByteArray := prog_9_method_11_code
def yX7_boys : MethodName := ⟨RX7, "boys", "()I"⟩
abbrev cX7_kindOfCell : ByteArray := prog_9_method_12_code
def yX7_kindOfCell : MethodName := ⟨RX7, "kindOfCell", "(I)I"⟩
abbrev cX7_homeOfBoy : ByteArray := prog_9_method_13_code
def yX7_homeOfBoy : MethodName := ⟨RX7, "homeOfBoy", "(I)I"⟩
abbrev cX7_kindOfBoy : ByteArray := prog_9_method_14_code
def yX7_kindOfBoy : MethodName := ⟨RX7, "kindOfBoy", "(I)I"⟩
abbrev cX7_kindOf : ByteArray := prog_9_method_15_code
def yX7_kindOf : MethodName := ⟨RX7, "kindOf", "(I)I"⟩
def RX8 : String := "PaperTrellis"
def TX8 : u_T := fun k => match k with
  | 0 => ("PaperTrellis", "text", "LPaperTrellis$Text;", true)
  | 1 => ("PaperTrellis", "pattern", "LPaperTrellis$Pattern;", true)
  | 2 => ("PaperTrellis", "now", "LPaperTrellis$Scene;", true)
  | 3 => ("PaperTrellis", "trial", "LPaperTrellis$Scene;", true)
  | 4 => ("PaperTrellis", "acts", "LPaperTrellis$Acts;", true)
  | 5 => ("PaperTrellis", "slots", "[LPaperTrellis$Scene;", true)
  | 6 => ("PaperTrellis", "kept", "[Z", true)
  | 7 => ("PaperTrellis", "search", "LPaperTrellis$Search;", true)
  | 8 => ("PaperTrellis", "cover", "LPaperTrellis$Cover;", true)
  | 9 => ("PaperTrellis", "sight", "LPaperTrellis$Sight;", true)
  | 10 => ("PaperTrellis", "goingsOfOne", "LPaperTrellis$Goings;", true)
  | 11 => ("PaperTrellis", "goingsOfOther", "LPaperTrellis$Goings;", true)
  | _ => ("PaperTrellis", "theSeed", "J", false)
def tyX8 : Nat → FieldType := fun k => match k with
  | 0 => .object "PaperTrellis$Text"
  | 1 => .object "PaperTrellis$Pattern"
  | 2 => .object "PaperTrellis$Scene"
  | 3 => .object "PaperTrellis$Scene"
  | 4 => .object "PaperTrellis$Acts"
  | 5 => .array (.object "PaperTrellis$Scene")
  | 6 => .array .boolean
  | 7 => .object "PaperTrellis$Search"
  | 8 => .object "PaperTrellis$Cover"
  | 9 => .object "PaperTrellis$Sight"
  | 10 => .object "PaperTrellis$Goings"
  | 11 => .object "PaperTrellis$Goings"
  | _ => .long
abbrev wsX80 : List Cond := u_ws RX8 TX8 13
theorem nmX8 : ∀ a, a < 13 → ∀ b, b < 13 → a ≠ b → (TX8 a).2.1 ≠ (TX8 b).2.1 := by decide +kernel
theorem tyX8_ok : ∀ k, k < 13 → parseFieldDescriptor (TX8 k).2.2.1 = some (tyX8 k) := by decide +kernel
abbrev cX8_init : ByteArray := prog_1_method_1_code
def yX8_init : MethodName := ⟨RX8, "<init>", "()V"⟩
abbrev cX8_write : ByteArray := prog_1_method_2_code
def yX8_write : MethodName := ⟨RX8, "write", "(I)I"⟩
abbrev cX8_wipe : ByteArray := prog_1_method_3_code
def yX8_wipe : MethodName := ⟨RX8, "wipe", "()I"⟩
abbrev cX8_fault : ByteArray := prog_1_method_4_code
def yX8_fault : MethodName := ⟨RX8, "fault", "()I"⟩
abbrev cX8_paper : ByteArray := prog_1_method_5_code
def yX8_paper : MethodName := ⟨RX8, "paper", "()I"⟩
abbrev cX8_about : ByteArray := prog_1_method_6_code
def yX8_about : MethodName := ⟨RX8, "about", "(I)I"⟩
abbrev cX8_cell : ByteArray := prog_1_method_7_code
def yX8_cell : MethodName := ⟨RX8, "cell", "(I)I"⟩
abbrev cX8_beside : ByteArray := prog_1_method_8_code
def yX8_beside : MethodName := ⟨RX8, "beside", "(IIZ)I"⟩
abbrev cX8_boy : ByteArray := prog_1_method_9_code
def yX8_boy : MethodName := ⟨RX8, "boy", "(II)I"⟩
abbrev cX8_step : ByteArray := prog_1_method_10_code
def yX8_step : MethodName := ⟨RX8, "step", "(II)I"⟩
abbrev cX8_call : ByteArray := prog_1_method_11_code
def yX8_call : MethodName := ⟨RX8, "call", "(I)I"⟩
abbrev cX8_cut : ByteArray := prog_1_method_12_code
def yX8_cut : MethodName := ⟨RX8, "cut", "(I)I"⟩
abbrev cX8_undo : ByteArray := prog_1_method_13_code
def yX8_undo : MethodName := ⟨RX8, "undo", "()I"⟩
abbrev cX8_far : ByteArray := prog_1_method_14_code
def yX8_far : MethodName := ⟨RX8, "far", "(I)I"⟩
abbrev cX8_reach : ByteArray := prog_1_method_15_code
def yX8_reach : MethodName := ⟨RX8, "reach", "(II)I"⟩
abbrev cX8_again : ByteArray := prog_1_method_16_code
def yX8_again : MethodName := ⟨RX8, "again", "(II)I"⟩
abbrev cX8_alike : ByteArray := prog_1_method_17_code
def yX8_alike : MethodName := ⟨RX8, "alike", "(I)I"⟩
abbrev cX8_calls : ByteArray := prog_1_method_18_code
def yX8_calls : MethodName := ⟨RX8, "calls", "(I)I"⟩
abbrev cX8_match : ByteArray := prog_1_method_19_code
def yX8_match : MethodName := ⟨RX8, "match", "(I)I"⟩
abbrev cX8_judge : ByteArray := prog_1_method_20_code
def yX8_judge : MethodName := ⟨RX8, "judge", "(IJ)I"⟩
abbrev cX8_share : ByteArray := prog_1_method_21_code
def yX8_share : MethodName := ⟨RX8, "share", "(IZ)I"⟩
abbrev cX8_see : ByteArray := prog_1_method_22_code
def yX8_see : MethodName := ⟨RX8, "see", "(III)I"⟩
abbrev cX8_unsee : ByteArray := prog_1_method_23_code
def yX8_unsee : MethodName := ⟨RX8, "unsee", "()I"⟩
abbrev cX8_stands : ByteArray := prog_1_method_24_code
def yX8_stands : MethodName := ⟨RX8, "stands", "()I"⟩
abbrev cX8_rests : ByteArray := prog_1_method_25_code
def yX8_rests : MethodName := ⟨RX8, "rests", "(III)I"⟩
abbrev cX8_strays : ByteArray := prog_1_method_26_code
def yX8_strays : MethodName := ⟨RX8, "strays", "(IIZ)I"⟩
abbrev cX8_seed : ByteArray := prog_1_method_27_code
def yX8_seed : MethodName := ⟨RX8, "seed", "(J)J"⟩
abbrev cX8_nights : ByteArray := prog_1_method_28_code
def yX8_nights : MethodName := ⟨RX8, "nights", "(I)I"⟩
abbrev cX8_keep : ByteArray := prog_1_method_29_code
def yX8_keep : MethodName := ⟨RX8, "keep", "(I)I"⟩
abbrev cX8_goOn : ByteArray := prog_1_method_30_code
def yX8_goOn : MethodName := ⟨RX8, "goOn", "(I)I"⟩
abbrev cX8_isWay : ByteArray := prog_1_method_31_code
def yX8_isWay : MethodName := ⟨RX8, "isWay", "(I)Z"⟩
abbrev cX8_inSight : ByteArray := prog_1_method_32_code
def yX8_inSight : MethodName := ⟨RX8, "inSight", "(I)Z"⟩
abbrev cX8_cellOf : ByteArray := prog_1_method_33_code
def yX8_cellOf : MethodName := ⟨RX8, "cellOf", "(I)I"⟩
abbrev cX8_widthOf : ByteArray := prog_1_method_34_code
def yX8_widthOf : MethodName := ⟨RX8, "widthOf", "(I)I"⟩
abbrev cX8_heightOf : ByteArray := prog_1_method_35_code
def yX8_heightOf : MethodName := ⟨RX8, "heightOf", "(I)I"⟩
abbrev cX8_told : ByteArray := prog_1_method_36_code
def yX8_told : MethodName := ⟨RX8, "told", "(IIZ)I"⟩
abbrev cX8_commonDivisor : ByteArray := prog_1_method_37_code
def yX8_commonDivisor : MethodName := ⟨RX8, "commonDivisor", "(II)I"⟩
abbrev cX8_stepsRound : ByteArray := prog_1_method_38_code
def yX8_stepsRound : MethodName := ⟨RX8, "stepsRound", "(II)I"⟩
abbrev cX8_looksLike : ByteArray := prog_1_method_39_code
def yX8_looksLike : MethodName := ⟨RX8, "looksLike", "(II)Z"⟩
abbrev cX8_unlikeRows : ByteArray := prog_1_method_40_code
def yX8_unlikeRows : MethodName := ⟨RX8, "unlikeRows", "(I)I"⟩
abbrev cX8_holds : ByteArray := prog_1_method_41_code
def yX8_holds : MethodName := ⟨RX8, "holds", "(III)Z"⟩
abbrev cX8_happens : ByteArray := prog_1_method_42_code
def yX8_happens : MethodName := ⟨RX8, "happens", "(I)V"⟩
abbrev cX8_isRest : ByteArray := prog_1_method_43_code
def yX8_isRest : MethodName := ⟨RX8, "isRest", "(II)Z"⟩
abbrev cX8_countOfRests : ByteArray := prog_1_method_44_code
def yX8_countOfRests : MethodName := ⟨RX8, "countOfRests", "()I"⟩
abbrev cX8_firstRest : ByteArray := prog_1_method_45_code
def yX8_firstRest : MethodName := ⟨RX8, "firstRest", "()I"⟩
abbrev cX8_walksHome : ByteArray := prog_1_method_46_code
def yX8_walksHome : MethodName := ⟨RX8, "walksHome", "(LPaperTrellis$Scene;III)I"⟩
def RX9 : String := "PaperTrellisModel"
def TX9 : u_T := fun k => match k with
  | 0 => ("PaperTrellisModel", "thrown", "I", false)
  | 1 => ("PaperTrellisModel", "text", "[I", true)
  | 2 => ("PaperTrellisModel", "textSize", "I", false)
  | 3 => ("PaperTrellisModel", "place", "I", false)
  | 4 => ("PaperTrellisModel", "wide", "I", false)
  | 5 => ("PaperTrellisModel", "high", "I", false)
  | 6 => ("PaperTrellisModel", "drop", "I", false)
  | 7 => ("PaperTrellisModel", "sort", "[I", true)
  | 8 => ("PaperTrellisModel", "boys", "I", false)
  | 9 => ("PaperTrellisModel", "home", "[I", true)
  | 10 => ("PaperTrellisModel", "kind", "[I", true)
  | 11 => ("PaperTrellisModel", "readWide", "I", false)
  | 12 => ("PaperTrellisModel", "readHigh", "I", false)
  | 13 => ("PaperTrellisModel", "readDrop", "I", false)
  | 14 => ("PaperTrellisModel", "readSort", "[I", true)
  | 15 => ("PaperTrellisModel", "readBoys", "I", false)
  | 16 => ("PaperTrellisModel", "readBoy", "[I", true)
  | 17 => ("PaperTrellisModel", "page", "[I", true)
  | 18 => ("PaperTrellisModel", "trial", "[I", true)
  | 19 => ("PaperTrellisModel", "book", "[I", true)
  | 20 => ("PaperTrellisModel", "acts", "I", false)
  | 21 => ("PaperTrellisModel", "kept", "[I", true)
  | 22 => ("PaperTrellisModel", "isKept", "[Z", true)
  | 23 => ("PaperTrellisModel", "seen", "I", false)
  | 24 => ("PaperTrellisModel", "seenRight", "[I", true)
  | 25 => ("PaperTrellisModel", "seenDown", "[I", true)
  | 26 => ("PaperTrellisModel", "seenKind", "[I", true)
  | 27 => ("PaperTrellisModel", "seed", "J", false)
  | 28 => ("PaperTrellisModel", "spot", "[I", true)
  | 29 => ("PaperTrellisModel", "far", "[I", true)
  | 30 => ("PaperTrellisModel", "queue", "[I", true)
  | 31 => ("PaperTrellisModel", "unlike", "I", false)
  | 32 => ("PaperTrellisModel", "restMany", "I", false)
  | 33 => ("PaperTrellisModel", "restFirst", "I", false)
  | 34 => ("PaperTrellisModel", "gains", "[I", true)
  | _ => ("PaperTrellisModel", "value", "[I", true)
def tyX9 : Nat → FieldType := fun k => match k with
  | 0 => .int
  | 1 => .array .int
  | 2 => .int
  | 3 => .int
  | 4 => .int
  | 5 => .int
  | 6 => .int
  | 7 => .array .int
  | 8 => .int
  | 9 => .array .int
  | 10 => .array .int
  | 11 => .int
  | 12 => .int
  | 13 => .int
  | 14 => .array .int
  | 15 => .int
  | 16 => .array .int
  | 17 => .array .int
  | 18 => .array .int
  | 19 => .array .int
  | 20 => .int
  | 21 => .array .int
  | 22 => .array .boolean
  | 23 => .int
  | 24 => .array .int
  | 25 => .array .int
  | 26 => .array .int
  | 27 => .long
  | 28 => .array .int
  | 29 => .array .int
  | 30 => .array .int
  | 31 => .int
  | 32 => .int
  | 33 => .int
  | 34 => .array .int
  | _ => .array .int
abbrev wsX90 : List Cond := u_ws RX9 TX9 36
theorem nmX9 : ∀ a, a < 36 → ∀ b, b < 36 → a ≠ b → (TX9 a).2.1 ≠ (TX9 b).2.1 := by decide +kernel
theorem tyX9_ok : ∀ k, k < 36 → parseFieldDescriptor (TX9 k).2.2.1 = some (tyX9 k) := by decide +kernel
abbrev cX9_init : ByteArray := prog_11_method_1_code
def yX9_init : MethodName := ⟨RX9, "<init>", "()V"⟩
abbrev cX9_in : ByteArray := prog_11_method_3_code
def yX9_in : MethodName := ⟨RX9, "in", "(JJJ)Z"⟩
abbrev cX9_has : ByteArray := prog_11_method_4_code
def yX9_has : MethodName := ⟨RX9, "has", "(II)Z"⟩
abbrev cX9_many : ByteArray := prog_11_method_5_code
def yX9_many : MethodName := ⟨RX9, "many", "(I)I"⟩
abbrev cX9_power : ByteArray := prog_11_method_6_code
def yX9_power : MethodName := ⟨RX9, "power", "(II)I"⟩
abbrev cX9_noBoy : ByteArray := prog_11_method_7_code
def yX9_noBoy : MethodName := ⟨RX9, "noBoy", "(I)Z"⟩
abbrev cX9_noCell : ByteArray := prog_11_method_8_code
def yX9_noCell : MethodName := ⟨RX9, "noCell", "(I)Z"⟩
abbrev cX9_noWay : ByteArray := prog_11_method_9_code
def yX9_noWay : MethodName := ⟨RX9, "noWay", "(I)Z"⟩
abbrev cX9_write : ByteArray := prog_11_method_10_code
def yX9_write : MethodName := ⟨RX9, "write", "(I)I"⟩
abbrev cX9_wipe : ByteArray := prog_11_method_11_code
def yX9_wipe : MethodName := ⟨RX9, "wipe", "()I"⟩
abbrev cX9_from : ByteArray := prog_11_method_12_code
def yX9_from : MethodName := ⟨RX9, "from", "(III)I"⟩
abbrev cX9_readKind : ByteArray := prog_11_method_13_code
def yX9_readKind : MethodName := ⟨RX9, "readKind", "()I"⟩
abbrev cX9_hasRoom : ByteArray := prog_11_method_14_code
def yX9_hasRoom : MethodName := ⟨RX9, "hasRoom", "()Z"⟩
abbrev cX9_readOneBoy : ByteArray := prog_11_method_15_code
def yX9_readOneBoy : MethodName := ⟨RX9, "readOneBoy", "()Z"⟩
abbrev cX9_readPattern : ByteArray := prog_11_method_16_code
def yX9_readPattern : MethodName := ⟨RX9, "readPattern", "()Z"⟩
abbrev cX9_readPaper : ByteArray := prog_11_method_17_code
def yX9_readPaper : MethodName := ⟨RX9, "readPaper", "()I"⟩
abbrev cX9_fault : ByteArray := prog_11_method_18_code
def yX9_fault : MethodName := ⟨RX9, "fault", "()I"⟩
abbrev cX9_paper : ByteArray := prog_11_method_19_code
def yX9_paper : MethodName := ⟨RX9, "paper", "()I"⟩
abbrev cX9_kindOf : ByteArray := prog_11_method_20_code
def yX9_kindOf : MethodName := ⟨RX9, "kindOf", "([II)I"⟩
abbrev cX9_goWay : ByteArray := prog_11_method_21_code
def yX9_goWay : MethodName := ⟨RX9, "goWay", "(IZ)V"⟩
abbrev cX9_isThere : ByteArray := prog_11_method_22_code
def yX9_isThere : MethodName := ⟨RX9, "isThere", "()Z"⟩
abbrev cX9_cellBeside : ByteArray := prog_11_method_23_code
def yX9_cellBeside : MethodName := ⟨RX9, "cellBeside", "(IIZ)I"⟩
abbrev cX9_canBe : ByteArray := prog_11_method_24_code
def yX9_canBe : MethodName := ⟨RX9, "canBe", "([III)Z"⟩
abbrev cX9_stand : ByteArray := prog_11_method_25_code
def yX9_stand : MethodName := ⟨RX9, "stand", "([II)V"⟩
abbrev cX9_canGo : ByteArray := prog_11_method_26_code
def yX9_canGo : MethodName := ⟨RX9, "canGo", "([III)Z"⟩
abbrev cX9_goStep : ByteArray := prog_11_method_27_code
def yX9_goStep : MethodName := ⟨RX9, "goStep", "([III)Z"⟩
abbrev cX9_isHome : ByteArray := prog_11_method_28_code
def yX9_isHome : MethodName := ⟨RX9, "isHome", "([II)Z"⟩
abbrev cX9_homes : ByteArray := prog_11_method_29_code
def yX9_homes : MethodName := ⟨RX9, "homes", "([I)I"⟩
abbrev cX9_away : ByteArray := prog_11_method_30_code
def yX9_away : MethodName := ⟨RX9, "away", "([I)I"⟩
abbrev cX9_cellsOf : ByteArray := prog_11_method_31_code
def yX9_cellsOf : MethodName := ⟨RX9, "cellsOf", "(I)I"⟩
abbrev cX9_about : ByteArray := prog_11_method_32_code
def yX9_about : MethodName := ⟨RX9, "about", "(I)I"⟩
abbrev cX9_cell : ByteArray := prog_11_method_33_code
def yX9_cell : MethodName := ⟨RX9, "cell", "(I)I"⟩
abbrev cX9_beside : ByteArray := prog_11_method_34_code
def yX9_beside : MethodName := ⟨RX9, "beside", "(IIZ)I"⟩
abbrev cX9_waysOf : ByteArray := prog_11_method_35_code
def yX9_waysOf : MethodName := ⟨RX9, "waysOf", "(I)I"⟩
abbrev cX9_boy : ByteArray := prog_11_method_36_code
def yX9_boy : MethodName := ⟨RX9, "boy", "(II)I"⟩
abbrev cX9_note : ByteArray := prog_11_method_37_code
def yX9_note : MethodName := ⟨RX9, "note", "()V"⟩
abbrev cX9_step : ByteArray := prog_11_method_38_code
def yX9_step : MethodName := ⟨RX9, "step", "(II)I"⟩
abbrev cX9_hears : ByteArray := prog_11_method_39_code
def yX9_hears : MethodName := ⟨RX9, "hears", "([III)Z"⟩
abbrev cX9_goCall : ByteArray := prog_11_method_40_code
def yX9_goCall : MethodName := ⟨RX9, "goCall", "([II)V"⟩
abbrev cX9_call : ByteArray := prog_11_method_41_code
def yX9_call : MethodName := ⟨RX9, "call", "(I)I"⟩
abbrev cX9_cut : ByteArray := prog_11_method_42_code
def yX9_cut : MethodName := ⟨RX9, "cut", "(I)I"⟩
abbrev cX9_undo : ByteArray := prog_11_method_43_code
def yX9_undo : MethodName := ⟨RX9, "undo", "()I"⟩
abbrev cX9_begin : ByteArray := prog_11_method_44_code
def yX9_begin : MethodName := ⟨RX9, "begin", "()V"⟩
abbrev cX9_spotNumber : ByteArray := prog_11_method_45_code
def yX9_spotNumber : MethodName := ⟨RX9, "spotNumber", "()I"⟩
abbrev cX9_layFar : ByteArray := prog_11_method_46_code
def yX9_layFar : MethodName := ⟨RX9, "layFar", "(I)V"⟩
abbrev cX9_far : ByteArray := prog_11_method_47_code
def yX9_far : MethodName := ⟨RX9, "far", "(I)I"⟩
abbrev cX9_reachOf : ByteArray := prog_11_method_48_code
def yX9_reachOf : MethodName := ⟨RX9, "reachOf", "(II)I"⟩
abbrev cX9_reach : ByteArray := prog_11_method_49_code
def yX9_reach : MethodName := ⟨RX9, "reach", "(II)I"⟩
abbrev cX9_again : ByteArray := prog_11_method_50_code
def yX9_again : MethodName := ⟨RX9, "again", "(II)I"⟩
abbrev cX9_areAlike : ByteArray := prog_11_method_51_code
def yX9_areAlike : MethodName := ⟨RX9, "areAlike", "(II)Z"⟩
abbrev cX9_alike : ByteArray := prog_11_method_52_code
def yX9_alike : MethodName := ⟨RX9, "alike", "(I)I"⟩
abbrev cX9_nextOf : ByteArray := prog_11_method_53_code
def yX9_nextOf : MethodName := ⟨RX9, "nextOf", "(I)I"⟩
abbrev cX9_fewest : ByteArray := prog_11_method_54_code
def yX9_fewest : MethodName := ⟨RX9, "fewest", "()I"⟩
abbrev cX9_calls : ByteArray := prog_11_method_55_code
def yX9_calls : MethodName := ⟨RX9, "calls", "(I)I"⟩
abbrev cX9_unlikeBy : ByteArray := prog_11_method_56_code
def yX9_unlikeBy : MethodName := ⟨RX9, "unlikeBy", "(I)I"⟩
abbrev cX9_match : ByteArray := prog_11_method_57_code
def yX9_match : MethodName := ⟨RX9, "match", "(I)I"⟩
abbrev cX9_longPower : ByteArray := prog_11_method_58_code
def yX9_longPower : MethodName := ⟨RX9, "longPower", "(JI)J"⟩
abbrev cX9_does : ByteArray := prog_11_method_59_code
def yX9_does : MethodName := ⟨RX9, "does", "(I)Z"⟩
abbrev cX9_judge : ByteArray := prog_11_method_60_code
def yX9_judge : MethodName := ⟨RX9, "judge", "(IJ)I"⟩
abbrev cX9_ways : ByteArray := prog_11_method_61_code
def yX9_ways : MethodName := ⟨RX9, "ways", "(I)I"⟩
abbrev cX9_divisor : ByteArray := prog_11_method_62_code
def yX9_divisor : MethodName := ⟨RX9, "divisor", "(II)I"⟩
abbrev cX9_fraction : ByteArray := prog_11_method_63_code
def yX9_fraction : MethodName := ⟨RX9, "fraction", "(IIZ)I"⟩
abbrev cX9_share : ByteArray := prog_11_method_64_code
def yX9_share : MethodName := ⟨RX9, "share", "(IZ)I"⟩
abbrev cX9_see : ByteArray := prog_11_method_65_code
def yX9_see : MethodName := ⟨RX9, "see", "(III)I"⟩
abbrev cX9_unsee : ByteArray := prog_11_method_66_code
def yX9_unsee : MethodName := ⟨RX9, "unsee", "()I"⟩
abbrev cX9_cellFrom : ByteArray := prog_11_method_67_code
def yX9_cellFrom : MethodName := ⟨RX9, "cellFrom", "(III)I"⟩
abbrev cX9_stands : ByteArray := prog_11_method_68_code
def yX9_stands : MethodName := ⟨RX9, "stands", "()I"⟩
abbrev cX9_layGains : ByteArray := prog_11_method_69_code
def yX9_layGains : MethodName := ⟨RX9, "layGains", "(III)V"⟩
abbrev cX9_rests : ByteArray := prog_11_method_70_code
def yX9_rests : MethodName := ⟨RX9, "rests", "(III)I"⟩
abbrev cX9_strays : ByteArray := prog_11_method_71_code
def yX9_strays : MethodName := ⟨RX9, "strays", "(IIZ)I"⟩
abbrev cX9_seed : ByteArray := prog_11_method_72_code
def yX9_seed : MethodName := ⟨RX9, "seed", "(J)J"⟩
abbrev cX9_nights : ByteArray := prog_11_method_73_code
def yX9_nights : MethodName := ⟨RX9, "nights", "(I)I"⟩
abbrev cX9_keep : ByteArray := prog_11_method_74_code
def yX9_keep : MethodName := ⟨RX9, "keep", "(I)I"⟩
abbrev cX9_goOn : ByteArray := prog_11_method_75_code
def yX9_goOn : MethodName := ⟨RX9, "goOn", "(I)I"⟩
def RJ6 : String := "java/lang/Integer"
abbrev cJ6_bitCount_0f7a4 : ByteArray := prog_12_method_49_code
def yJ6_bitCount_0f7a4 : MethodName := ⟨RJ6, "bitCount", "(I)I"⟩
def RJ9 : String := "java/lang/Math"
abbrev cJ9_abs_0f7a4 : ByteArray := prog_13_method_59_code
def yJ9_abs_0f7a4 : MethodName := ⟨RJ9, "abs", "(I)I"⟩
abbrev cJ9_min_7cf53 : ByteArray := prog_13_method_69_code
def yJ9_min_7cf53 : MethodName := ⟨RJ9, "min", "(II)I"⟩
def RJ10 : String := "java/lang/System"
def RL : String := "PaperTrellisLaw"
abbrev cL_law : ByteArray := code
def yL_law : MethodName := ⟨RL, "law", "([I)Z"⟩
abbrev vwCl : List vw_C := [(RX0, TX0, 3), (RX1, TX1, 1), (RX2, TX2, 2), (RX3, TX3, 11), (RX4, TX4, 3), (RX5, TX5, 4), (RX6, TX6, 4), (RX7, TX7, 2), (RX8, TX8, 13), (RX9, TX9, 36)]
end
section
/-! the machine under one picture: the heap from b0 on is cells 0 .. n-1, in the order in which they were made -/
abbrev zM : Type := MethodName × ByteArray × Nat × Option FieldType
abbrev zE : Type := (Nat × vp_A) ⊕ (Nat × List Value)
abbrev zH : Type := Nat → zE
abbrev zX : Type := Nat × (Nat → Int32)
def zU : List Cond := lw_tbl.filter goodWord
theorem zin {w : Cond} (i : Nat) (h : lw_tbl[i]? = some w) (g : goodWord w = true) : w ∈ zU := List.mem_filter.mpr ⟨List.mem_of_getElem? h, g⟩
theorem zU_good {w : Cond} (h : w ∈ zU) : goodWord w = true := (List.mem_filter.mp h).2
theorem zU_goodIn (c : Cond) : ∀ {w : Cond}, w ∈ zU → w ∈ c :: zU ∧ ((w.onTables && w.keeps) = true ∨ ∃ ty, w = .arrayClass ty) := fun h => ⟨List.mem_cons_of_mem _ h, good_of_word (zU_good h)⟩
abbrev zu : Value := .retAddr 0
def ztr (b0 : Nat) (cs : Nat → Nat) : Value → Value
  | .ref a => .ref (if a < 1000000 then b0 + a else cs (a - 1000000))
  | v => v
theorem ztr_ref {b0 : Nat} {cs : Nat → Nat} {a : Nat} (h : a < 1000000) : ztr b0 cs (.ref a) = .ref (b0 + a) := by simp [ztr, h]
theorem ztr_cat {b0 : Nat} {cs : Nat → Nat} (v : Value) : (ztr b0 cs v).category = v.category := by cases v <;> rfl
def ztE (cy : Nat → ClassId) (b0 : Nat) (cs : Nat → Nat) : zE → va_E
  | .inl (t, n, .inl f) => .inl (cy t, n, .inl f)
  | .inl (t, n, .inr (.inr (.inr (.inr f)))) => .inl (cy t, n, .inr (.inr (.inr (.inr (fun k => (f k).map (fun a => b0 + a))))))
  | .inl (t, x) => .inl (cy t, x)
  | .inr (ci, fs) => .inr (ci, fs.map (ztr b0 cs))
def zWl (cy : Nat → ClassId) (b0 : Nat) (cs : Nat → Nat) (n : Nat) (h : zH) : va_W := (List.range n).map fun i => (b0 + i, ztE cy b0 cs (h i))
theorem zWl_at {cy : Nat → ClassId} {b0 : Nat} {cs : Nat → Nat} {n : Nat} {h : zH} {i : Nat} (hi : i < n) : (zWl cy b0 cs n h)[i]? = some (b0 + i, ztE cy b0 cs (h i)) := by
  simp [zWl, hi]
theorem zWl_of {cy : Nat → ClassId} {b0 : Nat} {cs : Nat → Nat} {n : Nat} {h : zH} {k : Nat} {q : Nat × va_E} (hq : (zWl cy b0 cs n h)[k]? = some q) : k < n ∧ q = (b0 + k, ztE cy b0 cs (h k)) := by
  by_cases hk : k < n
  · rw [zWl_at hk] at hq
    exact ⟨hk, (Option.some.inj hq).symm⟩
  · simp [zWl, hk] at hq
theorem zWl_len {cy : Nat → ClassId} {b0 : Nat} {cs : Nat → Nat} {n : Nat} {h : zH} : (zWl cy b0 cs n h).length = n := by simp [zWl]
theorem zWl_D {cy : Nat → ClassId} {b0 : Nat} {cs : Nat → Nat} {n : Nat} {h : zH} : va_D (fun q => b0 ≤ q) (zWl cy b0 cs n h) := by
  refine ⟨fun i j x y hi hj hxy => ?_, fun k x hk => ?_⟩
  · obtain ⟨-, rfl⟩ := zWl_of hi
    obtain ⟨-, rfl⟩ := zWl_of hj
    have : b0 + i = b0 + j := hxy
    omega
  · obtain ⟨-, rfl⟩ := zWl_of hk
    exact Nat.le_add_right _ _
theorem zWl_set {cy : Nat → ClassId} {b0 : Nat} {cs : Nat → Nat} {n : Nat} {h : zH} {i : Nat} (e : zE) : (zWl cy b0 cs n h).set i (b0 + i, ztE cy b0 cs e) = zWl cy b0 cs n (va_up h i e) := by
  apply List.ext_getElem?
  intro k
  by_cases hk : k < n
  · rw [zWl_at hk]
    by_cases hi : k = i
    · subst hi
      rw [List.getElem?_set_self (by rw [zWl_len]; exact hk)]
      simp [va_up]
    · rw [List.getElem?_set_ne (Ne.symm hi), zWl_at hk]
      simp [va_up, hi]
  · rw [List.getElem?_eq_none (by rw [List.length_set, zWl_len]; omega), List.getElem?_eq_none (by rw [zWl_len]; omega)]
theorem zWl_push {cy : Nat → ClassId} {b0 : Nat} {cs : Nat → Nat} {n : Nat} {h : zH} (e : zE) : zWl cy b0 cs n h ++ [(b0 + n, ztE cy b0 cs e)] = zWl cy b0 cs (n + 1) (va_up h n e) := by
  apply List.ext_getElem?
  intro k
  by_cases hk : k < n
  · rw [List.getElem?_append_left (by rw [zWl_len]; exact hk), zWl_at hk, zWl_at (by omega)]
    have : k ≠ n := by omega
    simp [va_up, this]
  · by_cases hk2 : k = n
    · subst hk2
      rw [List.getElem?_append_right (by rw [zWl_len]; exact Nat.le_refl _), zWl_len, Nat.sub_self, zWl_at (by omega)]
      simp [va_up]
    · rw [List.getElem?_eq_none (by rw [List.length_append, zWl_len]; simp; omega), List.getElem?_eq_none (by rw [zWl_len]; omega)]
def ztys (cy : Nat → ClassId) : List (ClassId × FieldType) := [(cy 0, .int), (cy 1, .boolean), (cy 2, .object "PaperTrellis$Scene")]
def zThou (k : Nat) : Value := .long (Int64.ofNat (1000 ^ k))
def zPow (k : Nat) : Value := .int (Int32.ofNat (4 ^ k))
def zN : List (String × Nat × MethodName × String) := [("PaperTrellis", 11, ⟨"PaperTrellis$Text", "<init>", "()V"⟩, "PaperTrellis"), ("PaperTrellis", 52, ⟨"PaperTrellis$Search", "<init>", "()V"⟩, "PaperTrellis"), ("PaperTrellis", 59, ⟨"PaperTrellis$Cover", "<init>", "()V"⟩, "PaperTrellis"), ("PaperTrellis", 66, ⟨"PaperTrellis$Sight", "<init>", "()V"⟩, "PaperTrellis"), ("PaperTrellis", 73, ⟨"PaperTrellis$Goings", "<init>", "()V"⟩, "PaperTrellis"), ("PaperTrellis$Pattern", 87, ⟨"PaperTrellis", "cellOf", "(I)I"⟩, "PaperTrellis"), ("PaperTrellis$Pattern", 90, ⟨"PaperTrellis", "widthOf", "(I)I"⟩, "PaperTrellis"), ("PaperTrellis$Pattern", 93, ⟨"PaperTrellis", "heightOf", "(I)I"⟩, "PaperTrellis"), ("PaperTrellis$Scene", 58, ⟨"PaperTrellis", "cellOf", "(I)I"⟩, "PaperTrellis"), ("PaperTrellis$Search", 49, ⟨"PaperTrellis", "cellOf", "(I)I"⟩, "PaperTrellis"), ("PaperTrellis$Goings", 27, ⟨"PaperTrellis", "cellOf", "(I)I"⟩, "PaperTrellis")]
/-- what holds at every frame's start: the tables, the constants below b0 -/
def zG (X : zX) (D : va_G) (cy : Nat → ClassId) (b0 : Nat) (cs : Nat → Nat) (U : State) : Prop :=
  va_K D vwCl (ztys cy) U ∧ (∀ q ∈ zN, va_Nw (.methodLinkNest q.1 q.2.1 q.2.2.1 q.2.2.2) U) ∧ va_AO "PaperTrellis$Scene" U ∧ va_X (cs 0) X.1 X.2 U U.heap ∧ cs 0 < b0 ∧ b0 ≤ U.heap.size ∧
  va_Z "PaperTrellis" "THOUSANDS" "[J" (.ref (cs 1)) (fun q => b0 ≤ q) U U.heap ∧ va_T .long (cs 1) 5 zThou (fun q => b0 ≤ q) U U.heap ∧ va_Z "PaperTrellis" "POWERS_OF_FOUR" "[I" (.ref (cs 2)) (fun q => b0 ≤ q) U U.heap ∧ va_T .int (cs 2) 6 zPow (fun q => b0 ≤ q) U U.heap
def zF (X : zX) (M : zM) (D : va_G) (cy : Nat → ClassId) (b0 : Nat) (cs : Nat → Nat) (p : Program) (R : Room) (s : State) (m : MethodId) (args : Array Value) (meth : Method) (c : Code) (d : Nat) : Prop :=
  p.tables.exec = Jvm.exec ∧ c.code = M.2.1 ∧ c.maxLocals = M.2.2.1 ∧ meth.sig.returnType = M.2.2.2 ∧ s.vm.findClass M.1.cls = some m.cls ∧ (∀ w ∈ zU, w.before args s = true) ∧ meth.locks = false ∧ (M.1.name = "<init>" → meth.name = "<init>") ∧ zG X D cy b0 cs s ∧ d ≤ R.frames ∧ 64 * d ≤ R.locals
def zS (D : va_G) (cy : Nat → ClassId) (b0 : Nat) (cs : Nat → Nat) (s : State) (n : Nat) (h : zH) (H : Heap) (locs : List Loc) (cells : Nat) : Prop :=
  H.size = b0 + n ∧ va_P D vwCl (zWl cy b0 cs n h) H ∧ H.size = s.heap.size + cells ∧ va_S (fun q => b0 ≤ q) s.heap H locs
def zL (b0 : Nat) (cs : Nat → Nat) (ls : Array Slot) (nL : Nat) (L : List Value) : Prop := L.length = nL ∧ ls.size = nL ∧ lv_wf ls ∧ ∀ (i : Nat) (v : Value), L[i]? = some v → v ≠ zu → ls[i]? = some (.val (ztr b0 cs v))
def zend (M : zM) (pc : Nat) (r : Option Value) : Prop :=
  (r = none ∧ M.2.2.2 = none ∧ decode M.2.1 pc = .ok (.return_, 1)) ∨ (∃ v ty, r = some (.int v) ∧ M.2.2.2 = some ty ∧ narrow ty (.int v) = .int v ∧ decode M.2.1 pc = .ok (.ireturn, 1)) ∨ (∃ v, r = some (.long v) ∧ M.2.2.2 = some .long ∧ decode M.2.1 pc = .ok (.lreturn, 1))
abbrev zQ : Type := Option Value → Nat → zH → Prop
/-- THE JUDGEMENT: method M at pc, with locals L, operands S, heap (n, h), room for d frames, k cells, q slots more, comes to its end with Q -/
def zJ (X : zX) (M : zM) (d k q pc : Nat) (L S : List Value) (n : Nat) (h : zH) (Q : zQ) : Prop :=
  ∀ (D : va_G) (cy : Nat → ClassId) (b0 : Nat) (cs : Nat → Nat) (l : Launch) (p : Program) (e : Env) (R : Room) (s : State) (m : MethodId) (args : Array Value) (below : List Frame) (meth : Method) (c : Code) (Qw : State → Prop) (H : Heap) (locs : List Loc) (cells slots : Nat) (ls : Array Slot) (mc ms : Nat),
    zF X M D cy b0 cs p R s m args meth c d → zS D cy b0 cs s n h H locs cells → zL b0 cs ls M.2.2.1 L → cells + k = mc → slots + q ≤ ms → mc ≤ R.cells → ms ≤ R.slots →
    (∀ (r : Option Value) (n' : Nat) (h' : zH) (H' : Heap) (locs' : List Loc) (slots' pc' : Nat) (ls' : Array Slot), Q r n' h' → zS D cy b0 cs s n' h' H' locs' mc → slots' ≤ ms → zend M pc' r → W p l e R s m args below meth c H' locs' mc slots' Qw (F0 m pc' ls' r.toList)) →
    W p l e R s m args below meth c H locs cells slots Qw (F0 m pc ls (S.map (ztr b0 cs)))
end
section
theorem z_iadd {X : zX} {M : zM} {d k q pc : Nat} {L S : List Value} {n : Nat} {h : zH} {Q : zQ} {x y : Int32} (hd : decode M.2.1 pc = .ok (.iadd, 1))  (kk : zJ X M d k q (pc + 1) L (.int (x + y) :: S) n h Q) : zJ X M d k q pc L (.int y :: .int x :: S) n h Q := by
  intro D cy b0 cs l p e R s m args below meth c Qw H locs cells slots ls mc ms hF hS hL h1 h2 h3 h4 hf
  exact lv_iadd hF.1 hF.2.1 hd  (kk D cy b0 cs l p e R s m args below meth c Qw H locs cells slots ls mc ms hF hS hL h1 h2 h3 h4 hf)
theorem z_isub {X : zX} {M : zM} {d k q pc : Nat} {L S : List Value} {n : Nat} {h : zH} {Q : zQ} {x y : Int32} (hd : decode M.2.1 pc = .ok (.isub, 1))  (kk : zJ X M d k q (pc + 1) L (.int (x - y) :: S) n h Q) : zJ X M d k q pc L (.int y :: .int x :: S) n h Q := by
  intro D cy b0 cs l p e R s m args below meth c Qw H locs cells slots ls mc ms hF hS hL h1 h2 h3 h4 hf
  exact lv_isub hF.1 hF.2.1 hd  (kk D cy b0 cs l p e R s m args below meth c Qw H locs cells slots ls mc ms hF hS hL h1 h2 h3 h4 hf)
theorem z_imul {X : zX} {M : zM} {d k q pc : Nat} {L S : List Value} {n : Nat} {h : zH} {Q : zQ} {x y : Int32} (hd : decode M.2.1 pc = .ok (.imul, 1))  (kk : zJ X M d k q (pc + 1) L (.int (x * y) :: S) n h Q) : zJ X M d k q pc L (.int y :: .int x :: S) n h Q := by
  intro D cy b0 cs l p e R s m args below meth c Qw H locs cells slots ls mc ms hF hS hL h1 h2 h3 h4 hf
  exact lv_imul hF.1 hF.2.1 hd  (kk D cy b0 cs l p e R s m args below meth c Qw H locs cells slots ls mc ms hF hS hL h1 h2 h3 h4 hf)
theorem z_iand {X : zX} {M : zM} {d k q pc : Nat} {L S : List Value} {n : Nat} {h : zH} {Q : zQ} {x y : Int32} (hd : decode M.2.1 pc = .ok (.iand, 1))  (kk : zJ X M d k q (pc + 1) L (.int (x &&& y) :: S) n h Q) : zJ X M d k q pc L (.int y :: .int x :: S) n h Q := by
  intro D cy b0 cs l p e R s m args below meth c Qw H locs cells slots ls mc ms hF hS hL h1 h2 h3 h4 hf
  exact lv_iand hF.1 hF.2.1 hd  (kk D cy b0 cs l p e R s m args below meth c Qw H locs cells slots ls mc ms hF hS hL h1 h2 h3 h4 hf)
theorem z_ior {X : zX} {M : zM} {d k q pc : Nat} {L S : List Value} {n : Nat} {h : zH} {Q : zQ} {x y : Int32} (hd : decode M.2.1 pc = .ok (.ior, 1))  (kk : zJ X M d k q (pc + 1) L (.int (x ||| y) :: S) n h Q) : zJ X M d k q pc L (.int y :: .int x :: S) n h Q := by
  intro D cy b0 cs l p e R s m args below meth c Qw H locs cells slots ls mc ms hF hS hL h1 h2 h3 h4 hf
  exact lv_ior hF.1 hF.2.1 hd  (kk D cy b0 cs l p e R s m args below meth c Qw H locs cells slots ls mc ms hF hS hL h1 h2 h3 h4 hf)
theorem z_ixor {X : zX} {M : zM} {d k q pc : Nat} {L S : List Value} {n : Nat} {h : zH} {Q : zQ} {x y : Int32} (hd : decode M.2.1 pc = .ok (.ixor, 1))  (kk : zJ X M d k q (pc + 1) L (.int (x ^^^ y) :: S) n h Q) : zJ X M d k q pc L (.int y :: .int x :: S) n h Q := by
  intro D cy b0 cs l p e R s m args below meth c Qw H locs cells slots ls mc ms hF hS hL h1 h2 h3 h4 hf
  exact lv_ixor hF.1 hF.2.1 hd  (kk D cy b0 cs l p e R s m args below meth c Qw H locs cells slots ls mc ms hF hS hL h1 h2 h3 h4 hf)
theorem z_ishl {X : zX} {M : zM} {d k q pc : Nat} {L S : List Value} {n : Nat} {h : zH} {Q : zQ} {x y : Int32} (hd : decode M.2.1 pc = .ok (.ishl, 1))  (kk : zJ X M d k q (pc + 1) L (.int (x <<< (y &&& 31)) :: S) n h Q) : zJ X M d k q pc L (.int y :: .int x :: S) n h Q := by
  intro D cy b0 cs l p e R s m args below meth c Qw H locs cells slots ls mc ms hF hS hL h1 h2 h3 h4 hf
  exact lv_ishl hF.1 hF.2.1 hd  (kk D cy b0 cs l p e R s m args below meth c Qw H locs cells slots ls mc ms hF hS hL h1 h2 h3 h4 hf)
theorem z_ishr {X : zX} {M : zM} {d k q pc : Nat} {L S : List Value} {n : Nat} {h : zH} {Q : zQ} {x y : Int32} (hd : decode M.2.1 pc = .ok (.ishr, 1))  (kk : zJ X M d k q (pc + 1) L (.int (x >>> (y &&& 31)) :: S) n h Q) : zJ X M d k q pc L (.int y :: .int x :: S) n h Q := by
  intro D cy b0 cs l p e R s m args below meth c Qw H locs cells slots ls mc ms hF hS hL h1 h2 h3 h4 hf
  exact lv_ishr hF.1 hF.2.1 hd  (kk D cy b0 cs l p e R s m args below meth c Qw H locs cells slots ls mc ms hF hS hL h1 h2 h3 h4 hf)
theorem z_idiv {X : zX} {M : zM} {d k q pc : Nat} {L S : List Value} {n : Nat} {h : zH} {Q : zQ} {x y : Int32} (hd : decode M.2.1 pc = .ok (.idiv, 1)) (hne : ¬ y = 0) (kk : zJ X M d k q (pc + 1) L (.int (x / y) :: S) n h Q) : zJ X M d k q pc L (.int y :: .int x :: S) n h Q := by
  intro D cy b0 cs l p e R s m args below meth c Qw H locs cells slots ls mc ms hF hS hL h1 h2 h3 h4 hf
  exact lv_idiv hF.1 hF.2.1 hd hne (kk D cy b0 cs l p e R s m args below meth c Qw H locs cells slots ls mc ms hF hS hL h1 h2 h3 h4 hf)
theorem z_irem {X : zX} {M : zM} {d k q pc : Nat} {L S : List Value} {n : Nat} {h : zH} {Q : zQ} {x y : Int32} (hd : decode M.2.1 pc = .ok (.irem, 1)) (hne : ¬ y = 0) (kk : zJ X M d k q (pc + 1) L (.int (x - x / y * y) :: S) n h Q) : zJ X M d k q pc L (.int y :: .int x :: S) n h Q := by
  intro D cy b0 cs l p e R s m args below meth c Qw H locs cells slots ls mc ms hF hS hL h1 h2 h3 h4 hf
  exact lv_irem hF.1 hF.2.1 hd hne (kk D cy b0 cs l p e R s m args below meth c Qw H locs cells slots ls mc ms hF hS hL h1 h2 h3 h4 hf)
theorem z_ladd {X : zX} {M : zM} {d k q pc : Nat} {L S : List Value} {n : Nat} {h : zH} {Q : zQ} {x y : Int64} (hd : decode M.2.1 pc = .ok (.ladd, 1))  (kk : zJ X M d k q (pc + 1) L (.long (x + y) :: S) n h Q) : zJ X M d k q pc L (.long y :: .long x :: S) n h Q := by
  intro D cy b0 cs l p e R s m args below meth c Qw H locs cells slots ls mc ms hF hS hL h1 h2 h3 h4 hf
  exact lv_ladd hF.1 hF.2.1 hd  (kk D cy b0 cs l p e R s m args below meth c Qw H locs cells slots ls mc ms hF hS hL h1 h2 h3 h4 hf)
theorem z_lsub {X : zX} {M : zM} {d k q pc : Nat} {L S : List Value} {n : Nat} {h : zH} {Q : zQ} {x y : Int64} (hd : decode M.2.1 pc = .ok (.lsub, 1))  (kk : zJ X M d k q (pc + 1) L (.long (x - y) :: S) n h Q) : zJ X M d k q pc L (.long y :: .long x :: S) n h Q := by
  intro D cy b0 cs l p e R s m args below meth c Qw H locs cells slots ls mc ms hF hS hL h1 h2 h3 h4 hf
  exact lv_lsub hF.1 hF.2.1 hd  (kk D cy b0 cs l p e R s m args below meth c Qw H locs cells slots ls mc ms hF hS hL h1 h2 h3 h4 hf)
theorem z_lmul {X : zX} {M : zM} {d k q pc : Nat} {L S : List Value} {n : Nat} {h : zH} {Q : zQ} {x y : Int64} (hd : decode M.2.1 pc = .ok (.lmul, 1))  (kk : zJ X M d k q (pc + 1) L (.long (x * y) :: S) n h Q) : zJ X M d k q pc L (.long y :: .long x :: S) n h Q := by
  intro D cy b0 cs l p e R s m args below meth c Qw H locs cells slots ls mc ms hF hS hL h1 h2 h3 h4 hf
  exact lv_lmul hF.1 hF.2.1 hd  (kk D cy b0 cs l p e R s m args below meth c Qw H locs cells slots ls mc ms hF hS hL h1 h2 h3 h4 hf)
theorem z_land {X : zX} {M : zM} {d k q pc : Nat} {L S : List Value} {n : Nat} {h : zH} {Q : zQ} {x y : Int64} (hd : decode M.2.1 pc = .ok (.land, 1))  (kk : zJ X M d k q (pc + 1) L (.long (x &&& y) :: S) n h Q) : zJ X M d k q pc L (.long y :: .long x :: S) n h Q := by
  intro D cy b0 cs l p e R s m args below meth c Qw H locs cells slots ls mc ms hF hS hL h1 h2 h3 h4 hf
  exact lv_land hF.1 hF.2.1 hd  (kk D cy b0 cs l p e R s m args below meth c Qw H locs cells slots ls mc ms hF hS hL h1 h2 h3 h4 hf)
theorem z_lor {X : zX} {M : zM} {d k q pc : Nat} {L S : List Value} {n : Nat} {h : zH} {Q : zQ} {x y : Int64} (hd : decode M.2.1 pc = .ok (.lor, 1))  (kk : zJ X M d k q (pc + 1) L (.long (x ||| y) :: S) n h Q) : zJ X M d k q pc L (.long y :: .long x :: S) n h Q := by
  intro D cy b0 cs l p e R s m args below meth c Qw H locs cells slots ls mc ms hF hS hL h1 h2 h3 h4 hf
  exact lv_lor hF.1 hF.2.1 hd  (kk D cy b0 cs l p e R s m args below meth c Qw H locs cells slots ls mc ms hF hS hL h1 h2 h3 h4 hf)
theorem z_ldiv {X : zX} {M : zM} {d k q pc : Nat} {L S : List Value} {n : Nat} {h : zH} {Q : zQ} {x y : Int64} (hd : decode M.2.1 pc = .ok (.ldiv, 1)) (hne : ¬ y = 0) (kk : zJ X M d k q (pc + 1) L (.long (x / y) :: S) n h Q) : zJ X M d k q pc L (.long y :: .long x :: S) n h Q := by
  intro D cy b0 cs l p e R s m args below meth c Qw H locs cells slots ls mc ms hF hS hL h1 h2 h3 h4 hf
  exact lv_ldiv hF.1 hF.2.1 hd hne (kk D cy b0 cs l p e R s m args below meth c Qw H locs cells slots ls mc ms hF hS hL h1 h2 h3 h4 hf)
theorem z_lrem {X : zX} {M : zM} {d k q pc : Nat} {L S : List Value} {n : Nat} {h : zH} {Q : zQ} {x y : Int64} (hd : decode M.2.1 pc = .ok (.lrem, 1)) (hne : ¬ y = 0) (kk : zJ X M d k q (pc + 1) L (.long (x - x / y * y) :: S) n h Q) : zJ X M d k q pc L (.long y :: .long x :: S) n h Q := by
  intro D cy b0 cs l p e R s m args below meth c Qw H locs cells slots ls mc ms hF hS hL h1 h2 h3 h4 hf
  exact lv_lrem hF.1 hF.2.1 hd hne (kk D cy b0 cs l p e R s m args below meth c Qw H locs cells slots ls mc ms hF hS hL h1 h2 h3 h4 hf)
theorem z_ineg {X : zX} {M : zM} {d k q pc : Nat} {L S : List Value} {n : Nat} {h : zH} {Q : zQ} {x : Int32} (hd : decode M.2.1 pc = .ok (.ineg, 1))  (kk : zJ X M d k q (pc + 1) L (.int (-x) :: S) n h Q) : zJ X M d k q pc L (.int x :: S) n h Q := by
  intro D cy b0 cs l p e R s m args below meth c Qw H locs cells slots ls mc ms hF hS hL h1 h2 h3 h4 hf
  exact lv_ineg hF.1 hF.2.1 hd  (kk D cy b0 cs l p e R s m args below meth c Qw H locs cells slots ls mc ms hF hS hL h1 h2 h3 h4 hf)
theorem z_i2l {X : zX} {M : zM} {d k q pc : Nat} {L S : List Value} {n : Nat} {h : zH} {Q : zQ} {x : Int32} (hd : decode M.2.1 pc = .ok (.i2l, 1))  (kk : zJ X M d k q (pc + 1) L (.long x.toInt64 :: S) n h Q) : zJ X M d k q pc L (.int x :: S) n h Q := by
  intro D cy b0 cs l p e R s m args below meth c Qw H locs cells slots ls mc ms hF hS hL h1 h2 h3 h4 hf
  exact lv_i2l hF.1 hF.2.1 hd rfl (kk D cy b0 cs l p e R s m args below meth c Qw H locs cells slots ls mc ms hF hS hL h1 h2 h3 h4 hf)
theorem z_l2i {X : zX} {M : zM} {d k q pc : Nat} {L S : List Value} {n : Nat} {h : zH} {Q : zQ} {x : Int64} (hd : decode M.2.1 pc = .ok (.l2i, 1))  (kk : zJ X M d k q (pc + 1) L (.int x.toInt32 :: S) n h Q) : zJ X M d k q pc L (.long x :: S) n h Q := by
  intro D cy b0 cs l p e R s m args below meth c Qw H locs cells slots ls mc ms hF hS hL h1 h2 h3 h4 hf
  exact lv_l2i hF.1 hF.2.1 hd rfl (kk D cy b0 cs l p e R s m args below meth c Qw H locs cells slots ls mc ms hF hS hL h1 h2 h3 h4 hf)
theorem z_iushr {X : zX} {M : zM} {d k q pc : Nat} {L S : List Value} {n : Nat} {h : zH} {Q : zQ} {x y : Int32} (hd : decode M.2.1 pc = .ok (.iushr, 1))  (kk : zJ X M d k q (pc + 1) L (.int (x.toUInt32 >>> (y.toUInt32 &&& Int32.toUInt32 31)).toInt32 :: S) n h Q) : zJ X M d k q pc L (.int y :: .int x :: S) n h Q := by
  intro D cy b0 cs l p e R s m args below meth c Qw H locs cells slots ls mc ms hF hS hL h1 h2 h3 h4 hf
  exact lv_iushr hF.1 hF.2.1 hd rfl (kk D cy b0 cs l p e R s m args below meth c Qw H locs cells slots ls mc ms hF hS hL h1 h2 h3 h4 hf)
theorem z_lushr {X : zX} {M : zM} {d k q pc : Nat} {L S : List Value} {n : Nat} {h : zH} {Q : zQ} {x : Int64} {y : Int32} (hd : decode M.2.1 pc = .ok (.lushr, 1))  (kk : zJ X M d k q (pc + 1) L (.long (x.toUInt64 >>> (y.toInt64.toUInt64 &&& Int64.toUInt64 63)).toInt64 :: S) n h Q) : zJ X M d k q pc L (.int y :: .long x :: S) n h Q := by
  intro D cy b0 cs l p e R s m args below meth c Qw H locs cells slots ls mc ms hF hS hL h1 h2 h3 h4 hf
  exact lv_lushr hF.1 hF.2.1 hd rfl (kk D cy b0 cs l p e R s m args below meth c Qw H locs cells slots ls mc ms hF hS hL h1 h2 h3 h4 hf)
theorem z_lshl {X : zX} {M : zM} {d k q pc : Nat} {L S : List Value} {n : Nat} {h : zH} {Q : zQ} {x : Int64} {y : Int32} (hd : decode M.2.1 pc = .ok (.lshl, 1))  (kk : zJ X M d k q (pc + 1) L (.long (x <<< (y.toInt64 &&& 63)) :: S) n h Q) : zJ X M d k q pc L (.int y :: .long x :: S) n h Q := by
  intro D cy b0 cs l p e R s m args below meth c Qw H locs cells slots ls mc ms hF hS hL h1 h2 h3 h4 hf
  exact lv_lshl hF.1 hF.2.1 hd rfl (kk D cy b0 cs l p e R s m args below meth c Qw H locs cells slots ls mc ms hF hS hL h1 h2 h3 h4 hf)
theorem z_lcmp {X : zX} {M : zM} {d k q pc : Nat} {L S : List Value} {n : Nat} {h : zH} {Q : zQ} {x y : Int64} (hd : decode M.2.1 pc = .ok (.lcmp, 1))  (kk : zJ X M d k q (pc + 1) L (.int (lg_cmp x y) :: S) n h Q) : zJ X M d k q pc L (.long y :: .long x :: S) n h Q := by
  intro D cy b0 cs l p e R s m args below meth c Qw H locs cells slots ls mc ms hF hS hL h1 h2 h3 h4 hf
  exact W.lcmp hF.1 hF.2.1 hd  (kk D cy b0 cs l p e R s m args below meth c Qw H locs cells slots ls mc ms hF hS hL h1 h2 h3 h4 hf)
theorem z_iconst {X : zX} {M : zM} {d k q pc : Nat} {L S : List Value} {n : Nat} {h : zH} {Q : zQ} {z : Int} {v : Int32} (hd : decode M.2.1 pc = .ok (.iconst z, 1)) (hv : Int32.ofInt z = v) (kk : zJ X M d k q (pc + 1) L (.int v :: S) n h Q) : zJ X M d k q pc L S n h Q := by
  intro D cy b0 cs l p e R s m args below meth c Qw H locs cells slots ls mc ms hF hS hL h1 h2 h3 h4 hf
  exact lv_iconst hF.1 hF.2.1 hd hv (kk D cy b0 cs l p e R s m args below meth c Qw H locs cells slots ls mc ms hF hS hL h1 h2 h3 h4 hf)
theorem z_bipush {X : zX} {M : zM} {d k q pc : Nat} {L S : List Value} {n : Nat} {h : zH} {Q : zQ} {z : Int} {v : Int32} (hd : decode M.2.1 pc = .ok (.bipush z, 2)) (hv : (Int8.ofInt z).toInt32 = v) (kk : zJ X M d k q (pc + 2) L (.int v :: S) n h Q) : zJ X M d k q pc L S n h Q := by
  intro D cy b0 cs l p e R s m args below meth c Qw H locs cells slots ls mc ms hF hS hL h1 h2 h3 h4 hf
  exact lv_bipush hF.1 hF.2.1 hd hv (kk D cy b0 cs l p e R s m args below meth c Qw H locs cells slots ls mc ms hF hS hL h1 h2 h3 h4 hf)
theorem z_sipush {X : zX} {M : zM} {d k q pc : Nat} {L S : List Value} {n : Nat} {h : zH} {Q : zQ} {z : Int} {v : Int32} (hd : decode M.2.1 pc = .ok (.sipush z, 3)) (hv : (Int16.ofInt z).toInt32 = v) (kk : zJ X M d k q (pc + 3) L (.int v :: S) n h Q) : zJ X M d k q pc L S n h Q := by
  intro D cy b0 cs l p e R s m args below meth c Qw H locs cells slots ls mc ms hF hS hL h1 h2 h3 h4 hf
  exact lv_sipush hF.1 hF.2.1 hd hv (kk D cy b0 cs l p e R s m args below meth c Qw H locs cells slots ls mc ms hF hS hL h1 h2 h3 h4 hf)
theorem z_lconst {X : zX} {M : zM} {d k q pc : Nat} {L S : List Value} {n : Nat} {h : zH} {Q : zQ} {z : Fin 2} {v : Int64} (hd : decode M.2.1 pc = .ok (.lconst z, 1)) (hv : Int64.ofNat (z : Nat) = v) (kk : zJ X M d k q (pc + 1) L (.long v :: S) n h Q) : zJ X M d k q pc L S n h Q := by
  intro D cy b0 cs l p e R s m args below meth c Qw H locs cells slots ls mc ms hF hS hL h1 h2 h3 h4 hf
  exact lv_lconst hF.1 hF.2.1 hd hv (kk D cy b0 cs l p e R s m args below meth c Qw H locs cells slots ls mc ms hF hS hL h1 h2 h3 h4 hf)
theorem z_dup {X : zX} {M : zM} {d k q pc : Nat} {L S : List Value} {n : Nat} {h : zH} {Q : zQ} {va : Value} (hd : decode M.2.1 pc = .ok (.dup, 1)) (hva : va.category = 1) (kk : zJ X M d k q (pc + 1) L (va :: va :: S) n h Q) : zJ X M d k q pc L (va :: S) n h Q := by
  intro D cy b0 cs l p e R s m args below meth c Qw H locs cells slots ls mc ms hF hS hL h1 h2 h3 h4 hf
  exact lv_dup hF.1 hF.2.1 hd (by rw [ztr_cat]; exact hva) (kk D cy b0 cs l p e R s m args below meth c Qw H locs cells slots ls mc ms hF hS hL h1 h2 h3 h4 hf)
theorem z_pop {X : zX} {M : zM} {d k q pc : Nat} {L S : List Value} {n : Nat} {h : zH} {Q : zQ} {va : Value} (hd : decode M.2.1 pc = .ok (.pop, 1)) (hva : va.category = 1) (kk : zJ X M d k q (pc + 1) L S n h Q) : zJ X M d k q pc L (va :: S) n h Q := by
  intro D cy b0 cs l p e R s m args below meth c Qw H locs cells slots ls mc ms hF hS hL h1 h2 h3 h4 hf
  exact lv_pop hF.1 hF.2.1 hd (by rw [ztr_cat]; exact hva) (kk D cy b0 cs l p e R s m args below meth c Qw H locs cells slots ls mc ms hF hS hL h1 h2 h3 h4 hf)
theorem z_dup2 {X : zX} {M : zM} {d k q pc : Nat} {L S : List Value} {n : Nat} {h : zH} {Q : zQ} {va vb : Value} (hd : decode M.2.1 pc = .ok (.dup2, 1)) (hva : va.category = 1) (hvb : vb.category = 1) (kk : zJ X M d k q (pc + 1) L (va :: vb :: va :: vb :: S) n h Q) : zJ X M d k q pc L (va :: vb :: S) n h Q := by
  intro D cy b0 cs l p e R s m args below meth c Qw H locs cells slots ls mc ms hF hS hL h1 h2 h3 h4 hf
  exact lv_dup2_11 hF.1 hF.2.1 hd (by rw [ztr_cat]; exact hva) (by rw [ztr_cat]; exact hvb) (kk D cy b0 cs l p e R s m args below meth c Qw H locs cells slots ls mc ms hF hS hL h1 h2 h3 h4 hf)
theorem z_if_eq {X : zX} {M : zM} {d k q pc : Nat} {L S : List Value} {n : Nat} {h : zH} {Q : zQ} {x : Int32} {off : Int} {tgt : Nat} (hd : decode M.2.1 pc = .ok (.ifCond .eq off, 3)) (ht : (pc : Int) + off = (tgt : Int)) (kt : x = 0 → zJ X M d k q tgt L S n h Q) (kf : ¬ (x = 0) → zJ X M d k q (pc + 3) L S n h Q) : zJ X M d k q pc L (.int x :: S) n h Q := by
  intro D cy b0 cs l p e R s m args below meth c Qw H locs cells slots ls mc ms hF hS hL h1 h2 h3 h4 hf
  exact lv_if_eq hF.1 hF.2.1 hd ht (fun hc => kt hc D cy b0 cs l p e R s m args below meth c Qw H locs cells slots ls mc ms hF hS hL h1 h2 h3 h4 hf) (fun hc => kf hc D cy b0 cs l p e R s m args below meth c Qw H locs cells slots ls mc ms hF hS hL h1 h2 h3 h4 hf)
theorem z_icmp_eq {X : zX} {M : zM} {d k q pc : Nat} {L S : List Value} {n : Nat} {h : zH} {Q : zQ} {x y : Int32} {off : Int} {tgt : Nat} (hd : decode M.2.1 pc = .ok (.if_icmp .eq off, 3)) (ht : (pc : Int) + off = (tgt : Int)) (kt : x = y → zJ X M d k q tgt L S n h Q) (kf : ¬ (x = y) → zJ X M d k q (pc + 3) L S n h Q) : zJ X M d k q pc L (.int y :: .int x :: S) n h Q := by
  intro D cy b0 cs l p e R s m args below meth c Qw H locs cells slots ls mc ms hF hS hL h1 h2 h3 h4 hf
  exact lv_icmp_eq hF.1 hF.2.1 hd ht (fun hc => kt hc D cy b0 cs l p e R s m args below meth c Qw H locs cells slots ls mc ms hF hS hL h1 h2 h3 h4 hf) (fun hc => kf hc D cy b0 cs l p e R s m args below meth c Qw H locs cells slots ls mc ms hF hS hL h1 h2 h3 h4 hf)
theorem z_if_ne {X : zX} {M : zM} {d k q pc : Nat} {L S : List Value} {n : Nat} {h : zH} {Q : zQ} {x : Int32} {off : Int} {tgt : Nat} (hd : decode M.2.1 pc = .ok (.ifCond .ne off, 3)) (ht : (pc : Int) + off = (tgt : Int)) (kt : ¬ x = 0 → zJ X M d k q tgt L S n h Q) (kf : x = 0 → zJ X M d k q (pc + 3) L S n h Q) : zJ X M d k q pc L (.int x :: S) n h Q := by
  intro D cy b0 cs l p e R s m args below meth c Qw H locs cells slots ls mc ms hF hS hL h1 h2 h3 h4 hf
  exact lv_if_ne hF.1 hF.2.1 hd ht (fun hc => kt hc D cy b0 cs l p e R s m args below meth c Qw H locs cells slots ls mc ms hF hS hL h1 h2 h3 h4 hf) (fun hc => kf hc D cy b0 cs l p e R s m args below meth c Qw H locs cells slots ls mc ms hF hS hL h1 h2 h3 h4 hf)
theorem z_icmp_ne {X : zX} {M : zM} {d k q pc : Nat} {L S : List Value} {n : Nat} {h : zH} {Q : zQ} {x y : Int32} {off : Int} {tgt : Nat} (hd : decode M.2.1 pc = .ok (.if_icmp .ne off, 3)) (ht : (pc : Int) + off = (tgt : Int)) (kt : ¬ x = y → zJ X M d k q tgt L S n h Q) (kf : x = y → zJ X M d k q (pc + 3) L S n h Q) : zJ X M d k q pc L (.int y :: .int x :: S) n h Q := by
  intro D cy b0 cs l p e R s m args below meth c Qw H locs cells slots ls mc ms hF hS hL h1 h2 h3 h4 hf
  exact lv_icmp_ne hF.1 hF.2.1 hd ht (fun hc => kt hc D cy b0 cs l p e R s m args below meth c Qw H locs cells slots ls mc ms hF hS hL h1 h2 h3 h4 hf) (fun hc => kf hc D cy b0 cs l p e R s m args below meth c Qw H locs cells slots ls mc ms hF hS hL h1 h2 h3 h4 hf)
theorem z_if_lt {X : zX} {M : zM} {d k q pc : Nat} {L S : List Value} {n : Nat} {h : zH} {Q : zQ} {x : Int32} {off : Int} {tgt : Nat} (hd : decode M.2.1 pc = .ok (.ifCond .lt off, 3)) (ht : (pc : Int) + off = (tgt : Int)) (kt : x < 0 → zJ X M d k q tgt L S n h Q) (kf : ¬ (x < 0) → zJ X M d k q (pc + 3) L S n h Q) : zJ X M d k q pc L (.int x :: S) n h Q := by
  intro D cy b0 cs l p e R s m args below meth c Qw H locs cells slots ls mc ms hF hS hL h1 h2 h3 h4 hf
  exact lv_if_lt hF.1 hF.2.1 hd ht (fun hc => kt hc D cy b0 cs l p e R s m args below meth c Qw H locs cells slots ls mc ms hF hS hL h1 h2 h3 h4 hf) (fun hc => kf hc D cy b0 cs l p e R s m args below meth c Qw H locs cells slots ls mc ms hF hS hL h1 h2 h3 h4 hf)
theorem z_icmp_lt {X : zX} {M : zM} {d k q pc : Nat} {L S : List Value} {n : Nat} {h : zH} {Q : zQ} {x y : Int32} {off : Int} {tgt : Nat} (hd : decode M.2.1 pc = .ok (.if_icmp .lt off, 3)) (ht : (pc : Int) + off = (tgt : Int)) (kt : x < y → zJ X M d k q tgt L S n h Q) (kf : ¬ (x < y) → zJ X M d k q (pc + 3) L S n h Q) : zJ X M d k q pc L (.int y :: .int x :: S) n h Q := by
  intro D cy b0 cs l p e R s m args below meth c Qw H locs cells slots ls mc ms hF hS hL h1 h2 h3 h4 hf
  exact lv_icmp_lt hF.1 hF.2.1 hd ht (fun hc => kt hc D cy b0 cs l p e R s m args below meth c Qw H locs cells slots ls mc ms hF hS hL h1 h2 h3 h4 hf) (fun hc => kf hc D cy b0 cs l p e R s m args below meth c Qw H locs cells slots ls mc ms hF hS hL h1 h2 h3 h4 hf)
theorem z_if_ge {X : zX} {M : zM} {d k q pc : Nat} {L S : List Value} {n : Nat} {h : zH} {Q : zQ} {x : Int32} {off : Int} {tgt : Nat} (hd : decode M.2.1 pc = .ok (.ifCond .ge off, 3)) (ht : (pc : Int) + off = (tgt : Int)) (kt : 0 ≤ x → zJ X M d k q tgt L S n h Q) (kf : ¬ (0 ≤ x) → zJ X M d k q (pc + 3) L S n h Q) : zJ X M d k q pc L (.int x :: S) n h Q := by
  intro D cy b0 cs l p e R s m args below meth c Qw H locs cells slots ls mc ms hF hS hL h1 h2 h3 h4 hf
  exact lv_if_ge hF.1 hF.2.1 hd ht (fun hc => kt hc D cy b0 cs l p e R s m args below meth c Qw H locs cells slots ls mc ms hF hS hL h1 h2 h3 h4 hf) (fun hc => kf hc D cy b0 cs l p e R s m args below meth c Qw H locs cells slots ls mc ms hF hS hL h1 h2 h3 h4 hf)
theorem z_icmp_ge {X : zX} {M : zM} {d k q pc : Nat} {L S : List Value} {n : Nat} {h : zH} {Q : zQ} {x y : Int32} {off : Int} {tgt : Nat} (hd : decode M.2.1 pc = .ok (.if_icmp .ge off, 3)) (ht : (pc : Int) + off = (tgt : Int)) (kt : y ≤ x → zJ X M d k q tgt L S n h Q) (kf : ¬ (y ≤ x) → zJ X M d k q (pc + 3) L S n h Q) : zJ X M d k q pc L (.int y :: .int x :: S) n h Q := by
  intro D cy b0 cs l p e R s m args below meth c Qw H locs cells slots ls mc ms hF hS hL h1 h2 h3 h4 hf
  exact lv_icmp_ge hF.1 hF.2.1 hd ht (fun hc => kt hc D cy b0 cs l p e R s m args below meth c Qw H locs cells slots ls mc ms hF hS hL h1 h2 h3 h4 hf) (fun hc => kf hc D cy b0 cs l p e R s m args below meth c Qw H locs cells slots ls mc ms hF hS hL h1 h2 h3 h4 hf)
theorem z_if_gt {X : zX} {M : zM} {d k q pc : Nat} {L S : List Value} {n : Nat} {h : zH} {Q : zQ} {x : Int32} {off : Int} {tgt : Nat} (hd : decode M.2.1 pc = .ok (.ifCond .gt off, 3)) (ht : (pc : Int) + off = (tgt : Int)) (kt : 0 < x → zJ X M d k q tgt L S n h Q) (kf : ¬ (0 < x) → zJ X M d k q (pc + 3) L S n h Q) : zJ X M d k q pc L (.int x :: S) n h Q := by
  intro D cy b0 cs l p e R s m args below meth c Qw H locs cells slots ls mc ms hF hS hL h1 h2 h3 h4 hf
  exact lv_if_gt hF.1 hF.2.1 hd ht (fun hc => kt hc D cy b0 cs l p e R s m args below meth c Qw H locs cells slots ls mc ms hF hS hL h1 h2 h3 h4 hf) (fun hc => kf hc D cy b0 cs l p e R s m args below meth c Qw H locs cells slots ls mc ms hF hS hL h1 h2 h3 h4 hf)
theorem z_icmp_gt {X : zX} {M : zM} {d k q pc : Nat} {L S : List Value} {n : Nat} {h : zH} {Q : zQ} {x y : Int32} {off : Int} {tgt : Nat} (hd : decode M.2.1 pc = .ok (.if_icmp .gt off, 3)) (ht : (pc : Int) + off = (tgt : Int)) (kt : y < x → zJ X M d k q tgt L S n h Q) (kf : ¬ (y < x) → zJ X M d k q (pc + 3) L S n h Q) : zJ X M d k q pc L (.int y :: .int x :: S) n h Q := by
  intro D cy b0 cs l p e R s m args below meth c Qw H locs cells slots ls mc ms hF hS hL h1 h2 h3 h4 hf
  exact lv_icmp_gt hF.1 hF.2.1 hd ht (fun hc => kt hc D cy b0 cs l p e R s m args below meth c Qw H locs cells slots ls mc ms hF hS hL h1 h2 h3 h4 hf) (fun hc => kf hc D cy b0 cs l p e R s m args below meth c Qw H locs cells slots ls mc ms hF hS hL h1 h2 h3 h4 hf)
theorem z_if_le {X : zX} {M : zM} {d k q pc : Nat} {L S : List Value} {n : Nat} {h : zH} {Q : zQ} {x : Int32} {off : Int} {tgt : Nat} (hd : decode M.2.1 pc = .ok (.ifCond .le off, 3)) (ht : (pc : Int) + off = (tgt : Int)) (kt : x ≤ 0 → zJ X M d k q tgt L S n h Q) (kf : ¬ (x ≤ 0) → zJ X M d k q (pc + 3) L S n h Q) : zJ X M d k q pc L (.int x :: S) n h Q := by
  intro D cy b0 cs l p e R s m args below meth c Qw H locs cells slots ls mc ms hF hS hL h1 h2 h3 h4 hf
  exact lv_if_le hF.1 hF.2.1 hd ht (fun hc => kt hc D cy b0 cs l p e R s m args below meth c Qw H locs cells slots ls mc ms hF hS hL h1 h2 h3 h4 hf) (fun hc => kf hc D cy b0 cs l p e R s m args below meth c Qw H locs cells slots ls mc ms hF hS hL h1 h2 h3 h4 hf)
theorem z_icmp_le {X : zX} {M : zM} {d k q pc : Nat} {L S : List Value} {n : Nat} {h : zH} {Q : zQ} {x y : Int32} {off : Int} {tgt : Nat} (hd : decode M.2.1 pc = .ok (.if_icmp .le off, 3)) (ht : (pc : Int) + off = (tgt : Int)) (kt : x ≤ y → zJ X M d k q tgt L S n h Q) (kf : ¬ (x ≤ y) → zJ X M d k q (pc + 3) L S n h Q) : zJ X M d k q pc L (.int y :: .int x :: S) n h Q := by
  intro D cy b0 cs l p e R s m args below meth c Qw H locs cells slots ls mc ms hF hS hL h1 h2 h3 h4 hf
  exact lv_icmp_le hF.1 hF.2.1 hd ht (fun hc => kt hc D cy b0 cs l p e R s m args below meth c Qw H locs cells slots ls mc ms hF hS hL h1 h2 h3 h4 hf) (fun hc => kf hc D cy b0 cs l p e R s m args below meth c Qw H locs cells slots ls mc ms hF hS hL h1 h2 h3 h4 hf)
theorem z_goto {X : zX} {M : zM} {d k q pc : Nat} {L S : List Value} {n : Nat} {h : zH} {Q : zQ} {off : Int} {tgt : Nat} (hd : decode M.2.1 pc = .ok (.goto off, 3)) (ht : (pc : Int) + off = (tgt : Int)) (kk : zJ X M d k q tgt L S n h Q) : zJ X M d k q pc L S n h Q := by
  intro D cy b0 cs l p e R s m args below meth c Qw H locs cells slots ls mc ms hF hS hL h1 h2 h3 h4 hf
  exact lv_goto hF.1 hF.2.1 hd ht (kk D cy b0 cs l p e R s m args below meth c Qw H locs cells slots ls mc ms hF hS hL h1 h2 h3 h4 hf)
theorem z_iload {X : zX} {M : zM} {d k q pc : Nat} {L S : List Value} {n : Nat} {h : zH} {Q : zQ} {i : Nat} {x : Int32} (hd : decode M.2.1 pc = .ok (.iload i, 2)) (hx : L[i]? = some (.int x)) (kk : zJ X M d k q (pc + 2) L (.int x :: S) n h Q) : zJ X M d k q pc L S n h Q := by
  intro D cy b0 cs l p e R s m args below meth c Qw H locs cells slots ls mc ms hF hS hL h1 h2 h3 h4 hf
  exact lv_iload hF.1 hF.2.1 hd (hL.2.2.2 i _ hx (by intro z; cases z)) (kk D cy b0 cs l p e R s m args below meth c Qw H locs cells slots ls mc ms hF hS hL h1 h2 h3 h4 hf)
theorem z_iload_n {X : zX} {M : zM} {d k q pc : Nat} {L S : List Value} {n : Nat} {h : zH} {Q : zQ} {i : Fin 4} {x : Int32} (hd : decode M.2.1 pc = .ok (.iload_n i, 1)) (hx : L[(i : Nat)]? = some (.int x)) (kk : zJ X M d k q (pc + 1) L (.int x :: S) n h Q) : zJ X M d k q pc L S n h Q := by
  intro D cy b0 cs l p e R s m args below meth c Qw H locs cells slots ls mc ms hF hS hL h1 h2 h3 h4 hf
  exact lv_iload_n hF.1 hF.2.1 hd rfl (hL.2.2.2 i _ hx (by intro z; cases z)) (kk D cy b0 cs l p e R s m args below meth c Qw H locs cells slots ls mc ms hF hS hL h1 h2 h3 h4 hf)
theorem z_lload {X : zX} {M : zM} {d k q pc : Nat} {L S : List Value} {n : Nat} {h : zH} {Q : zQ} {i : Nat} {x : Int64} (hd : decode M.2.1 pc = .ok (.lload i, 2)) (hx : L[i]? = some (.long x)) (kk : zJ X M d k q (pc + 2) L (.long x :: S) n h Q) : zJ X M d k q pc L S n h Q := by
  intro D cy b0 cs l p e R s m args below meth c Qw H locs cells slots ls mc ms hF hS hL h1 h2 h3 h4 hf
  exact lv_lload hF.1 hF.2.1 hd (hL.2.2.2 i _ hx (by intro z; cases z)) (kk D cy b0 cs l p e R s m args below meth c Qw H locs cells slots ls mc ms hF hS hL h1 h2 h3 h4 hf)
theorem z_lload_n {X : zX} {M : zM} {d k q pc : Nat} {L S : List Value} {n : Nat} {h : zH} {Q : zQ} {i : Fin 4} {x : Int64} (hd : decode M.2.1 pc = .ok (.lload_n i, 1)) (hx : L[(i : Nat)]? = some (.long x)) (kk : zJ X M d k q (pc + 1) L (.long x :: S) n h Q) : zJ X M d k q pc L S n h Q := by
  intro D cy b0 cs l p e R s m args below meth c Qw H locs cells slots ls mc ms hF hS hL h1 h2 h3 h4 hf
  exact lv_lload_n hF.1 hF.2.1 hd rfl (hL.2.2.2 i _ hx (by intro z; cases z)) (kk D cy b0 cs l p e R s m args below meth c Qw H locs cells slots ls mc ms hF hS hL h1 h2 h3 h4 hf)
theorem z_aload {X : zX} {M : zM} {d k q pc : Nat} {L S : List Value} {n : Nat} {h : zH} {Q : zQ} {i x : Nat} (hd : decode M.2.1 pc = .ok (.aload i, 2)) (hx : L[i]? = some (.ref x)) (kk : zJ X M d k q (pc + 2) L (.ref x :: S) n h Q) : zJ X M d k q pc L S n h Q := by
  intro D cy b0 cs l p e R s m args below meth c Qw H locs cells slots ls mc ms hF hS hL h1 h2 h3 h4 hf
  exact lv_aload hF.1 hF.2.1 hd (hL.2.2.2 i _ hx (by intro z; cases z)) (kk D cy b0 cs l p e R s m args below meth c Qw H locs cells slots ls mc ms hF hS hL h1 h2 h3 h4 hf)
theorem z_aload_n {X : zX} {M : zM} {d k q pc : Nat} {L S : List Value} {n : Nat} {h : zH} {Q : zQ} {i : Fin 4} {x : Nat} (hd : decode M.2.1 pc = .ok (.aload_n i, 1)) (hx : L[(i : Nat)]? = some (.ref x)) (kk : zJ X M d k q (pc + 1) L (.ref x :: S) n h Q) : zJ X M d k q pc L S n h Q := by
  intro D cy b0 cs l p e R s m args below meth c Qw H locs cells slots ls mc ms hF hS hL h1 h2 h3 h4 hf
  exact lv_aload_n hF.1 hF.2.1 hd rfl (hL.2.2.2 i _ hx (by intro z; cases z)) (kk D cy b0 cs l p e R s m args below meth c Qw H locs cells slots ls mc ms hF hS hL h1 h2 h3 h4 hf)
end
section
/-- fewer locals known -/
def zsub : List Value → List Value → Prop
  | [], [] => True
  | a :: L, b :: L' => (a = zu ∨ a = b) ∧ zsub L L'
  | _, _ => False
theorem zsub_len : ∀ {L L' : List Value}, zsub L L' → L.length = L'.length
  | [], [], _ => rfl
  | _ :: _, _ :: _, h => congrArg (· + 1) (zsub_len h.2)
  | [], _ :: _, h => h.elim
  | _ :: _, [], h => h.elim
theorem zsub_at : ∀ {L L' : List Value}, zsub L L' → ∀ (i : Nat) (v : Value), L[i]? = some v → v ≠ zu → L'[i]? = some v
  | a :: L, b :: L', h, 0, v, e, hv => by
    simp only [List.getElem?_cons_zero, Option.some.injEq] at e ⊢
    rcases h.1 with h1 | h1
    · exact absurd (e.symm.trans h1) hv
    · exact h1 ▸ e
  | a :: L, b :: L', h, i + 1, v, e, hv => by
    simp only [List.getElem?_cons_succ] at e ⊢
    exact zsub_at h.2 i v e hv
  | [], _, _, i, v, e, _ => by simp at e
  | _ :: _, [], h, _, _, _, _ => h.elim
theorem z_sub {X : zX} {M : zM} {d k q pc : Nat} {L L' S : List Value} {n : Nat} {h : zH} {Q : zQ} (kk : zJ X M d k q pc L S n h Q) (hs : zsub L L') : zJ X M d k q pc L' S n h Q := by
  intro D cy b0 cs l p e R s m args below meth c Qw H locs cells slots ls mc ms hF hS hL h1 h2 h3 h4 hf
  exact kk D cy b0 cs l p e R s m args below meth c Qw H locs cells slots ls mc ms hF hS ⟨(zsub_len hs).trans hL.1, hL.2.1, hL.2.2.1, fun i v e hv => hL.2.2.2 i v (zsub_at hs i v e hv) hv⟩ h1 h2 h3 h4 hf
theorem z_post {X : zX} {M : zM} {d k q pc : Nat} {L S : List Value} {n : Nat} {h : zH} {Q Q' : zQ} (kk : zJ X M d k q pc L S n h Q) (hq : ∀ r n' h', Q r n' h' → Q' r n' h') : zJ X M d k q pc L S n h Q' := by
  intro D cy b0 cs l p e R s m args below meth c Qw H locs cells slots ls mc ms hF hS hL h1 h2 h3 h4 hf
  exact kk D cy b0 cs l p e R s m args below meth c Qw H locs cells slots ls mc ms hF hS hL h1 h2 h3 h4 (fun r n' h' H' locs' slots' pc' ls' hq' => hf r n' h' H' locs' slots' pc' ls' (hq r n' h' hq'))
theorem z_depth {X : zX} {M : zM} {d d' k q pc : Nat} {L S : List Value} {n : Nat} {h : zH} {Q : zQ} (kk : zJ X M d k q pc L S n h Q) (hd : d ≤ d') : zJ X M d' k q pc L S n h Q := by
  intro D cy b0 cs l p e R s m args below meth c Qw H locs cells slots ls mc ms hF hS hL h1 h2 h3 h4 hf
  obtain ⟨f1, f2, f3, f4, f5, f6, f7, f8, f9, f10, f11⟩ := hF
  exact kk D cy b0 cs l p e R s m args below meth c Qw H locs cells slots ls mc ms ⟨f1, f2, f3, f4, f5, f6, f7, f8, f9, Nat.le_trans hd f10, Nat.le_trans (Nat.mul_le_mul_left 64 hd) f11⟩ hS hL h1 h2 h3 h4 hf
def zasc (b0 : Nat) (cs : Nat → Nat) (L : List Value) : List (Nat × Value) := (L.zipIdx.filter (fun q => decide (q.1 ≠ zu))).map (fun q => (q.2, ztr b0 cs q.1))
theorem zasc_mem {b0 : Nat} {cs : Nat → Nat} {L : List Value} {i : Nat} {v : Value} (h : L[i]? = some v) (hv : v ≠ zu) : (i, ztr b0 cs v) ∈ zasc b0 cs L :=
  List.mem_map.mpr ⟨(v, i), List.mem_filter.mpr ⟨List.mem_zipIdx_iff_getElem?.mpr h, decide_eq_true hv⟩, rfl⟩
theorem zL.has {b0 : Nat} {cs : Nat → Nat} {ls : Array Slot} {nL : Nat} {L : List Value} (hL : zL b0 cs ls nL L) : lv_has ls nL (zasc b0 cs L) := by
  refine ⟨hL.2.1, hL.2.2.1, fun q hq => ?_⟩
  obtain ⟨⟨v, i⟩, hm, rfl⟩ := List.mem_map.mp hq
  obtain ⟨h1, h2⟩ := List.mem_filter.mp hm
  exact hL.2.2.2 i v (List.mem_zipIdx_iff_getElem?.mp h1) (of_decide_eq_true h2)
theorem zL.st1 {b0 : Nat} {cs : Nat → Nat} {ls ls' : Array Slot} {nL i : Nat} {L : List Value} {v : Value} (hL : zL b0 cs ls nL L) (hi : i < L.length) (hk : ∀ j w, j + 1 = i → L[j]? = some w → w.category = 1)
    (h' : lv_has ls' nL ((i, ztr b0 cs v) :: (zasc b0 cs L).filter (fun q => !(q.1 == i) && !(q.1 + 1 == i && q.2.category == 2)))) : zL b0 cs ls' nL (L.set i v) := by
  refine ⟨by rw [List.length_set]; exact hL.1, h'.1, h'.2.1, fun j w hj hw => ?_⟩
  by_cases hji : j = i
  · subst hji
    rw [List.getElem?_set_self hi] at hj
    cases hj
    exact h'.2.2 _ List.mem_cons_self
  · rw [List.getElem?_set_ne (Ne.symm hji)] at hj
    refine h'.2.2 (j, ztr b0 cs w) (List.mem_cons_of_mem _ (List.mem_filter.mpr ⟨zasc_mem hj hw, ?_⟩))
    by_cases hj1 : j + 1 = i
    · have := hk j w hj1 hj
      simp [hji, ztr_cat, this]
    · simp [hji, hj1]
theorem zL.st2 {b0 : Nat} {cs : Nat → Nat} {ls ls' : Array Slot} {nL i : Nat} {L : List Value} {v : Value} (hL : zL b0 cs ls nL L) (hi : i + 1 < L.length) (hk : ∀ j w, j + 1 = i → L[j]? = some w → w.category = 1)
    (h' : lv_has ls' nL ((i, ztr b0 cs v) :: (zasc b0 cs L).filter (fun q => !(q.1 == i) && (!(q.1 == i + 1) && !(q.1 + 1 == i && q.2.category == 2))))) : zL b0 cs ls' nL ((L.set i v).set (i + 1) zu) := by
  refine ⟨by rw [List.length_set, List.length_set]; exact hL.1, h'.1, h'.2.1, fun j w hj hw => ?_⟩
  by_cases hj2 : j = i + 1
  · subst hj2
    rw [List.getElem?_set_self (by rw [List.length_set]; exact hi)] at hj
    cases hj
    exact absurd rfl hw
  rw [List.getElem?_set_ne (Ne.symm hj2)] at hj
  by_cases hji : j = i
  · subst hji
    rw [List.getElem?_set_self (by omega)] at hj
    cases hj
    exact h'.2.2 _ List.mem_cons_self
  · rw [List.getElem?_set_ne (Ne.symm hji)] at hj
    refine h'.2.2 (j, ztr b0 cs w) (List.mem_cons_of_mem _ (List.mem_filter.mpr ⟨zasc_mem hj hw, ?_⟩))
    by_cases hj1 : j + 1 = i
    · have := hk j w hj1 hj
      simp [hji, hj2, ztr_cat, this]
    · simp [hji, hj1, hj2]
theorem z_istore0 {X : zX} {M : zM} {d k q pc : Nat} {L S : List Value} {n : Nat} {h : zH} {Q : zQ} {x : Value} {v : Int32} (hd : decode M.2.1 pc = .ok (.istore_n 0, 1)) (kk : zJ X M d k q (pc + 1) (.int v :: L) S n h Q) : zJ X M d k q pc (x :: L) (.int v :: S) n h Q := by
  intro D cy b0 cs l p e R s m args below meth c Qw H locs cells slots ls mc ms hF hS hL h1 h2 h3 h4 hf
  refine lv_istore_n hF.1 hF.2.1 hd rfl hL.has (show 0 < M.2.2.1 by rw [← hL.1]; simp) rfl (fun ls1 hl => ?_)
  have hk0 : ∀ (j : Nat) (w : Value), j + 1 = 0 → (x :: L)[j]? = some w → w.category = 1 := fun j w e _ => by omega
  have hL1 := hL.st1 (i := 0) (v := .int v) (by simp) hk0 hl
  exact kk D cy b0 cs l p e R s m args below meth c Qw H locs cells slots ls1 mc ms hF hS hL1 h1 h2 h3 h4 hf
theorem z_istore1 {X : zX} {M : zM} {d k q pc : Nat} {L S : List Value} {n : Nat} {h : zH} {Q : zQ} {x0 x : Value} {v : Int32} (hd : decode M.2.1 pc = .ok (.istore_n 1, 1)) (hc : x0.category = 1) (kk : zJ X M d k q (pc + 1) (x0 :: .int v :: L) S n h Q) : zJ X M d k q pc (x0 :: x :: L) (.int v :: S) n h Q := by
  intro D cy b0 cs l p e R s m args below meth c Qw H locs cells slots ls mc ms hF hS hL h1 h2 h3 h4 hf
  refine lv_istore_n hF.1 hF.2.1 hd rfl hL.has (show 1 < M.2.2.1 by rw [← hL.1]; simp) rfl (fun ls1 hl => ?_)
  have hk0 : ∀ (j : Nat) (w : Value), j + 1 = 1 → (x0 :: x :: L)[j]? = some w → w.category = 1 := by
    intro j w e1 e2
    obtain rfl : j = 0 := by omega
    cases e2
    exact hc
  have hL1 := hL.st1 (i := 1) (v := .int v) (by simp) hk0 hl
  exact kk D cy b0 cs l p e R s m args below meth c Qw H locs cells slots ls1 mc ms hF hS hL1 h1 h2 h3 h4 hf
theorem z_istore2 {X : zX} {M : zM} {d k q pc : Nat} {L S : List Value} {n : Nat} {h : zH} {Q : zQ} {x0 x1 x : Value} {v : Int32} (hd : decode M.2.1 pc = .ok (.istore_n 2, 1)) (hc : x1.category = 1) (kk : zJ X M d k q (pc + 1) (x0 :: x1 :: .int v :: L) S n h Q) : zJ X M d k q pc (x0 :: x1 :: x :: L) (.int v :: S) n h Q := by
  intro D cy b0 cs l p e R s m args below meth c Qw H locs cells slots ls mc ms hF hS hL h1 h2 h3 h4 hf
  refine lv_istore_n hF.1 hF.2.1 hd rfl hL.has (show 2 < M.2.2.1 by rw [← hL.1]; simp) rfl (fun ls1 hl => ?_)
  have hk0 : ∀ (j : Nat) (w : Value), j + 1 = 2 → (x0 :: x1 :: x :: L)[j]? = some w → w.category = 1 := by
    intro j w e1 e2
    obtain rfl : j = 1 := by omega
    cases e2
    exact hc
  have hL1 := hL.st1 (i := 2) (v := .int v) (by simp) hk0 hl
  exact kk D cy b0 cs l p e R s m args below meth c Qw H locs cells slots ls1 mc ms hF hS hL1 h1 h2 h3 h4 hf
theorem z_istore3 {X : zX} {M : zM} {d k q pc : Nat} {L S : List Value} {n : Nat} {h : zH} {Q : zQ} {x0 x1 x2 x : Value} {v : Int32} (hd : decode M.2.1 pc = .ok (.istore_n 3, 1)) (hc : x2.category = 1) (kk : zJ X M d k q (pc + 1) (x0 :: x1 :: x2 :: .int v :: L) S n h Q) : zJ X M d k q pc (x0 :: x1 :: x2 :: x :: L) (.int v :: S) n h Q := by
  intro D cy b0 cs l p e R s m args below meth c Qw H locs cells slots ls mc ms hF hS hL h1 h2 h3 h4 hf
  refine lv_istore_n hF.1 hF.2.1 hd rfl hL.has (show 3 < M.2.2.1 by rw [← hL.1]; simp) rfl (fun ls1 hl => ?_)
  have hk0 : ∀ (j : Nat) (w : Value), j + 1 = 3 → (x0 :: x1 :: x2 :: x :: L)[j]? = some w → w.category = 1 := by
    intro j w e1 e2
    obtain rfl : j = 2 := by omega
    cases e2
    exact hc
  have hL1 := hL.st1 (i := 3) (v := .int v) (by simp) hk0 hl
  exact kk D cy b0 cs l p e R s m args below meth c Qw H locs cells slots ls1 mc ms hF hS hL1 h1 h2 h3 h4 hf
theorem z_istore4 {X : zX} {M : zM} {d k q pc : Nat} {L S : List Value} {n : Nat} {h : zH} {Q : zQ} {x0 x1 x2 x3 x : Value} {v : Int32} (hd : decode M.2.1 pc = .ok (.istore 4, 2)) (hc : x3.category = 1) (kk : zJ X M d k q (pc + 2) (x0 :: x1 :: x2 :: x3 :: .int v :: L) S n h Q) : zJ X M d k q pc (x0 :: x1 :: x2 :: x3 :: x :: L) (.int v :: S) n h Q := by
  intro D cy b0 cs l p e R s m args below meth c Qw H locs cells slots ls mc ms hF hS hL h1 h2 h3 h4 hf
  refine lv_istore hF.1 hF.2.1 hd hL.has (show 4 < M.2.2.1 by rw [← hL.1]; simp) rfl (fun ls1 hl => ?_)
  have hk0 : ∀ (j : Nat) (w : Value), j + 1 = 4 → (x0 :: x1 :: x2 :: x3 :: x :: L)[j]? = some w → w.category = 1 := by
    intro j w e1 e2
    obtain rfl : j = 3 := by omega
    cases e2
    exact hc
  have hL1 := hL.st1 (i := 4) (v := .int v) (by simp) hk0 hl
  exact kk D cy b0 cs l p e R s m args below meth c Qw H locs cells slots ls1 mc ms hF hS hL1 h1 h2 h3 h4 hf
theorem z_istore5 {X : zX} {M : zM} {d k q pc : Nat} {L S : List Value} {n : Nat} {h : zH} {Q : zQ} {x0 x1 x2 x3 x4 x : Value} {v : Int32} (hd : decode M.2.1 pc = .ok (.istore 5, 2)) (hc : x4.category = 1) (kk : zJ X M d k q (pc + 2) (x0 :: x1 :: x2 :: x3 :: x4 :: .int v :: L) S n h Q) : zJ X M d k q pc (x0 :: x1 :: x2 :: x3 :: x4 :: x :: L) (.int v :: S) n h Q := by
  intro D cy b0 cs l p e R s m args below meth c Qw H locs cells slots ls mc ms hF hS hL h1 h2 h3 h4 hf
  refine lv_istore hF.1 hF.2.1 hd hL.has (show 5 < M.2.2.1 by rw [← hL.1]; simp) rfl (fun ls1 hl => ?_)
  have hk0 : ∀ (j : Nat) (w : Value), j + 1 = 5 → (x0 :: x1 :: x2 :: x3 :: x4 :: x :: L)[j]? = some w → w.category = 1 := by
    intro j w e1 e2
    obtain rfl : j = 4 := by omega
    cases e2
    exact hc
  have hL1 := hL.st1 (i := 5) (v := .int v) (by simp) hk0 hl
  exact kk D cy b0 cs l p e R s m args below meth c Qw H locs cells slots ls1 mc ms hF hS hL1 h1 h2 h3 h4 hf
theorem z_istore6 {X : zX} {M : zM} {d k q pc : Nat} {L S : List Value} {n : Nat} {h : zH} {Q : zQ} {x0 x1 x2 x3 x4 x5 x : Value} {v : Int32} (hd : decode M.2.1 pc = .ok (.istore 6, 2)) (hc : x5.category = 1) (kk : zJ X M d k q (pc + 2) (x0 :: x1 :: x2 :: x3 :: x4 :: x5 :: .int v :: L) S n h Q) : zJ X M d k q pc (x0 :: x1 :: x2 :: x3 :: x4 :: x5 :: x :: L) (.int v :: S) n h Q := by
  intro D cy b0 cs l p e R s m args below meth c Qw H locs cells slots ls mc ms hF hS hL h1 h2 h3 h4 hf
  refine lv_istore hF.1 hF.2.1 hd hL.has (show 6 < M.2.2.1 by rw [← hL.1]; simp) rfl (fun ls1 hl => ?_)
  have hk0 : ∀ (j : Nat) (w : Value), j + 1 = 6 → (x0 :: x1 :: x2 :: x3 :: x4 :: x5 :: x :: L)[j]? = some w → w.category = 1 := by
    intro j w e1 e2
    obtain rfl : j = 5 := by omega
    cases e2
    exact hc
  have hL1 := hL.st1 (i := 6) (v := .int v) (by simp) hk0 hl
  exact kk D cy b0 cs l p e R s m args below meth c Qw H locs cells slots ls1 mc ms hF hS hL1 h1 h2 h3 h4 hf
theorem z_istore7 {X : zX} {M : zM} {d k q pc : Nat} {L S : List Value} {n : Nat} {h : zH} {Q : zQ} {x0 x1 x2 x3 x4 x5 x6 x : Value} {v : Int32} (hd : decode M.2.1 pc = .ok (.istore 7, 2)) (hc : x6.category = 1) (kk : zJ X M d k q (pc + 2) (x0 :: x1 :: x2 :: x3 :: x4 :: x5 :: x6 :: .int v :: L) S n h Q) : zJ X M d k q pc (x0 :: x1 :: x2 :: x3 :: x4 :: x5 :: x6 :: x :: L) (.int v :: S) n h Q := by
  intro D cy b0 cs l p e R s m args below meth c Qw H locs cells slots ls mc ms hF hS hL h1 h2 h3 h4 hf
  refine lv_istore hF.1 hF.2.1 hd hL.has (show 7 < M.2.2.1 by rw [← hL.1]; simp) rfl (fun ls1 hl => ?_)
  have hk0 : ∀ (j : Nat) (w : Value), j + 1 = 7 → (x0 :: x1 :: x2 :: x3 :: x4 :: x5 :: x6 :: x :: L)[j]? = some w → w.category = 1 := by
    intro j w e1 e2
    obtain rfl : j = 6 := by omega
    cases e2
    exact hc
  have hL1 := hL.st1 (i := 7) (v := .int v) (by simp) hk0 hl
  exact kk D cy b0 cs l p e R s m args below meth c Qw H locs cells slots ls1 mc ms hF hS hL1 h1 h2 h3 h4 hf
theorem z_istore8 {X : zX} {M : zM} {d k q pc : Nat} {L S : List Value} {n : Nat} {h : zH} {Q : zQ} {x0 x1 x2 x3 x4 x5 x6 x7 x : Value} {v : Int32} (hd : decode M.2.1 pc = .ok (.istore 8, 2)) (hc : x7.category = 1) (kk : zJ X M d k q (pc + 2) (x0 :: x1 :: x2 :: x3 :: x4 :: x5 :: x6 :: x7 :: .int v :: L) S n h Q) : zJ X M d k q pc (x0 :: x1 :: x2 :: x3 :: x4 :: x5 :: x6 :: x7 :: x :: L) (.int v :: S) n h Q := by
  intro D cy b0 cs l p e R s m args below meth c Qw H locs cells slots ls mc ms hF hS hL h1 h2 h3 h4 hf
  refine lv_istore hF.1 hF.2.1 hd hL.has (show 8 < M.2.2.1 by rw [← hL.1]; simp) rfl (fun ls1 hl => ?_)
  have hk0 : ∀ (j : Nat) (w : Value), j + 1 = 8 → (x0 :: x1 :: x2 :: x3 :: x4 :: x5 :: x6 :: x7 :: x :: L)[j]? = some w → w.category = 1 := by
    intro j w e1 e2
    obtain rfl : j = 7 := by omega
    cases e2
    exact hc
  have hL1 := hL.st1 (i := 8) (v := .int v) (by simp) hk0 hl
  exact kk D cy b0 cs l p e R s m args below meth c Qw H locs cells slots ls1 mc ms hF hS hL1 h1 h2 h3 h4 hf
theorem z_istore9 {X : zX} {M : zM} {d k q pc : Nat} {L S : List Value} {n : Nat} {h : zH} {Q : zQ} {x0 x1 x2 x3 x4 x5 x6 x7 x8 x : Value} {v : Int32} (hd : decode M.2.1 pc = .ok (.istore 9, 2)) (hc : x8.category = 1) (kk : zJ X M d k q (pc + 2) (x0 :: x1 :: x2 :: x3 :: x4 :: x5 :: x6 :: x7 :: x8 :: .int v :: L) S n h Q) : zJ X M d k q pc (x0 :: x1 :: x2 :: x3 :: x4 :: x5 :: x6 :: x7 :: x8 :: x :: L) (.int v :: S) n h Q := by
  intro D cy b0 cs l p e R s m args below meth c Qw H locs cells slots ls mc ms hF hS hL h1 h2 h3 h4 hf
  refine lv_istore hF.1 hF.2.1 hd hL.has (show 9 < M.2.2.1 by rw [← hL.1]; simp) rfl (fun ls1 hl => ?_)
  have hk0 : ∀ (j : Nat) (w : Value), j + 1 = 9 → (x0 :: x1 :: x2 :: x3 :: x4 :: x5 :: x6 :: x7 :: x8 :: x :: L)[j]? = some w → w.category = 1 := by
    intro j w e1 e2
    obtain rfl : j = 8 := by omega
    cases e2
    exact hc
  have hL1 := hL.st1 (i := 9) (v := .int v) (by simp) hk0 hl
  exact kk D cy b0 cs l p e R s m args below meth c Qw H locs cells slots ls1 mc ms hF hS hL1 h1 h2 h3 h4 hf
theorem z_istore10 {X : zX} {M : zM} {d k q pc : Nat} {L S : List Value} {n : Nat} {h : zH} {Q : zQ} {x0 x1 x2 x3 x4 x5 x6 x7 x8 x9 x : Value} {v : Int32} (hd : decode M.2.1 pc = .ok (.istore 10, 2)) (hc : x9.category = 1) (kk : zJ X M d k q (pc + 2) (x0 :: x1 :: x2 :: x3 :: x4 :: x5 :: x6 :: x7 :: x8 :: x9 :: .int v :: L) S n h Q) : zJ X M d k q pc (x0 :: x1 :: x2 :: x3 :: x4 :: x5 :: x6 :: x7 :: x8 :: x9 :: x :: L) (.int v :: S) n h Q := by
  intro D cy b0 cs l p e R s m args below meth c Qw H locs cells slots ls mc ms hF hS hL h1 h2 h3 h4 hf
  refine lv_istore hF.1 hF.2.1 hd hL.has (show 10 < M.2.2.1 by rw [← hL.1]; simp) rfl (fun ls1 hl => ?_)
  have hk0 : ∀ (j : Nat) (w : Value), j + 1 = 10 → (x0 :: x1 :: x2 :: x3 :: x4 :: x5 :: x6 :: x7 :: x8 :: x9 :: x :: L)[j]? = some w → w.category = 1 := by
    intro j w e1 e2
    obtain rfl : j = 9 := by omega
    cases e2
    exact hc
  have hL1 := hL.st1 (i := 10) (v := .int v) (by simp) hk0 hl
  exact kk D cy b0 cs l p e R s m args below meth c Qw H locs cells slots ls1 mc ms hF hS hL1 h1 h2 h3 h4 hf
theorem z_istore11 {X : zX} {M : zM} {d k q pc : Nat} {L S : List Value} {n : Nat} {h : zH} {Q : zQ} {x0 x1 x2 x3 x4 x5 x6 x7 x8 x9 x10 x : Value} {v : Int32} (hd : decode M.2.1 pc = .ok (.istore 11, 2)) (hc : x10.category = 1) (kk : zJ X M d k q (pc + 2) (x0 :: x1 :: x2 :: x3 :: x4 :: x5 :: x6 :: x7 :: x8 :: x9 :: x10 :: .int v :: L) S n h Q) : zJ X M d k q pc (x0 :: x1 :: x2 :: x3 :: x4 :: x5 :: x6 :: x7 :: x8 :: x9 :: x10 :: x :: L) (.int v :: S) n h Q := by
  intro D cy b0 cs l p e R s m args below meth c Qw H locs cells slots ls mc ms hF hS hL h1 h2 h3 h4 hf
  refine lv_istore hF.1 hF.2.1 hd hL.has (show 11 < M.2.2.1 by rw [← hL.1]; simp) rfl (fun ls1 hl => ?_)
  have hk0 : ∀ (j : Nat) (w : Value), j + 1 = 11 → (x0 :: x1 :: x2 :: x3 :: x4 :: x5 :: x6 :: x7 :: x8 :: x9 :: x10 :: x :: L)[j]? = some w → w.category = 1 := by
    intro j w e1 e2
    obtain rfl : j = 10 := by omega
    cases e2
    exact hc
  have hL1 := hL.st1 (i := 11) (v := .int v) (by simp) hk0 hl
  exact kk D cy b0 cs l p e R s m args below meth c Qw H locs cells slots ls1 mc ms hF hS hL1 h1 h2 h3 h4 hf
theorem z_astore0 {X : zX} {M : zM} {d k q pc : Nat} {L S : List Value} {n : Nat} {h : zH} {Q : zQ} {x : Value} {v : Nat} (hd : decode M.2.1 pc = .ok (.astore_n 0, 1)) (kk : zJ X M d k q (pc + 1) (.ref v :: L) S n h Q) : zJ X M d k q pc (x :: L) (.ref v :: S) n h Q := by
  intro D cy b0 cs l p e R s m args below meth c Qw H locs cells slots ls mc ms hF hS hL h1 h2 h3 h4 hf
  refine lv_astore_n hF.1 hF.2.1 hd rfl hL.has (show 0 < M.2.2.1 by rw [← hL.1]; simp) rfl (fun ls1 hl => ?_)
  have hk0 : ∀ (j : Nat) (w : Value), j + 1 = 0 → (x :: L)[j]? = some w → w.category = 1 := fun j w e _ => by omega
  have hL1 := hL.st1 (i := 0) (v := .ref v) (by simp) hk0 hl
  exact kk D cy b0 cs l p e R s m args below meth c Qw H locs cells slots ls1 mc ms hF hS hL1 h1 h2 h3 h4 hf
theorem z_astore1 {X : zX} {M : zM} {d k q pc : Nat} {L S : List Value} {n : Nat} {h : zH} {Q : zQ} {x0 x : Value} {v : Nat} (hd : decode M.2.1 pc = .ok (.astore_n 1, 1)) (hc : x0.category = 1) (kk : zJ X M d k q (pc + 1) (x0 :: .ref v :: L) S n h Q) : zJ X M d k q pc (x0 :: x :: L) (.ref v :: S) n h Q := by
  intro D cy b0 cs l p e R s m args below meth c Qw H locs cells slots ls mc ms hF hS hL h1 h2 h3 h4 hf
  refine lv_astore_n hF.1 hF.2.1 hd rfl hL.has (show 1 < M.2.2.1 by rw [← hL.1]; simp) rfl (fun ls1 hl => ?_)
  have hk0 : ∀ (j : Nat) (w : Value), j + 1 = 1 → (x0 :: x :: L)[j]? = some w → w.category = 1 := by
    intro j w e1 e2
    obtain rfl : j = 0 := by omega
    cases e2
    exact hc
  have hL1 := hL.st1 (i := 1) (v := .ref v) (by simp) hk0 hl
  exact kk D cy b0 cs l p e R s m args below meth c Qw H locs cells slots ls1 mc ms hF hS hL1 h1 h2 h3 h4 hf
theorem z_astore2 {X : zX} {M : zM} {d k q pc : Nat} {L S : List Value} {n : Nat} {h : zH} {Q : zQ} {x0 x1 x : Value} {v : Nat} (hd : decode M.2.1 pc = .ok (.astore_n 2, 1)) (hc : x1.category = 1) (kk : zJ X M d k q (pc + 1) (x0 :: x1 :: .ref v :: L) S n h Q) : zJ X M d k q pc (x0 :: x1 :: x :: L) (.ref v :: S) n h Q := by
  intro D cy b0 cs l p e R s m args below meth c Qw H locs cells slots ls mc ms hF hS hL h1 h2 h3 h4 hf
  refine lv_astore_n hF.1 hF.2.1 hd rfl hL.has (show 2 < M.2.2.1 by rw [← hL.1]; simp) rfl (fun ls1 hl => ?_)
  have hk0 : ∀ (j : Nat) (w : Value), j + 1 = 2 → (x0 :: x1 :: x :: L)[j]? = some w → w.category = 1 := by
    intro j w e1 e2
    obtain rfl : j = 1 := by omega
    cases e2
    exact hc
  have hL1 := hL.st1 (i := 2) (v := .ref v) (by simp) hk0 hl
  exact kk D cy b0 cs l p e R s m args below meth c Qw H locs cells slots ls1 mc ms hF hS hL1 h1 h2 h3 h4 hf
theorem z_astore3 {X : zX} {M : zM} {d k q pc : Nat} {L S : List Value} {n : Nat} {h : zH} {Q : zQ} {x0 x1 x2 x : Value} {v : Nat} (hd : decode M.2.1 pc = .ok (.astore_n 3, 1)) (hc : x2.category = 1) (kk : zJ X M d k q (pc + 1) (x0 :: x1 :: x2 :: .ref v :: L) S n h Q) : zJ X M d k q pc (x0 :: x1 :: x2 :: x :: L) (.ref v :: S) n h Q := by
  intro D cy b0 cs l p e R s m args below meth c Qw H locs cells slots ls mc ms hF hS hL h1 h2 h3 h4 hf
  refine lv_astore_n hF.1 hF.2.1 hd rfl hL.has (show 3 < M.2.2.1 by rw [← hL.1]; simp) rfl (fun ls1 hl => ?_)
  have hk0 : ∀ (j : Nat) (w : Value), j + 1 = 3 → (x0 :: x1 :: x2 :: x :: L)[j]? = some w → w.category = 1 := by
    intro j w e1 e2
    obtain rfl : j = 2 := by omega
    cases e2
    exact hc
  have hL1 := hL.st1 (i := 3) (v := .ref v) (by simp) hk0 hl
  exact kk D cy b0 cs l p e R s m args below meth c Qw H locs cells slots ls1 mc ms hF hS hL1 h1 h2 h3 h4 hf
theorem z_astore4 {X : zX} {M : zM} {d k q pc : Nat} {L S : List Value} {n : Nat} {h : zH} {Q : zQ} {x0 x1 x2 x3 x : Value} {v : Nat} (hd : decode M.2.1 pc = .ok (.astore 4, 2)) (hc : x3.category = 1) (kk : zJ X M d k q (pc + 2) (x0 :: x1 :: x2 :: x3 :: .ref v :: L) S n h Q) : zJ X M d k q pc (x0 :: x1 :: x2 :: x3 :: x :: L) (.ref v :: S) n h Q := by
  intro D cy b0 cs l p e R s m args below meth c Qw H locs cells slots ls mc ms hF hS hL h1 h2 h3 h4 hf
  refine lv_astore hF.1 hF.2.1 hd hL.has (show 4 < M.2.2.1 by rw [← hL.1]; simp) rfl (fun ls1 hl => ?_)
  have hk0 : ∀ (j : Nat) (w : Value), j + 1 = 4 → (x0 :: x1 :: x2 :: x3 :: x :: L)[j]? = some w → w.category = 1 := by
    intro j w e1 e2
    obtain rfl : j = 3 := by omega
    cases e2
    exact hc
  have hL1 := hL.st1 (i := 4) (v := .ref v) (by simp) hk0 hl
  exact kk D cy b0 cs l p e R s m args below meth c Qw H locs cells slots ls1 mc ms hF hS hL1 h1 h2 h3 h4 hf
theorem z_lstore0 {X : zX} {M : zM} {d k q pc : Nat} {L S : List Value} {n : Nat} {h : zH} {Q : zQ} {x y : Value} {v : Int64} (hd : decode M.2.1 pc = .ok (.lstore_n 0, 1)) (kk : zJ X M d k q (pc + 1) (.long v :: zu :: L) S n h Q) : zJ X M d k q pc (x :: y :: L) (.long v :: S) n h Q := by
  intro D cy b0 cs l p e R s m args below meth c Qw H locs cells slots ls mc ms hF hS hL h1 h2 h3 h4 hf
  refine lv_lstore_n hF.1 hF.2.1 hd rfl hL.has (show 0 + 1 < M.2.2.1 by rw [← hL.1]; simp) rfl (fun ls1 hl => ?_)
  have hk0 : ∀ (j : Nat) (w : Value), j + 1 = 0 → (x :: y :: L)[j]? = some w → w.category = 1 := fun j w e _ => by omega
  have hL1 := hL.st2 (i := 0) (v := .long v) (by simp) hk0 hl
  exact kk D cy b0 cs l p e R s m args below meth c Qw H locs cells slots ls1 mc ms hF hS hL1 h1 h2 h3 h4 hf
theorem z_lstore1 {X : zX} {M : zM} {d k q pc : Nat} {L S : List Value} {n : Nat} {h : zH} {Q : zQ} {x0 x y : Value} {v : Int64} (hd : decode M.2.1 pc = .ok (.lstore_n 1, 1)) (hc : x0.category = 1) (kk : zJ X M d k q (pc + 1) (x0 :: .long v :: zu :: L) S n h Q) : zJ X M d k q pc (x0 :: x :: y :: L) (.long v :: S) n h Q := by
  intro D cy b0 cs l p e R s m args below meth c Qw H locs cells slots ls mc ms hF hS hL h1 h2 h3 h4 hf
  refine lv_lstore_n hF.1 hF.2.1 hd rfl hL.has (show 1 + 1 < M.2.2.1 by rw [← hL.1]; simp) rfl (fun ls1 hl => ?_)
  have hk0 : ∀ (j : Nat) (w : Value), j + 1 = 1 → (x0 :: x :: y :: L)[j]? = some w → w.category = 1 := by
    intro j w e1 e2
    obtain rfl : j = 0 := by omega
    cases e2
    exact hc
  have hL1 := hL.st2 (i := 1) (v := .long v) (by simp) hk0 hl
  exact kk D cy b0 cs l p e R s m args below meth c Qw H locs cells slots ls1 mc ms hF hS hL1 h1 h2 h3 h4 hf
theorem z_lstore2 {X : zX} {M : zM} {d k q pc : Nat} {L S : List Value} {n : Nat} {h : zH} {Q : zQ} {x0 x1 x y : Value} {v : Int64} (hd : decode M.2.1 pc = .ok (.lstore_n 2, 1)) (hc : x1.category = 1) (kk : zJ X M d k q (pc + 1) (x0 :: x1 :: .long v :: zu :: L) S n h Q) : zJ X M d k q pc (x0 :: x1 :: x :: y :: L) (.long v :: S) n h Q := by
  intro D cy b0 cs l p e R s m args below meth c Qw H locs cells slots ls mc ms hF hS hL h1 h2 h3 h4 hf
  refine lv_lstore_n hF.1 hF.2.1 hd rfl hL.has (show 2 + 1 < M.2.2.1 by rw [← hL.1]; simp) rfl (fun ls1 hl => ?_)
  have hk0 : ∀ (j : Nat) (w : Value), j + 1 = 2 → (x0 :: x1 :: x :: y :: L)[j]? = some w → w.category = 1 := by
    intro j w e1 e2
    obtain rfl : j = 1 := by omega
    cases e2
    exact hc
  have hL1 := hL.st2 (i := 2) (v := .long v) (by simp) hk0 hl
  exact kk D cy b0 cs l p e R s m args below meth c Qw H locs cells slots ls1 mc ms hF hS hL1 h1 h2 h3 h4 hf
theorem z_lstore3 {X : zX} {M : zM} {d k q pc : Nat} {L S : List Value} {n : Nat} {h : zH} {Q : zQ} {x0 x1 x2 x y : Value} {v : Int64} (hd : decode M.2.1 pc = .ok (.lstore_n 3, 1)) (hc : x2.category = 1) (kk : zJ X M d k q (pc + 1) (x0 :: x1 :: x2 :: .long v :: zu :: L) S n h Q) : zJ X M d k q pc (x0 :: x1 :: x2 :: x :: y :: L) (.long v :: S) n h Q := by
  intro D cy b0 cs l p e R s m args below meth c Qw H locs cells slots ls mc ms hF hS hL h1 h2 h3 h4 hf
  refine lv_lstore_n hF.1 hF.2.1 hd rfl hL.has (show 3 + 1 < M.2.2.1 by rw [← hL.1]; simp) rfl (fun ls1 hl => ?_)
  have hk0 : ∀ (j : Nat) (w : Value), j + 1 = 3 → (x0 :: x1 :: x2 :: x :: y :: L)[j]? = some w → w.category = 1 := by
    intro j w e1 e2
    obtain rfl : j = 2 := by omega
    cases e2
    exact hc
  have hL1 := hL.st2 (i := 3) (v := .long v) (by simp) hk0 hl
  exact kk D cy b0 cs l p e R s m args below meth c Qw H locs cells slots ls1 mc ms hF hS hL1 h1 h2 h3 h4 hf
theorem z_lstore4 {X : zX} {M : zM} {d k q pc : Nat} {L S : List Value} {n : Nat} {h : zH} {Q : zQ} {x0 x1 x2 x3 x y : Value} {v : Int64} (hd : decode M.2.1 pc = .ok (.lstore 4, 2)) (hc : x3.category = 1) (kk : zJ X M d k q (pc + 2) (x0 :: x1 :: x2 :: x3 :: .long v :: zu :: L) S n h Q) : zJ X M d k q pc (x0 :: x1 :: x2 :: x3 :: x :: y :: L) (.long v :: S) n h Q := by
  intro D cy b0 cs l p e R s m args below meth c Qw H locs cells slots ls mc ms hF hS hL h1 h2 h3 h4 hf
  refine lv_lstore hF.1 hF.2.1 hd hL.has (show 4 + 1 < M.2.2.1 by rw [← hL.1]; simp) rfl (fun ls1 hl => ?_)
  have hk0 : ∀ (j : Nat) (w : Value), j + 1 = 4 → (x0 :: x1 :: x2 :: x3 :: x :: y :: L)[j]? = some w → w.category = 1 := by
    intro j w e1 e2
    obtain rfl : j = 3 := by omega
    cases e2
    exact hc
  have hL1 := hL.st2 (i := 4) (v := .long v) (by simp) hk0 hl
  exact kk D cy b0 cs l p e R s m args below meth c Qw H locs cells slots ls1 mc ms hF hS hL1 h1 h2 h3 h4 hf
theorem z_lstore5 {X : zX} {M : zM} {d k q pc : Nat} {L S : List Value} {n : Nat} {h : zH} {Q : zQ} {x0 x1 x2 x3 x4 x y : Value} {v : Int64} (hd : decode M.2.1 pc = .ok (.lstore 5, 2)) (hc : x4.category = 1) (kk : zJ X M d k q (pc + 2) (x0 :: x1 :: x2 :: x3 :: x4 :: .long v :: zu :: L) S n h Q) : zJ X M d k q pc (x0 :: x1 :: x2 :: x3 :: x4 :: x :: y :: L) (.long v :: S) n h Q := by
  intro D cy b0 cs l p e R s m args below meth c Qw H locs cells slots ls mc ms hF hS hL h1 h2 h3 h4 hf
  refine lv_lstore hF.1 hF.2.1 hd hL.has (show 5 + 1 < M.2.2.1 by rw [← hL.1]; simp) rfl (fun ls1 hl => ?_)
  have hk0 : ∀ (j : Nat) (w : Value), j + 1 = 5 → (x0 :: x1 :: x2 :: x3 :: x4 :: x :: y :: L)[j]? = some w → w.category = 1 := by
    intro j w e1 e2
    obtain rfl : j = 4 := by omega
    cases e2
    exact hc
  have hL1 := hL.st2 (i := 5) (v := .long v) (by simp) hk0 hl
  exact kk D cy b0 cs l p e R s m args below meth c Qw H locs cells slots ls1 mc ms hF hS hL1 h1 h2 h3 h4 hf
theorem z_lstore6 {X : zX} {M : zM} {d k q pc : Nat} {L S : List Value} {n : Nat} {h : zH} {Q : zQ} {x0 x1 x2 x3 x4 x5 x y : Value} {v : Int64} (hd : decode M.2.1 pc = .ok (.lstore 6, 2)) (hc : x5.category = 1) (kk : zJ X M d k q (pc + 2) (x0 :: x1 :: x2 :: x3 :: x4 :: x5 :: .long v :: zu :: L) S n h Q) : zJ X M d k q pc (x0 :: x1 :: x2 :: x3 :: x4 :: x5 :: x :: y :: L) (.long v :: S) n h Q := by
  intro D cy b0 cs l p e R s m args below meth c Qw H locs cells slots ls mc ms hF hS hL h1 h2 h3 h4 hf
  refine lv_lstore hF.1 hF.2.1 hd hL.has (show 6 + 1 < M.2.2.1 by rw [← hL.1]; simp) rfl (fun ls1 hl => ?_)
  have hk0 : ∀ (j : Nat) (w : Value), j + 1 = 6 → (x0 :: x1 :: x2 :: x3 :: x4 :: x5 :: x :: y :: L)[j]? = some w → w.category = 1 := by
    intro j w e1 e2
    obtain rfl : j = 5 := by omega
    cases e2
    exact hc
  have hL1 := hL.st2 (i := 6) (v := .long v) (by simp) hk0 hl
  exact kk D cy b0 cs l p e R s m args below meth c Qw H locs cells slots ls1 mc ms hF hS hL1 h1 h2 h3 h4 hf
theorem z_lstore7 {X : zX} {M : zM} {d k q pc : Nat} {L S : List Value} {n : Nat} {h : zH} {Q : zQ} {x0 x1 x2 x3 x4 x5 x6 x y : Value} {v : Int64} (hd : decode M.2.1 pc = .ok (.lstore 7, 2)) (hc : x6.category = 1) (kk : zJ X M d k q (pc + 2) (x0 :: x1 :: x2 :: x3 :: x4 :: x5 :: x6 :: .long v :: zu :: L) S n h Q) : zJ X M d k q pc (x0 :: x1 :: x2 :: x3 :: x4 :: x5 :: x6 :: x :: y :: L) (.long v :: S) n h Q := by
  intro D cy b0 cs l p e R s m args below meth c Qw H locs cells slots ls mc ms hF hS hL h1 h2 h3 h4 hf
  refine lv_lstore hF.1 hF.2.1 hd hL.has (show 7 + 1 < M.2.2.1 by rw [← hL.1]; simp) rfl (fun ls1 hl => ?_)
  have hk0 : ∀ (j : Nat) (w : Value), j + 1 = 7 → (x0 :: x1 :: x2 :: x3 :: x4 :: x5 :: x6 :: x :: y :: L)[j]? = some w → w.category = 1 := by
    intro j w e1 e2
    obtain rfl : j = 6 := by omega
    cases e2
    exact hc
  have hL1 := hL.st2 (i := 7) (v := .long v) (by simp) hk0 hl
  exact kk D cy b0 cs l p e R s m args below meth c Qw H locs cells slots ls1 mc ms hF hS hL1 h1 h2 h3 h4 hf
theorem z_iinc0 {X : zX} {M : zM} {d k q pc : Nat} {L S : List Value} {n : Nat} {h : zH} {Q : zQ} {x v : Int32} {z : Int} (hd : decode M.2.1 pc = .ok (.iinc 0 z, 3)) (hv : x + Int32.ofInt z = v) (kk : zJ X M d k q (pc + 3) (.int v :: L) S n h Q) : zJ X M d k q pc (.int x :: L) S n h Q := by
  intro D cy b0 cs l p e R s m args below meth c Qw H locs cells slots ls mc ms hF hS hL h1 h2 h3 h4 hf
  obtain ⟨kx, hkx⟩ := List.getElem?_of_mem (zasc_mem (b0 := b0) (cs := cs) (L := .int x :: L) (i := 0) (v := .int x) rfl (by intro z; cases z))
  refine lv_iinc hF.1 hF.2.1 hd hL.has hkx hv (show 0 < M.2.2.1 by rw [← hL.1]; simp) rfl (fun ls1 hl => ?_)
  have hk0 : ∀ (j : Nat) (w : Value), j + 1 = 0 → (.int x :: L)[j]? = some w → w.category = 1 := fun j w e _ => by omega
  have hL1 := hL.st1 (i := 0) (v := .int v) (by simp) hk0 hl
  exact kk D cy b0 cs l p e R s m args below meth c Qw H locs cells slots ls1 mc ms hF hS hL1 h1 h2 h3 h4 hf
theorem z_iinc1 {X : zX} {M : zM} {d k q pc : Nat} {L S : List Value} {n : Nat} {h : zH} {Q : zQ} {x0  : Value} {x v : Int32} {z : Int} (hd : decode M.2.1 pc = .ok (.iinc 1 z, 3)) (hc : x0.category = 1) (hv : x + Int32.ofInt z = v) (kk : zJ X M d k q (pc + 3) (x0 :: .int v :: L) S n h Q) : zJ X M d k q pc (x0 :: .int x :: L) S n h Q := by
  intro D cy b0 cs l p e R s m args below meth c Qw H locs cells slots ls mc ms hF hS hL h1 h2 h3 h4 hf
  obtain ⟨kx, hkx⟩ := List.getElem?_of_mem (zasc_mem (b0 := b0) (cs := cs) (L := x0 :: .int x :: L) (i := 1) (v := .int x) rfl (by intro z; cases z))
  refine lv_iinc hF.1 hF.2.1 hd hL.has hkx hv (show 1 < M.2.2.1 by rw [← hL.1]; simp) rfl (fun ls1 hl => ?_)
  have hk0 : ∀ (j : Nat) (w : Value), j + 1 = 1 → (x0 :: .int x :: L)[j]? = some w → w.category = 1 := by
    intro j w e1 e2
    obtain rfl : j = 0 := by omega
    cases e2
    exact hc
  have hL1 := hL.st1 (i := 1) (v := .int v) (by simp) hk0 hl
  exact kk D cy b0 cs l p e R s m args below meth c Qw H locs cells slots ls1 mc ms hF hS hL1 h1 h2 h3 h4 hf
theorem z_iinc2 {X : zX} {M : zM} {d k q pc : Nat} {L S : List Value} {n : Nat} {h : zH} {Q : zQ} {x0 x1  : Value} {x v : Int32} {z : Int} (hd : decode M.2.1 pc = .ok (.iinc 2 z, 3)) (hc : x1.category = 1) (hv : x + Int32.ofInt z = v) (kk : zJ X M d k q (pc + 3) (x0 :: x1 :: .int v :: L) S n h Q) : zJ X M d k q pc (x0 :: x1 :: .int x :: L) S n h Q := by
  intro D cy b0 cs l p e R s m args below meth c Qw H locs cells slots ls mc ms hF hS hL h1 h2 h3 h4 hf
  obtain ⟨kx, hkx⟩ := List.getElem?_of_mem (zasc_mem (b0 := b0) (cs := cs) (L := x0 :: x1 :: .int x :: L) (i := 2) (v := .int x) rfl (by intro z; cases z))
  refine lv_iinc hF.1 hF.2.1 hd hL.has hkx hv (show 2 < M.2.2.1 by rw [← hL.1]; simp) rfl (fun ls1 hl => ?_)
  have hk0 : ∀ (j : Nat) (w : Value), j + 1 = 2 → (x0 :: x1 :: .int x :: L)[j]? = some w → w.category = 1 := by
    intro j w e1 e2
    obtain rfl : j = 1 := by omega
    cases e2
    exact hc
  have hL1 := hL.st1 (i := 2) (v := .int v) (by simp) hk0 hl
  exact kk D cy b0 cs l p e R s m args below meth c Qw H locs cells slots ls1 mc ms hF hS hL1 h1 h2 h3 h4 hf
theorem z_iinc3 {X : zX} {M : zM} {d k q pc : Nat} {L S : List Value} {n : Nat} {h : zH} {Q : zQ} {x0 x1 x2  : Value} {x v : Int32} {z : Int} (hd : decode M.2.1 pc = .ok (.iinc 3 z, 3)) (hc : x2.category = 1) (hv : x + Int32.ofInt z = v) (kk : zJ X M d k q (pc + 3) (x0 :: x1 :: x2 :: .int v :: L) S n h Q) : zJ X M d k q pc (x0 :: x1 :: x2 :: .int x :: L) S n h Q := by
  intro D cy b0 cs l p e R s m args below meth c Qw H locs cells slots ls mc ms hF hS hL h1 h2 h3 h4 hf
  obtain ⟨kx, hkx⟩ := List.getElem?_of_mem (zasc_mem (b0 := b0) (cs := cs) (L := x0 :: x1 :: x2 :: .int x :: L) (i := 3) (v := .int x) rfl (by intro z; cases z))
  refine lv_iinc hF.1 hF.2.1 hd hL.has hkx hv (show 3 < M.2.2.1 by rw [← hL.1]; simp) rfl (fun ls1 hl => ?_)
  have hk0 : ∀ (j : Nat) (w : Value), j + 1 = 3 → (x0 :: x1 :: x2 :: .int x :: L)[j]? = some w → w.category = 1 := by
    intro j w e1 e2
    obtain rfl : j = 2 := by omega
    cases e2
    exact hc
  have hL1 := hL.st1 (i := 3) (v := .int v) (by simp) hk0 hl
  exact kk D cy b0 cs l p e R s m args below meth c Qw H locs cells slots ls1 mc ms hF hS hL1 h1 h2 h3 h4 hf
theorem z_iinc4 {X : zX} {M : zM} {d k q pc : Nat} {L S : List Value} {n : Nat} {h : zH} {Q : zQ} {x0 x1 x2 x3  : Value} {x v : Int32} {z : Int} (hd : decode M.2.1 pc = .ok (.iinc 4 z, 3)) (hc : x3.category = 1) (hv : x + Int32.ofInt z = v) (kk : zJ X M d k q (pc + 3) (x0 :: x1 :: x2 :: x3 :: .int v :: L) S n h Q) : zJ X M d k q pc (x0 :: x1 :: x2 :: x3 :: .int x :: L) S n h Q := by
  intro D cy b0 cs l p e R s m args below meth c Qw H locs cells slots ls mc ms hF hS hL h1 h2 h3 h4 hf
  obtain ⟨kx, hkx⟩ := List.getElem?_of_mem (zasc_mem (b0 := b0) (cs := cs) (L := x0 :: x1 :: x2 :: x3 :: .int x :: L) (i := 4) (v := .int x) rfl (by intro z; cases z))
  refine lv_iinc hF.1 hF.2.1 hd hL.has hkx hv (show 4 < M.2.2.1 by rw [← hL.1]; simp) rfl (fun ls1 hl => ?_)
  have hk0 : ∀ (j : Nat) (w : Value), j + 1 = 4 → (x0 :: x1 :: x2 :: x3 :: .int x :: L)[j]? = some w → w.category = 1 := by
    intro j w e1 e2
    obtain rfl : j = 3 := by omega
    cases e2
    exact hc
  have hL1 := hL.st1 (i := 4) (v := .int v) (by simp) hk0 hl
  exact kk D cy b0 cs l p e R s m args below meth c Qw H locs cells slots ls1 mc ms hF hS hL1 h1 h2 h3 h4 hf
theorem z_iinc5 {X : zX} {M : zM} {d k q pc : Nat} {L S : List Value} {n : Nat} {h : zH} {Q : zQ} {x0 x1 x2 x3 x4  : Value} {x v : Int32} {z : Int} (hd : decode M.2.1 pc = .ok (.iinc 5 z, 3)) (hc : x4.category = 1) (hv : x + Int32.ofInt z = v) (kk : zJ X M d k q (pc + 3) (x0 :: x1 :: x2 :: x3 :: x4 :: .int v :: L) S n h Q) : zJ X M d k q pc (x0 :: x1 :: x2 :: x3 :: x4 :: .int x :: L) S n h Q := by
  intro D cy b0 cs l p e R s m args below meth c Qw H locs cells slots ls mc ms hF hS hL h1 h2 h3 h4 hf
  obtain ⟨kx, hkx⟩ := List.getElem?_of_mem (zasc_mem (b0 := b0) (cs := cs) (L := x0 :: x1 :: x2 :: x3 :: x4 :: .int x :: L) (i := 5) (v := .int x) rfl (by intro z; cases z))
  refine lv_iinc hF.1 hF.2.1 hd hL.has hkx hv (show 5 < M.2.2.1 by rw [← hL.1]; simp) rfl (fun ls1 hl => ?_)
  have hk0 : ∀ (j : Nat) (w : Value), j + 1 = 5 → (x0 :: x1 :: x2 :: x3 :: x4 :: .int x :: L)[j]? = some w → w.category = 1 := by
    intro j w e1 e2
    obtain rfl : j = 4 := by omega
    cases e2
    exact hc
  have hL1 := hL.st1 (i := 5) (v := .int v) (by simp) hk0 hl
  exact kk D cy b0 cs l p e R s m args below meth c Qw H locs cells slots ls1 mc ms hF hS hL1 h1 h2 h3 h4 hf
theorem z_iinc6 {X : zX} {M : zM} {d k q pc : Nat} {L S : List Value} {n : Nat} {h : zH} {Q : zQ} {x0 x1 x2 x3 x4 x5  : Value} {x v : Int32} {z : Int} (hd : decode M.2.1 pc = .ok (.iinc 6 z, 3)) (hc : x5.category = 1) (hv : x + Int32.ofInt z = v) (kk : zJ X M d k q (pc + 3) (x0 :: x1 :: x2 :: x3 :: x4 :: x5 :: .int v :: L) S n h Q) : zJ X M d k q pc (x0 :: x1 :: x2 :: x3 :: x4 :: x5 :: .int x :: L) S n h Q := by
  intro D cy b0 cs l p e R s m args below meth c Qw H locs cells slots ls mc ms hF hS hL h1 h2 h3 h4 hf
  obtain ⟨kx, hkx⟩ := List.getElem?_of_mem (zasc_mem (b0 := b0) (cs := cs) (L := x0 :: x1 :: x2 :: x3 :: x4 :: x5 :: .int x :: L) (i := 6) (v := .int x) rfl (by intro z; cases z))
  refine lv_iinc hF.1 hF.2.1 hd hL.has hkx hv (show 6 < M.2.2.1 by rw [← hL.1]; simp) rfl (fun ls1 hl => ?_)
  have hk0 : ∀ (j : Nat) (w : Value), j + 1 = 6 → (x0 :: x1 :: x2 :: x3 :: x4 :: x5 :: .int x :: L)[j]? = some w → w.category = 1 := by
    intro j w e1 e2
    obtain rfl : j = 5 := by omega
    cases e2
    exact hc
  have hL1 := hL.st1 (i := 6) (v := .int v) (by simp) hk0 hl
  exact kk D cy b0 cs l p e R s m args below meth c Qw H locs cells slots ls1 mc ms hF hS hL1 h1 h2 h3 h4 hf
theorem z_iinc7 {X : zX} {M : zM} {d k q pc : Nat} {L S : List Value} {n : Nat} {h : zH} {Q : zQ} {x0 x1 x2 x3 x4 x5 x6  : Value} {x v : Int32} {z : Int} (hd : decode M.2.1 pc = .ok (.iinc 7 z, 3)) (hc : x6.category = 1) (hv : x + Int32.ofInt z = v) (kk : zJ X M d k q (pc + 3) (x0 :: x1 :: x2 :: x3 :: x4 :: x5 :: x6 :: .int v :: L) S n h Q) : zJ X M d k q pc (x0 :: x1 :: x2 :: x3 :: x4 :: x5 :: x6 :: .int x :: L) S n h Q := by
  intro D cy b0 cs l p e R s m args below meth c Qw H locs cells slots ls mc ms hF hS hL h1 h2 h3 h4 hf
  obtain ⟨kx, hkx⟩ := List.getElem?_of_mem (zasc_mem (b0 := b0) (cs := cs) (L := x0 :: x1 :: x2 :: x3 :: x4 :: x5 :: x6 :: .int x :: L) (i := 7) (v := .int x) rfl (by intro z; cases z))
  refine lv_iinc hF.1 hF.2.1 hd hL.has hkx hv (show 7 < M.2.2.1 by rw [← hL.1]; simp) rfl (fun ls1 hl => ?_)
  have hk0 : ∀ (j : Nat) (w : Value), j + 1 = 7 → (x0 :: x1 :: x2 :: x3 :: x4 :: x5 :: x6 :: .int x :: L)[j]? = some w → w.category = 1 := by
    intro j w e1 e2
    obtain rfl : j = 6 := by omega
    cases e2
    exact hc
  have hL1 := hL.st1 (i := 7) (v := .int v) (by simp) hk0 hl
  exact kk D cy b0 cs l p e R s m args below meth c Qw H locs cells slots ls1 mc ms hF hS hL1 h1 h2 h3 h4 hf
theorem z_iinc8 {X : zX} {M : zM} {d k q pc : Nat} {L S : List Value} {n : Nat} {h : zH} {Q : zQ} {x0 x1 x2 x3 x4 x5 x6 x7  : Value} {x v : Int32} {z : Int} (hd : decode M.2.1 pc = .ok (.iinc 8 z, 3)) (hc : x7.category = 1) (hv : x + Int32.ofInt z = v) (kk : zJ X M d k q (pc + 3) (x0 :: x1 :: x2 :: x3 :: x4 :: x5 :: x6 :: x7 :: .int v :: L) S n h Q) : zJ X M d k q pc (x0 :: x1 :: x2 :: x3 :: x4 :: x5 :: x6 :: x7 :: .int x :: L) S n h Q := by
  intro D cy b0 cs l p e R s m args below meth c Qw H locs cells slots ls mc ms hF hS hL h1 h2 h3 h4 hf
  obtain ⟨kx, hkx⟩ := List.getElem?_of_mem (zasc_mem (b0 := b0) (cs := cs) (L := x0 :: x1 :: x2 :: x3 :: x4 :: x5 :: x6 :: x7 :: .int x :: L) (i := 8) (v := .int x) rfl (by intro z; cases z))
  refine lv_iinc hF.1 hF.2.1 hd hL.has hkx hv (show 8 < M.2.2.1 by rw [← hL.1]; simp) rfl (fun ls1 hl => ?_)
  have hk0 : ∀ (j : Nat) (w : Value), j + 1 = 8 → (x0 :: x1 :: x2 :: x3 :: x4 :: x5 :: x6 :: x7 :: .int x :: L)[j]? = some w → w.category = 1 := by
    intro j w e1 e2
    obtain rfl : j = 7 := by omega
    cases e2
    exact hc
  have hL1 := hL.st1 (i := 8) (v := .int v) (by simp) hk0 hl
  exact kk D cy b0 cs l p e R s m args below meth c Qw H locs cells slots ls1 mc ms hF hS hL1 h1 h2 h3 h4 hf
theorem z_iinc9 {X : zX} {M : zM} {d k q pc : Nat} {L S : List Value} {n : Nat} {h : zH} {Q : zQ} {x0 x1 x2 x3 x4 x5 x6 x7 x8  : Value} {x v : Int32} {z : Int} (hd : decode M.2.1 pc = .ok (.iinc 9 z, 3)) (hc : x8.category = 1) (hv : x + Int32.ofInt z = v) (kk : zJ X M d k q (pc + 3) (x0 :: x1 :: x2 :: x3 :: x4 :: x5 :: x6 :: x7 :: x8 :: .int v :: L) S n h Q) : zJ X M d k q pc (x0 :: x1 :: x2 :: x3 :: x4 :: x5 :: x6 :: x7 :: x8 :: .int x :: L) S n h Q := by
  intro D cy b0 cs l p e R s m args below meth c Qw H locs cells slots ls mc ms hF hS hL h1 h2 h3 h4 hf
  obtain ⟨kx, hkx⟩ := List.getElem?_of_mem (zasc_mem (b0 := b0) (cs := cs) (L := x0 :: x1 :: x2 :: x3 :: x4 :: x5 :: x6 :: x7 :: x8 :: .int x :: L) (i := 9) (v := .int x) rfl (by intro z; cases z))
  refine lv_iinc hF.1 hF.2.1 hd hL.has hkx hv (show 9 < M.2.2.1 by rw [← hL.1]; simp) rfl (fun ls1 hl => ?_)
  have hk0 : ∀ (j : Nat) (w : Value), j + 1 = 9 → (x0 :: x1 :: x2 :: x3 :: x4 :: x5 :: x6 :: x7 :: x8 :: .int x :: L)[j]? = some w → w.category = 1 := by
    intro j w e1 e2
    obtain rfl : j = 8 := by omega
    cases e2
    exact hc
  have hL1 := hL.st1 (i := 9) (v := .int v) (by simp) hk0 hl
  exact kk D cy b0 cs l p e R s m args below meth c Qw H locs cells slots ls1 mc ms hF hS hL1 h1 h2 h3 h4 hf
theorem z_iinc10 {X : zX} {M : zM} {d k q pc : Nat} {L S : List Value} {n : Nat} {h : zH} {Q : zQ} {x0 x1 x2 x3 x4 x5 x6 x7 x8 x9  : Value} {x v : Int32} {z : Int} (hd : decode M.2.1 pc = .ok (.iinc 10 z, 3)) (hc : x9.category = 1) (hv : x + Int32.ofInt z = v) (kk : zJ X M d k q (pc + 3) (x0 :: x1 :: x2 :: x3 :: x4 :: x5 :: x6 :: x7 :: x8 :: x9 :: .int v :: L) S n h Q) : zJ X M d k q pc (x0 :: x1 :: x2 :: x3 :: x4 :: x5 :: x6 :: x7 :: x8 :: x9 :: .int x :: L) S n h Q := by
  intro D cy b0 cs l p e R s m args below meth c Qw H locs cells slots ls mc ms hF hS hL h1 h2 h3 h4 hf
  obtain ⟨kx, hkx⟩ := List.getElem?_of_mem (zasc_mem (b0 := b0) (cs := cs) (L := x0 :: x1 :: x2 :: x3 :: x4 :: x5 :: x6 :: x7 :: x8 :: x9 :: .int x :: L) (i := 10) (v := .int x) rfl (by intro z; cases z))
  refine lv_iinc hF.1 hF.2.1 hd hL.has hkx hv (show 10 < M.2.2.1 by rw [← hL.1]; simp) rfl (fun ls1 hl => ?_)
  have hk0 : ∀ (j : Nat) (w : Value), j + 1 = 10 → (x0 :: x1 :: x2 :: x3 :: x4 :: x5 :: x6 :: x7 :: x8 :: x9 :: .int x :: L)[j]? = some w → w.category = 1 := by
    intro j w e1 e2
    obtain rfl : j = 9 := by omega
    cases e2
    exact hc
  have hL1 := hL.st1 (i := 10) (v := .int v) (by simp) hk0 hl
  exact kk D cy b0 cs l p e R s m args below meth c Qw H locs cells slots ls1 mc ms hF hS hL1 h1 h2 h3 h4 hf
theorem z_iinc11 {X : zX} {M : zM} {d k q pc : Nat} {L S : List Value} {n : Nat} {h : zH} {Q : zQ} {x0 x1 x2 x3 x4 x5 x6 x7 x8 x9 x10  : Value} {x v : Int32} {z : Int} (hd : decode M.2.1 pc = .ok (.iinc 11 z, 3)) (hc : x10.category = 1) (hv : x + Int32.ofInt z = v) (kk : zJ X M d k q (pc + 3) (x0 :: x1 :: x2 :: x3 :: x4 :: x5 :: x6 :: x7 :: x8 :: x9 :: x10 :: .int v :: L) S n h Q) : zJ X M d k q pc (x0 :: x1 :: x2 :: x3 :: x4 :: x5 :: x6 :: x7 :: x8 :: x9 :: x10 :: .int x :: L) S n h Q := by
  intro D cy b0 cs l p e R s m args below meth c Qw H locs cells slots ls mc ms hF hS hL h1 h2 h3 h4 hf
  obtain ⟨kx, hkx⟩ := List.getElem?_of_mem (zasc_mem (b0 := b0) (cs := cs) (L := x0 :: x1 :: x2 :: x3 :: x4 :: x5 :: x6 :: x7 :: x8 :: x9 :: x10 :: .int x :: L) (i := 11) (v := .int x) rfl (by intro z; cases z))
  refine lv_iinc hF.1 hF.2.1 hd hL.has hkx hv (show 11 < M.2.2.1 by rw [← hL.1]; simp) rfl (fun ls1 hl => ?_)
  have hk0 : ∀ (j : Nat) (w : Value), j + 1 = 11 → (x0 :: x1 :: x2 :: x3 :: x4 :: x5 :: x6 :: x7 :: x8 :: x9 :: x10 :: .int x :: L)[j]? = some w → w.category = 1 := by
    intro j w e1 e2
    obtain rfl : j = 10 := by omega
    cases e2
    exact hc
  have hL1 := hL.st1 (i := 11) (v := .int v) (by simp) hk0 hl
  exact kk D cy b0 cs l p e R s m args below meth c Qw H locs cells slots ls1 mc ms hF hS hL1 h1 h2 h3 h4 hf
theorem z_tableIn {X : zX} {M : zM} {d k q pc : Nat} {L S : List Value} {n : Nat} {h : zH} {Q : zQ} {x : Int32} {dflt lo hi off : Int} {offs : Array Int} {len tgt : Nat} (hd : decode M.2.1 pc = .ok (.tableswitch dflt lo hi offs, len)) (g1 : ¬ x.toInt < lo) (g2 : ¬ hi < x.toInt) (ho : offs[(x.toInt - lo).toNat]? = some off) (ht : (pc : Int) + off = (tgt : Int)) (kk : zJ X M d k q tgt L S n h Q) : zJ X M d k q pc L (.int x :: S) n h Q := by
  intro D cy b0 cs l p e R s m args below meth c Qw H locs cells slots ls mc ms hF hS hL h1 h2 h3 h4 hf
  exact lv_tableIn hF.1 hF.2.1 hd g1 g2 ho ht (kk D cy b0 cs l p e R s m args below meth c Qw H locs cells slots ls mc ms hF hS hL h1 h2 h3 h4 hf)
theorem z_tableOut {X : zX} {M : zM} {d k q pc : Nat} {L S : List Value} {n : Nat} {h : zH} {Q : zQ} {x : Int32} {dflt lo hi : Int} {offs : Array Int} {len tgt : Nat} (hd : decode M.2.1 pc = .ok (.tableswitch dflt lo hi offs, len)) (g1 : x.toInt < lo ∨ hi < x.toInt) (ht : (pc : Int) + dflt = (tgt : Int)) (kk : zJ X M d k q tgt L S n h Q) : zJ X M d k q pc L (.int x :: S) n h Q := by
  intro D cy b0 cs l p e R s m args below meth c Qw H locs cells slots ls mc ms hF hS hL h1 h2 h3 h4 hf
  exact lv_tableOut hF.1 hF.2.1 hd g1 ht (kk D cy b0 cs l p e R s m args below meth c Qw H locs cells slots ls mc ms hF hS hL h1 h2 h3 h4 hf)
theorem z_lookup {X : zX} {M : zM} {d k q pc : Nat} {L S : List Value} {n : Nat} {h : zH} {Q : zQ} {x : Int32} {dflt off : Int} {ps : Array (Int × Int)} {len tgt : Nat} (hd : decode M.2.1 pc = .ok (.lookupswitch dflt ps, len)) (hp : (ps.toList.zip (ps.toList.drop 1)).all (fun (a, next) => a.1 < next.1) = true) (ho : Op.lookupswitch.offset ps.toList dflt x.toInt = off) (ht : (pc : Int) + off = (tgt : Int)) (kk : zJ X M d k q tgt L S n h Q) : zJ X M d k q pc L (.int x :: S) n h Q := by
  intro D cy b0 cs l p e R s m args below meth c Qw H locs cells slots ls mc ms hF hS hL h1 h2 h3 h4 hf
  exact lv_lookup hF.1 hF.2.1 hd hp ho ht (kk D cy b0 cs l p e R s m args below meth c Qw H locs cells slots ls mc ms hF hS hL h1 h2 h3 h4 hf)
theorem z_ireturn {X : zX} {M : zM} {d k q pc : Nat} {L S : List Value} {n : Nat} {h : zH} {Q : zQ} {v : Int32} {ty : FieldType} (hd : decode M.2.1 pc = .ok (.ireturn, 1)) (hr : M.2.2.2 = some ty) (hn : narrow ty (.int v) = .int v) (hq : Q (some (.int v)) n h) : zJ X M d 0 q pc L [.int v] n h Q := by
  intro D cy b0 cs l p e R s m args below meth c Qw H locs cells slots ls mc ms hF hS hL h1 h2 h3 h4 hf
  obtain rfl : mc = cells := by omega
  exact hf (some (.int v)) n h H locs slots pc ls hq hS (by omega) (Or.inr (Or.inl ⟨v, ty, rfl, hr, hn, hd⟩))
theorem z_lreturn {X : zX} {M : zM} {d k q pc : Nat} {L S : List Value} {n : Nat} {h : zH} {Q : zQ} {v : Int64} (hd : decode M.2.1 pc = .ok (.lreturn, 1)) (hr : M.2.2.2 = some .long) (hq : Q (some (.long v)) n h) : zJ X M d 0 q pc L [.long v] n h Q := by
  intro D cy b0 cs l p e R s m args below meth c Qw H locs cells slots ls mc ms hF hS hL h1 h2 h3 h4 hf
  obtain rfl : mc = cells := by omega
  exact hf (some (.long v)) n h H locs slots pc ls hq hS (by omega) (Or.inr (Or.inr ⟨v, rfl, hr, hd⟩))
theorem z_return {X : zX} {M : zM} {d k q pc : Nat} {L S : List Value} {n : Nat} {h : zH} {Q : zQ} (hd : decode M.2.1 pc = .ok (.return_, 1)) (hr : M.2.2.2 = none) (hq : Q none n h) : zJ X M d 0 q pc L [] n h Q := by
  intro D cy b0 cs l p e R s m args below meth c Qw H locs cells slots ls mc ms hF hS hL h1 h2 h3 h4 hf
  obtain rfl : mc = cells := by omega
  exact hf none n h H locs slots pc ls hq hS (by omega) (Or.inl ⟨rfl, hr, hd⟩)
theorem z_ldc {X : zX} {M : zM} {d k q pc : Nat} {L S : List Value} {n : Nat} {h : zH} {Q : zQ} {idx : Nat} {v : Int32} (hd : decode M.2.1 pc = .ok (.ldc idx, 2)) (hc : Cond.constant M.1.cls idx v ∈ zU) (kk : zJ X M d k q (pc + 2) L (.int v :: S) n h Q) : zJ X M d k q pc L S n h Q := by
  intro D cy b0 cs l p e R s m args below meth c Qw H locs cells slots ls mc ms hF hS hL h1 h2 h3 h4 hf
  exact lv_ldc hF.1 hF.2.1 hF.2.2.2.2.1 (hF.2.2.2.2.2.1 _ hc) hd (kk D cy b0 cs l p e R s m args below meth c Qw H locs cells slots ls mc ms hF hS hL h1 h2 h3 h4 hf)
theorem z_ldcw {X : zX} {M : zM} {d k q pc : Nat} {L S : List Value} {n : Nat} {h : zH} {Q : zQ} {idx : Nat} {v : Int32} (hd : decode M.2.1 pc = .ok (.ldc_w idx, 3)) (hc : Cond.constant M.1.cls idx v ∈ zU) (kk : zJ X M d k q (pc + 3) L (.int v :: S) n h Q) : zJ X M d k q pc L S n h Q := by
  intro D cy b0 cs l p e R s m args below meth c Qw H locs cells slots ls mc ms hF hS hL h1 h2 h3 h4 hf
  exact lv_ldcw hF.1 hF.2.1 hF.2.2.2.2.1 (hF.2.2.2.2.2.1 _ hc) hd (kk D cy b0 cs l p e R s m args below meth c Qw H locs cells slots ls mc ms hF hS hL h1 h2 h3 h4 hf)
theorem z_ldc2 {X : zX} {M : zM} {d k q pc : Nat} {L S : List Value} {n : Nat} {h : zH} {Q : zQ} {idx : Nat} {v : Int64} (hd : decode M.2.1 pc = .ok (.ldc2_w idx, 3)) (hc : Cond.constantLong M.1.cls idx v ∈ zU) (kk : zJ X M d k q (pc + 3) L (.long v :: S) n h Q) : zJ X M d k q pc L S n h Q := by
  intro D cy b0 cs l p e R s m args below meth c Qw H locs cells slots ls mc ms hF hS hL h1 h2 h3 h4 hf
  exact lv_ldc2 hF.1 hF.2.1 hF.2.2.2.2.1 (hF.2.2.2.2.2.1 _ hc) hd (kk D cy b0 cs l p e R s m args below meth c Qw H locs cells slots ls mc ms hF hS hL h1 h2 h3 h4 hf)
end
section
theorem iX0 : ∀ w ∈ wsX00, w ∈ zU := by decide +kernel
theorem iX1 : ∀ w ∈ wsX10, w ∈ zU := by decide +kernel
theorem iX2 : ∀ w ∈ wsX20, w ∈ zU := by decide +kernel
theorem iX3 : ∀ w ∈ wsX30, w ∈ zU := by decide +kernel
theorem iX4 : ∀ w ∈ wsX40, w ∈ zU := by decide +kernel
theorem iX5 : ∀ w ∈ wsX50, w ∈ zU := by decide +kernel
theorem iX6 : ∀ w ∈ wsX60, w ∈ zU := by decide +kernel
theorem iX7 : ∀ w ∈ wsX70, w ∈ zU := by decide +kernel
theorem iX8 : ∀ w ∈ wsX80, w ∈ zU := by decide +kernel
theorem iX9 : ∀ w ∈ wsX90, w ∈ zU := by decide +kernel
theorem zKin : ∀ (ci : Nat) (C : String) (T : u_T) (N : Nat), vwCl[ci]? = some (C, T, N) → ∀ w ∈ u_ws C T N, w ∈ zU
  | 0, _, _, _, e => by cases e; exact iX0
  | 1, _, _, _, e => by cases e; exact iX1
  | 2, _, _, _, e => by cases e; exact iX2
  | 3, _, _, _, e => by cases e; exact iX3
  | 4, _, _, _, e => by cases e; exact iX4
  | 5, _, _, _, e => by cases e; exact iX5
  | 6, _, _, _, e => by cases e; exact iX6
  | 7, _, _, _, e => by cases e; exact iX7
  | 8, _, _, _, e => by cases e; exact iX8
  | 9, _, _, _, e => by cases e; exact iX9
  | i + 10, _, _, _, e => by simp at e
theorem zKty : ∀ (ci : Nat) (C : String) (T : u_T) (N : Nat), vwCl[ci]? = some (C, T, N) → ∃ ty0 : Nat → FieldType, (∀ k, k < N → parseFieldDescriptor (T k).2.2.1 = some (ty0 k)) ∧ (∀ a, a < N → ∀ b, b < N → a ≠ b → (T a).2.1 ≠ (T b).2.1)
  | 0, _, _, _, e => by cases e; exact ⟨tyX0, tyX0_ok, nmX0⟩
  | 1, _, _, _, e => by cases e; exact ⟨tyX1, tyX1_ok, nmX1⟩
  | 2, _, _, _, e => by cases e; exact ⟨tyX2, tyX2_ok, nmX2⟩
  | 3, _, _, _, e => by cases e; exact ⟨tyX3, tyX3_ok, nmX3⟩
  | 4, _, _, _, e => by cases e; exact ⟨tyX4, tyX4_ok, nmX4⟩
  | 5, _, _, _, e => by cases e; exact ⟨tyX5, tyX5_ok, nmX5⟩
  | 6, _, _, _, e => by cases e; exact ⟨tyX6, tyX6_ok, nmX6⟩
  | 7, _, _, _, e => by cases e; exact ⟨tyX7, tyX7_ok, nmX7⟩
  | 8, _, _, _, e => by cases e; exact ⟨tyX8, tyX8_ok, nmX8⟩
  | 9, _, _, _, e => by cases e; exact ⟨tyX9, tyX9_ok, nmX9⟩
  | i + 10, _, _, _, e => by simp at e
def zfl (own : String) (idx ci j : Nat) : Prop := ∃ (C : String) (T : u_T) (N : Nat), vwCl[ci]? = some (C, T, N) ∧ j < N ∧ Cond.fieldLink own idx (T j).1 (T j).2.1 (T j).2.2.1 ∈ zU
def zpf (own : String) (idx ci j : Nat) (fin : Bool) (ty : FieldType) : Prop := ∃ (C : String) (T : u_T) (N : Nat), vwCl[ci]? = some (C, T, N) ∧ j < N ∧ Cond.fieldLink own idx (T j).1 (T j).2.1 (T j).2.2.1 ∈ zU ∧ (T j).2.2.2 = fin ∧ parseFieldDescriptor (T j).2.2.1 = some ty ∧ (fin = true → (T j).1 = own)
def zcls (own : String) (idx ci N : Nat) (fs : List Value) : Prop := ∃ (C : String) (T : u_T) (ty : Nat → FieldType), vwCl[ci]? = some (C, T, N) ∧ Cond.classLink own idx C ∈ zU ∧ Cond.instantiable C N ∈ zU ∧ Cond.initialized C ∈ zU ∧ (∀ k, k < N → parseFieldDescriptor (T k).2.2.1 = some (ty k)) ∧ (∀ j, j < N → defaultValue (ty j) = vp_V fs j) ∧ (∀ (b0 : Nat) (cs : Nat → Nat), fs.map (ztr b0 cs) = fs)
theorem zS.rf {D : va_G} {cy : Nat → ClassId} {b0 : Nat} {cs : Nat → Nat} {s : State} {n : Nat} {h : zH} {H : Heap} {locs : List Loc} {cells : Nat} (hS : zS D cy b0 cs s n h H locs cells) : va_S (fun q => b0 ≤ q) H H locs := ⟨Nat.le_refl _, fun _ _ _ => rfl, hS.2.2.2.2.2⟩
theorem zS.go {D : va_G} {cy : Nat → ClassId} {b0 : Nat} {cs : Nat → Nat} {s : State} {n : Nat} {h h1 : zH} {H H1 : Heap} {locs locs1 : List Loc} {cells slots : Nat} {p : Program} {l : Launch} {e : Env} {R : Room} {m : MethodId} {args : Array Value} {below : List Frame} {meth : Method} {c : Code} {Qw : State → Prop} {g : JFrame}
    (hS : zS D cy b0 cs s n h H locs cells) (hP1 : va_P D vwCl (zWl cy b0 cs n h1) H1) (hS1 : va_S (fun q => b0 ≤ q) H H1 locs1) (kk : zS D cy b0 cs s n h1 H1 locs1 cells → W p l e R s m args below meth c H1 locs1 cells slots Qw g) : W p l e R s m args below meth c H1 locs1 cells slots Qw g := by
  intro T hT X
  have hz := X.heapSize
  rw [hT] at hz
  have h0 := hS1.1
  have e1 : H1.size = H.size := by have := hS.2.2.1; omega
  refine kk ⟨e1.trans hS.1, hP1, e1.trans hS.2.2.1, ?_⟩ T hT X
  have hb := hS.2.2.2
  exact ⟨Nat.le_trans hb.1 h0, fun x g1 g2 => (hS1.2.1 x (Nat.lt_of_lt_of_le g1 hb.1) g2).trans (hb.2.1 x g1 g2), hS1.2.2⟩
theorem z_getf {X : zX} {M : zM} {d k q pc : Nat} {L S : List Value} {n : Nat} {h : zH} {Q : zQ} {idx ci j a : Nat} {fs : List Value} {v : Value} (hd : decode M.2.1 pc = .ok (.getfield idx, 3)) (hl : zfl M.1.cls idx ci j) (ha : h a = .inr (ci, fs)) (han : a < n) (ham : a < 1000000) (hv : fs[j]? = some v) (kk : zJ X M d k q (pc + 3) L (v :: S) n h Q) : zJ X M d k q pc L (.ref a :: S) n h Q := by
  intro D cy b0 cs l p e R s m args below meth c Qw H locs cells slots ls mc ms hF hS hL h1 h2 h3 h4 hf
  obtain ⟨C, T, N, hc, hj, hlink⟩ := hl
  have hw := zWl_at (cy := cy) (b0 := b0) (cs := cs) (h := h) han
  rw [ha] at hw
  rw [List.map_cons, ztr_ref ham]
  exact va_get hF.1 hF.2.1 hF.2.2.2.2.2.1 (zKin ci C T N hc) hF.2.2.2.2.1 hF.2.2.2.2.2.2.2.2.1.1 hS.2.1 a hw hc j hj (hF.2.2.2.2.2.1 _ hlink) (fun _ z => z) (v := ztr b0 cs v) (by rw [List.getElem?_map, hv]; rfl) hd (kk D cy b0 cs l p e R s m args below meth c Qw H locs cells slots ls mc ms hF hS hL h1 h2 h3 h4 hf)
theorem z_putf {X : zX} {M : zM} {d k q pc : Nat} {L S : List Value} {n : Nat} {h : zH} {Q : zQ} {idx ci j a : Nat} {fs : List Value} {v : Value} {ty : FieldType} (hd : decode M.2.1 pc = .ok (.putfield idx, 3)) (hl : zpf M.1.cls idx ci j false ty) (ha : h a = .inr (ci, fs)) (han : a < n) (ham : a < 1000000) (hv : ∀ (b0 : Nat) (cs : Nat → Nat), narrow ty (ztr b0 cs v) = ztr b0 cs v ∧ fits ty (ztr b0 cs v) = true) (hlen : j < fs.length) (kk : zJ X M d k q (pc + 3) L S n (va_up h a (.inr (ci, fs.set j v))) Q) : zJ X M d k q pc L (v :: .ref a :: S) n h Q := by
  intro D cy b0 cs l p e R s m args below meth c Qw H locs cells slots ls mc ms hF hS hL h1 h2 h3 h4 hf
  obtain ⟨C, T, N, hc, hj, hlink, hfin, hty, -⟩ := hl
  obtain ⟨ty0, ht0, hnm⟩ := zKty ci C T N hc
  have hw := zWl_at (cy := cy) (b0 := b0) (cs := cs) (h := h) han
  rw [ha] at hw
  rw [List.map_cons, List.map_cons, ztr_ref ham]
  refine va_put hF.1 hF.2.1 hF.2.2.2.2.2.1 (zKin ci C T N hc) ty0 ht0 hnm hF.2.2.2.2.1 hF.2.2.2.2.2.2.2.2.1.1 hS.2.1 zWl_D hS.rf a hw hc j hj (hF.2.2.2.2.2.1 _ hlink) (fun _ z => z) hfin hty (hv b0 cs).1 (hv b0 cs).2 (by rw [List.length_map]; exact hlen) hd (fun H1 locs1 hP1 _ hS1 => ?_)
  rw [show (Sum.inr (ci, (fs.map (ztr b0 cs)).set j (ztr b0 cs v)) : va_E) = ztE cy b0 cs (.inr (ci, fs.set j v)) by simp [ztE, List.map_set], zWl_set] at hP1
  exact hS.go hP1 hS1 (fun hS1 => kk D cy b0 cs l p e R s m args below meth c Qw H1 locs1 cells slots ls mc ms hF hS1 hL h1 h2 h3 h4 hf)
theorem z_putF {X : zX} {M : zM} {d k q pc : Nat} {L S : List Value} {n : Nat} {h : zH} {Q : zQ} {idx ci j a : Nat} {fs : List Value} {v : Value} {ty : FieldType} (hd : decode M.2.1 pc = .ok (.putfield idx, 3)) (hl : zpf M.1.cls idx ci j true ty) (hin : M.1.name = "<init>") (ha : h a = .inr (ci, fs)) (han : a < n) (ham : a < 1000000) (hv : ∀ (b0 : Nat) (cs : Nat → Nat), narrow ty (ztr b0 cs v) = ztr b0 cs v ∧ fits ty (ztr b0 cs v) = true) (hlen : j < fs.length) (kk : zJ X M d k q (pc + 3) L S n (va_up h a (.inr (ci, fs.set j v))) Q) : zJ X M d k q pc L (v :: .ref a :: S) n h Q := by
  intro D cy b0 cs l p e R s m args below meth c Qw H locs cells slots ls mc ms hF hS hL h1 h2 h3 h4 hf
  obtain ⟨C, T, N, hc, hj, hlink, hfin, hty, hown⟩ := hl
  obtain ⟨ty0, ht0, hnm⟩ := zKty ci C T N hc
  have hw := zWl_at (cy := cy) (b0 := b0) (cs := cs) (h := h) han
  rw [ha] at hw
  rw [List.map_cons, List.map_cons, ztr_ref ham]
  refine va_putF hF.1 hF.2.1 hF.2.2.2.2.2.1 (zKin ci C T N hc) ty0 ht0 hnm hF.2.2.2.2.1 hF.2.2.2.2.2.2.2.2.1.1 hS.2.1 zWl_D hS.rf a hw hc j hj (hF.2.2.2.2.2.1 _ hlink) (fun _ z => z) hfin (hF.2.2.2.2.2.2.2.1 hin) (hown rfl) hty (hv b0 cs).1 (hv b0 cs).2 (by rw [List.length_map]; exact hlen) hd (fun H1 locs1 hP1 _ hS1 => ?_)
  rw [show (Sum.inr (ci, (fs.map (ztr b0 cs)).set j (ztr b0 cs v)) : va_E) = ztE cy b0 cs (.inr (ci, fs.set j v)) by simp [ztE, List.map_set], zWl_set] at hP1
  exact hS.go hP1 hS1 (fun hS1 => kk D cy b0 cs l p e R s m args below meth c Qw H1 locs1 cells slots ls mc ms hF hS1 hL h1 h2 h3 h4 hf)
theorem z_iald {X : zX} {M : zM} {d k q pc : Nat} {L S : List Value} {n : Nat} {h : zH} {Q : zQ} {a N : Nat} {f : Nat → Int32} {i : Int32} (hd : decode M.2.1 pc = .ok (.iaload, 1)) (ha : h a = .inl (0, N, .inl f)) (han : a < n) (ham : a < 1000000) (hi : vp_in i N) (kk : zJ X M d k q (pc + 1) L (.int (f i.toNatClampNeg) :: S) n h Q) : zJ X M d k q pc L (.int i :: .ref a :: S) n h Q := by
  intro D cy b0 cs l p e R s m args below meth c Qw H locs cells slots ls mc ms hF hS hL h1 h2 h3 h4 hf
  have hw := zWl_at (cy := cy) (b0 := b0) (cs := cs) (h := h) han
  rw [ha] at hw
  rw [List.map_cons, List.map_cons, ztr_ref ham]
  exact va_iald hF.1 hF.2.1 hF.2.2.2.2.2.2.2.2.1.1 hS.2.1 a 0 hw rfl hi hd (kk D cy b0 cs l p e R s m args below meth c Qw H locs cells slots ls mc ms hF hS hL h1 h2 h3 h4 hf)
theorem z_zald {X : zX} {M : zM} {d k q pc : Nat} {L S : List Value} {n : Nat} {h : zH} {Q : zQ} {a N : Nat} {f : Nat → Int32} {i : Int32} (hd : decode M.2.1 pc = .ok (.baload, 1)) (ha : h a = .inl (1, N, .inl f)) (han : a < n) (ham : a < 1000000) (hi : vp_in i N) (kk : zJ X M d k q (pc + 1) L (.int (f i.toNatClampNeg) :: S) n h Q) : zJ X M d k q pc L (.int i :: .ref a :: S) n h Q := by
  intro D cy b0 cs l p e R s m args below meth c Qw H locs cells slots ls mc ms hF hS hL h1 h2 h3 h4 hf
  have hw := zWl_at (cy := cy) (b0 := b0) (cs := cs) (h := h) han
  rw [ha] at hw
  rw [List.map_cons, List.map_cons, ztr_ref ham]
  exact va_zald hF.1 hF.2.1 hF.2.2.2.2.2.2.2.2.1.1 hS.2.1 a 1 hw rfl hi hd (kk D cy b0 cs l p e R s m args below meth c Qw H locs cells slots ls mc ms hF hS hL h1 h2 h3 h4 hf)
theorem z_iast {X : zX} {M : zM} {d k q pc : Nat} {L S : List Value} {n : Nat} {h : zH} {Q : zQ} {a N : Nat} {f : Nat → Int32} {i x : Int32} (hd : decode M.2.1 pc = .ok (.iastore, 1)) (ha : h a = .inl (0, N, .inl f)) (han : a < n) (ham : a < 1000000) (hi : vp_in i N) (kk : zJ X M d k q (pc + 1) L S n (va_up h a (.inl (0, N, .inl (upd f i.toNatClampNeg x)))) Q) : zJ X M d k q pc L (.int x :: .int i :: .ref a :: S) n h Q := by
  intro D cy b0 cs l p e R s m args below meth c Qw H locs cells slots ls mc ms hF hS hL h1 h2 h3 h4 hf
  have hw := zWl_at (cy := cy) (b0 := b0) (cs := cs) (h := h) han
  rw [ha] at hw
  rw [List.map_cons, List.map_cons, List.map_cons, ztr_ref ham]
  refine va_iast hF.1 hF.2.1 hF.2.2.2.2.2.2.2.2.1.1 hS.2.1 zWl_D hS.rf a 0 hw rfl hi hd (fun H1 locs1 hP1 _ hS1 => ?_)
  have hP1 : va_P D vwCl ((zWl cy b0 cs n h).set a (b0 + a, ztE cy b0 cs (.inl (0, N, .inl (upd f i.toNatClampNeg x))))) H1 := hP1
  rw [zWl_set] at hP1
  exact hS.go hP1 hS1 (fun hS1 => kk D cy b0 cs l p e R s m args below meth c Qw H1 locs1 cells slots ls mc ms hF hS1 hL h1 h2 h3 h4 hf)
theorem z_zast {X : zX} {M : zM} {d k q pc : Nat} {L S : List Value} {n : Nat} {h : zH} {Q : zQ} {a N : Nat} {f : Nat → Int32} {i x : Int32} (hd : decode M.2.1 pc = .ok (.bastore, 1)) (ha : h a = .inl (1, N, .inl f)) (han : a < n) (ham : a < 1000000) (hi : vp_in i N) (hx : vp_nar .boolean x = x) (kk : zJ X M d k q (pc + 1) L S n (va_up h a (.inl (1, N, .inl (upd f i.toNatClampNeg x)))) Q) : zJ X M d k q pc L (.int x :: .int i :: .ref a :: S) n h Q := by
  intro D cy b0 cs l p e R s m args below meth c Qw H locs cells slots ls mc ms hF hS hL h1 h2 h3 h4 hf
  have hw := zWl_at (cy := cy) (b0 := b0) (cs := cs) (h := h) han
  rw [ha] at hw
  rw [List.map_cons, List.map_cons, List.map_cons, ztr_ref ham]
  refine va_zast hF.1 hF.2.1 hF.2.2.2.2.2.2.2.2.1.1 hS.2.1 zWl_D hS.rf a 1 hw rfl hi hd (fun H1 locs1 hP1 _ hS1 => ?_)
  rw [hx] at hP1
  have hP1 : va_P D vwCl ((zWl cy b0 cs n h).set a (b0 + a, ztE cy b0 cs (.inl (1, N, .inl (upd f i.toNatClampNeg x))))) H1 := hP1
  rw [zWl_set] at hP1
  exact hS.go hP1 hS1 (fun hS1 => kk D cy b0 cs l p e R s m args below meth c Qw H1 locs1 cells slots ls mc ms hF hS1 hL h1 h2 h3 h4 hf)
theorem z_aald {X : zX} {M : zM} {d k q pc : Nat} {L S : List Value} {n : Nat} {h : zH} {Q : zQ} {a N r : Nat} {f : Nat → Option Nat} {i : Int32} (hd : decode M.2.1 pc = .ok (.aaload, 1)) (ha : h a = .inl (2, N, .inr (.inr (.inr (.inr f))))) (han : a < n) (ham : a < 1000000) (hi : vp_in i N) (hr : f i.toNatClampNeg = some r) (hrm : r < 1000000) (kk : zJ X M d k q (pc + 1) L (.ref r :: S) n h Q) : zJ X M d k q pc L (.int i :: .ref a :: S) n h Q := by
  intro D cy b0 cs l p e R s m args below meth c Qw H locs cells slots ls mc ms hF hS hL h1 h2 h3 h4 hf
  have hw := zWl_at (cy := cy) (b0 := b0) (cs := cs) (h := h) han
  rw [ha] at hw
  rw [List.map_cons, List.map_cons, ztr_ref ham]
  refine va_aldq hF.1 hF.2.1 hF.2.2.2.2.2.2.2.2.1.1 hS.2.1 a 2 hw rfl hi hd ?_
  rw [hr]
  have kk := kk D cy b0 cs l p e R s m args below meth c Qw H locs cells slots ls mc ms hF hS hL h1 h2 h3 h4 hf
  rw [List.map_cons, ztr_ref hrm] at kk
  exact kk
theorem z_aast {X : zX} {M : zM} {d k q pc : Nat} {L S : List Value} {n : Nat} {h : zH} {Q : zQ} {a N v : Nat} {f : Nat → Option Nat} {i : Int32} {vs : List Value} (hd : decode M.2.1 pc = .ok (.aastore, 1)) (ha : h a = .inl (2, N, .inr (.inr (.inr (.inr f))))) (han : a < n) (ham : a < 1000000) (hv : h v = .inr (4, vs)) (hvn : v < n) (hvm : v < 1000000) (hi : vp_in i N) (kk : zJ X M d k q (pc + 1) L S n (va_up h a (.inl (2, N, .inr (.inr (.inr (.inr (va_up f i.toNatClampNeg (some v)))))))) Q) : zJ X M d k q pc L (.ref v :: .int i :: .ref a :: S) n h Q := by
  intro D cy b0 cs l p e R s m args below meth c Qw H locs cells slots ls mc ms hF hS hL h1 h2 h3 h4 hf
  have hw := zWl_at (cy := cy) (b0 := b0) (cs := cs) (h := h) han
  have hw2 := zWl_at (cy := cy) (b0 := b0) (cs := cs) (h := h) hvn
  rw [ha] at hw
  rw [hv] at hw2
  rw [List.map_cons, List.map_cons, List.map_cons, ztr_ref ham, ztr_ref hvm]
  refine va_astq hF.1 hF.2.1 hF.2.2.2.2.2.2.2.2.1.1 hS.2.1 zWl_D hS.rf a 2 v 4 (r := (RX4, TX4, 3)) hw rfl hw2 rfl hi hd (fun H1 locs1 hP1 _ hS1 => ?_)
  have e1 : (Sum.inl (cy 2, N, .inr (.inr (.inr (.inr (va_up (fun k => (f k).map (fun a => b0 + a)) i.toNatClampNeg (some (b0 + v))))))) : va_E) = ztE cy b0 cs (.inl (2, N, .inr (.inr (.inr (.inr (va_up f i.toNatClampNeg (some v))))))) := by
    simp only [ztE]
    congr 7
    funext k
    by_cases hk : k = i.toNatClampNeg <;> simp [va_up, hk]
  have hP1 : va_P D vwCl ((zWl cy b0 cs n h).set a (b0 + a, .inl (cy 2, N, .inr (.inr (.inr (.inr (va_up (fun k => (f k).map (fun a => b0 + a)) i.toNatClampNeg (some (b0 + v))))))))) H1 := hP1
  rw [e1, zWl_set] at hP1
  exact hS.go hP1 hS1 (fun hS1 => kk D cy b0 cs l p e R s m args below meth c Qw H1 locs1 cells slots ls mc ms hF hS1 hL h1 h2 h3 h4 hf)
/-- a new cell is the next one -/
theorem zS.new {D : va_G} {cy : Nat → ClassId} {b0 : Nat} {cs : Nat → Nat} {s : State} {n q0 : Nat} {h : zH} {e0 : zE} {H H1 : Heap} {locs : List Loc} {cells slots : Nat} {p : Program} {l : Launch} {e : Env} {R : Room} {m : MethodId} {args : Array Value} {below : List Frame} {meth : Method} {c : Code} {Qw : State → Prop} {pc : Nat} {ls : Array Slot} {st : List Value}
    (hS : zS D cy b0 cs s n h H locs cells) (hP1 : va_P D vwCl (zWl cy b0 cs n h ++ [(q0, ztE cy b0 cs e0)]) H1) (hD1 : va_D (fun q => b0 ≤ q) (zWl cy b0 cs n h ++ [(q0, ztE cy b0 cs e0)])) (hS1 : va_S (fun q => b0 ≤ q) H H1 locs) (kk : zS D cy b0 cs s (n + 1) (va_up h n e0) H1 locs (cells + 1) → W p l e R s m args below meth c H1 locs (cells + 1) slots Qw (F0 m pc ls (.ref (b0 + n) :: st))) : W p l e R s m args below meth c H1 locs (cells + 1) slots Qw (F0 m pc ls (.ref q0 :: st)) := by
  intro T hT X
  have hz := X.heapSize
  rw [hT] at hz
  have h0 := hS1.1
  have hlast : (zWl cy b0 cs n h ++ [(q0, ztE cy b0 cs e0)])[n]? = some (q0, ztE cy b0 cs e0) := by
    rw [List.getElem?_append_right (by rw [zWl_len]; exact Nat.le_refl _), zWl_len, Nat.sub_self]; rfl
  have hq1 : q0 < H1.size := (hP1 n _ hlast).lt
  have hq2 : b0 ≤ q0 := hD1.2 n _ hlast
  have hq3 : b0 + n ≤ q0 := by
    rcases Nat.lt_or_ge q0 (b0 + n) with hlt | hge
    · exfalso
      have hk : (zWl cy b0 cs n h ++ [(q0, ztE cy b0 cs e0)])[q0 - b0]? = some (b0 + (q0 - b0), ztE cy b0 cs (h (q0 - b0))) := by
        rw [List.getElem?_append_left (by rw [zWl_len]; omega)]
        exact zWl_at (by omega)
      have := hD1.1 _ _ _ _ hk hlast (show b0 + (q0 - b0) = q0 by omega)
      omega
    · exact hge
  have hs1 := hS.1
  have hs2 := hS.2.2.1
  obtain rfl : q0 = b0 + n := by omega
  rw [zWl_push] at hP1
  have hb := hS.2.2.2
  refine kk ⟨by omega, hP1, by omega, ⟨Nat.le_trans hb.1 h0, fun x g1 g2 => (hS1.2.1 x (Nat.lt_of_lt_of_le g1 hb.1) g2).trans (hb.2.1 x g1 g2), hS1.2.2⟩⟩ T hT X
theorem z_new {X : zX} {M : zM} {d k q pc : Nat} {L S : List Value} {n : Nat} {h : zH} {Q : zQ} {idx ci N : Nat} {fs : List Value} (hd : decode M.2.1 pc = .ok (.new idx, 3)) (hc : zcls M.1.cls idx ci N fs) (hn : n < 1000000) (kk : zJ X M d k q (pc + 3) L (.ref n :: S) (n + 1) (va_up h n (.inr (ci, fs))) Q) : zJ X M d (k + 1) (q + N) pc L S n h Q := by
  intro D cy b0 cs l p e R s m args below meth c Qw H locs cells slots ls mc ms hF hS hL h1 h2 h3 h4 hf
  obtain ⟨C, T, ty, hcl, hlk, hin, hini, hty, hdf, hfs⟩ := hc
  have hb0 : b0 ≤ H.size := by have := hS.1; omega
  refine va_new hF.1 hF.2.1 hF.2.2.2.2.2.1 (zKin ci C T N hcl) ty hty hF.2.2.2.2.1 (hF.2.2.2.2.2.1 _ hlk) (hF.2.2.2.2.2.1 _ hin) (hF.2.2.2.2.2.1 _ hini) hF.2.2.2.2.2.2.2.2.1.1 hS.2.1 zWl_D hS.rf (fun q g => Nat.le_trans hb0 g) hcl (fs := fs) hdf (by omega) (by omega) hd (fun q0 H1 hP1 hD1 hS1 => ?_)
  have he : (Sum.inr (ci, fs) : va_E) = ztE cy b0 cs (.inr (ci, fs)) := by simp [ztE, hfs]
  rw [he] at hP1 hD1
  refine hS.new hP1 hD1 hS1 (fun hS1 => ?_)
  have kk := kk D cy b0 cs l p e R s m args below meth c Qw H1 locs (cells + 1) (slots + N) ls mc ms hF hS1 hL (by omega) (by omega) h3 h4 hf
  rw [List.map_cons, ztr_ref hn] at kk
  exact kk
theorem z_newa {X : zX} {M : zM} {d k q pc : Nat} {L S : List Value} {n : Nat} {h : zH} {Q : zQ} {z : Int32} {N : Nat} (hd : decode M.2.1 pc = .ok (.newarray .int, 2)) (hw : Cond.arrayClass .int ∈ zU) (hz : ¬ z < 0) (hN : z.toNatClampNeg = N) (hb : N ≤ 100000) (hn : n < 1000000) (kk : zJ X M d k q (pc + 2) L (.ref n :: S) (n + 1) (va_up h n (.inl (0, N, .inl (fun _ => 0)))) Q) : zJ X M d (k + 1) (q + N) pc L (.int z :: S) n h Q := by
  intro D cy b0 cs l p e R s m args below meth c Qw H locs cells slots ls mc ms hF hS hL h1 h2 h3 h4 hf
  have hb0 : b0 ≤ H.size := by have := hS.1; omega
  refine va_newa hF.1 hF.2.1 (atype := .int) (ty := .int) (hF.2.2.2.2.2.1 _ hw) rfl hF.2.2.2.2.2.2.2.2.1.1 hS.2.1 zWl_D hS.rf (fun q g => Nat.le_trans hb0 g) (a0 := (N, .inl (fun _ => 0))) (fun _ => rfl) hz hN (by show N * 4 ≤ _; omega) (by omega) (by omega) hd (fun q0 cA H1 hK1 hP1 hD1 hS1 => ?_)
  obtain rfl : cA = cy 0 := Option.some.inj ((hK1.2 3 (cA, .int) rfl).2.symm.trans (hK1.2 0 (cy 0, .int) rfl).2)
  refine hS.new (e0 := .inl (0, N, .inl (fun _ => 0))) hP1 hD1 hS1 (fun hS1 => ?_)
  have kk := kk D cy b0 cs l p e R s m args below meth c Qw H1 locs (cells + 1) (slots + N) ls mc ms hF hS1 hL (by omega) (by omega) h3 h4 hf
  rw [List.map_cons, ztr_ref hn] at kk
  exact kk
theorem z_newz {X : zX} {M : zM} {d k q pc : Nat} {L S : List Value} {n : Nat} {h : zH} {Q : zQ} {z : Int32} {N : Nat} (hd : decode M.2.1 pc = .ok (.newarray .boolean, 2)) (hw : Cond.arrayClass .boolean ∈ zU) (hz : ¬ z < 0) (hN : z.toNatClampNeg = N) (hb : N ≤ 100000) (hn : n < 1000000) (kk : zJ X M d k q (pc + 2) L (.ref n :: S) (n + 1) (va_up h n (.inl (1, N, .inl (fun _ => 0)))) Q) : zJ X M d (k + 1) (q + N) pc L (.int z :: S) n h Q := by
  intro D cy b0 cs l p e R s m args below meth c Qw H locs cells slots ls mc ms hF hS hL h1 h2 h3 h4 hf
  have hb0 : b0 ≤ H.size := by have := hS.1; omega
  refine va_newa hF.1 hF.2.1 (atype := .boolean) (ty := .boolean) (hF.2.2.2.2.2.1 _ hw) rfl hF.2.2.2.2.2.2.2.2.1.1 hS.2.1 zWl_D hS.rf (fun q g => Nat.le_trans hb0 g) (a0 := (N, .inl (fun _ => 0))) (fun _ => rfl) hz hN (by show N * 1 ≤ _; omega) (by omega) (by omega) hd (fun q0 cA H1 hK1 hP1 hD1 hS1 => ?_)
  obtain rfl : cA = cy 1 := Option.some.inj ((hK1.2 3 (cA, .boolean) rfl).2.symm.trans (hK1.2 1 (cy 1, .boolean) rfl).2)
  refine hS.new (e0 := .inl (1, N, .inl (fun _ => 0))) hP1 hD1 hS1 (fun hS1 => ?_)
  have kk := kk D cy b0 cs l p e R s m args below meth c Qw H1 locs (cells + 1) (slots + N) ls mc ms hF hS1 hL (by omega) (by omega) h3 h4 hf
  rw [List.map_cons, ztr_ref hn] at kk
  exact kk
theorem z_newq {X : zX} {M : zM} {d k q pc : Nat} {L S : List Value} {n : Nat} {h : zH} {Q : zQ} {idx : Nat} {z : Int32} {N : Nat} (hd : decode M.2.1 pc = .ok (.anewarray idx, 3)) (hlk : Cond.classLink M.1.cls idx "PaperTrellis$Scene" ∈ zU) (hz : ¬ z < 0) (hN : z.toNatClampNeg = N) (hb : N ≤ 100000) (hn : n < 1000000) (kk : zJ X M d k q (pc + 3) L (.ref n :: S) (n + 1) (va_up h n (.inl (2, N, .inr (.inr (.inr (.inr (fun _ => none))))))) Q) : zJ X M d (k + 1) (q + N) pc L (.int z :: S) n h Q := by
  intro D cy b0 cs l p e R s m args below meth c Qw H locs cells slots ls mc ms hF hS hL h1 h2 h3 h4 hf
  have hb0 : b0 ≤ H.size := by have := hS.1; omega
  refine va_newq hF.1 hF.2.1 hF.2.2.2.2.1 (hF.2.2.2.2.2.1 _ hlk) hF.2.2.2.2.2.2.2.2.1.2.2.1 hF.2.2.2.2.2.2.2.2.1.1 hS.2.1 zWl_D hS.rf (fun q g => Nat.le_trans hb0 g) hz hN (by omega) (by omega) (by omega) hd (fun q0 cA H1 hK1 hP1 hD1 hS1 => ?_)
  obtain ⟨_, _, -, -, -, e1⟩ := (hK1.2 3 (cA, .object "PaperTrellis$Scene") rfl).2
  obtain ⟨_, _, -, -, -, e2⟩ := (hK1.2 2 (cy 2, .object "PaperTrellis$Scene") rfl).2
  obtain rfl : cA = cy 2 := Option.some.inj (e1.symm.trans e2)
  refine hS.new (e0 := .inl (2, N, .inr (.inr (.inr (.inr (fun _ => none)))))) hP1 hD1 hS1 (fun hS1 => ?_)
  have kk := kk D cy b0 cs l p e R s m args below meth c Qw H1 locs (cells + 1) (slots + N) ls mc ms hF hS1 hL (by omega) (by omega) h3 h4 hf
  rw [List.map_cons, ztr_ref hn] at kk
  exact kk
theorem z_sld {X : zX} {M : zM} {d k q pc : Nat} {L S : List Value} {n : Nat} {h : zH} {Q : zQ} {i : Int32} (hd : decode M.2.1 pc = .ok (.iaload, 1)) (hi : vp_in i X.1) (kk : zJ X M d k q (pc + 1) L (.int (X.2 i.toNatClampNeg) :: S) n h Q) : zJ X M d k q pc L (.int i :: .ref 1000000 :: S) n h Q := by
  intro D cy b0 cs l p e R s m args below meth c Qw H locs cells slots ls mc ms hF hS hL h1 h2 h3 h4 hf
  obtain ⟨-, -, -, hX, hx0, hb, -⟩ := hF.2.2.2.2.2.2.2.2.1
  exact va_sld hF.1 hF.2.1 hX (Nat.lt_of_lt_of_le hx0 hb) (Nat.not_le.mpr hx0) hS.2.2.2 hi hd (kk D cy b0 cs l p e R s m args below meth c Qw H locs cells slots ls mc ms hF hS hL h1 h2 h3 h4 hf)
theorem z_slen {X : zX} {M : zM} {d k q pc : Nat} {L S : List Value} {n : Nat} {h : zH} {Q : zQ} (hd : decode M.2.1 pc = .ok (.arraylength, 1)) (kk : zJ X M d k q (pc + 1) L (.int (Int32.ofNat X.1) :: S) n h Q) : zJ X M d k q pc L (.ref 1000000 :: S) n h Q := by
  intro D cy b0 cs l p e R s m args below meth c Qw H locs cells slots ls mc ms hF hS hL h1 h2 h3 h4 hf
  obtain ⟨-, -, -, hX, hx0, hb, -⟩ := hF.2.2.2.2.2.2.2.2.1
  exact va_slen hF.1 hF.2.1 hX (Nat.lt_of_lt_of_le hx0 hb) (Nat.not_le.mpr hx0) hS.2.2.2 hd (kk D cy b0 cs l p e R s m args below meth c Qw H locs cells slots ls mc ms hF hS hL h1 h2 h3 h4 hf)
theorem z_getT {X : zX} {M : zM} {d k q pc : Nat} {L S : List Value} {n : Nat} {h : zH} {Q : zQ} {idx : Nat} (hd : decode M.2.1 pc = .ok (.getstatic idx, 3)) (hl : Cond.fieldLink M.1.cls idx "PaperTrellis" "THOUSANDS" "[J" ∈ zU) (kk : zJ X M d k q (pc + 3) L (.ref 1000001 :: S) n h Q) : zJ X M d k q pc L S n h Q := by
  intro D cy b0 cs l p e R s m args below meth c Qw H locs cells slots ls mc ms hF hS hL h1 h2 h3 h4 hf
  obtain ⟨-, -, -, -, -, -, hZ, -⟩ := hF.2.2.2.2.2.2.2.2.1
  exact va_gets hF.1 hF.2.1 hZ hS.2.2.2 hF.2.2.2.2.1 (hF.2.2.2.2.2.1 _ hl) (fun _ z => z) hd (kk D cy b0 cs l p e R s m args below meth c Qw H locs cells slots ls mc ms hF hS hL h1 h2 h3 h4 hf)
theorem z_getP {X : zX} {M : zM} {d k q pc : Nat} {L S : List Value} {n : Nat} {h : zH} {Q : zQ} {idx : Nat} (hd : decode M.2.1 pc = .ok (.getstatic idx, 3)) (hl : Cond.fieldLink M.1.cls idx "PaperTrellis" "POWERS_OF_FOUR" "[I" ∈ zU) (kk : zJ X M d k q (pc + 3) L (.ref 1000002 :: S) n h Q) : zJ X M d k q pc L S n h Q := by
  intro D cy b0 cs l p e R s m args below meth c Qw H locs cells slots ls mc ms hF hS hL h1 h2 h3 h4 hf
  obtain ⟨-, -, -, -, -, -, -, -, hZ, -⟩ := hF.2.2.2.2.2.2.2.2.1
  exact va_gets hF.1 hF.2.1 hZ hS.2.2.2 hF.2.2.2.2.1 (hF.2.2.2.2.2.1 _ hl) (fun _ z => z) hd (kk D cy b0 cs l p e R s m args below meth c Qw H locs cells slots ls mc ms hF hS hL h1 h2 h3 h4 hf)
theorem z_laldT {X : zX} {M : zM} {d k q pc : Nat} {L S : List Value} {n : Nat} {h : zH} {Q : zQ} {i : Int32} (hd : decode M.2.1 pc = .ok (.laload, 1)) (hi : vp_in i 5) (kk : zJ X M d k q (pc + 1) L (zThou i.toNatClampNeg :: S) n h Q) : zJ X M d k q pc L (.int i :: .ref 1000001 :: S) n h Q := by
  intro D cy b0 cs l p e R s m args below meth c Qw H locs cells slots ls mc ms hF hS hL h1 h2 h3 h4 hf
  obtain ⟨-, -, -, -, -, -, -, hT, -⟩ := hF.2.2.2.2.2.2.2.2.1
  exact va_tl hF.1 hF.2.1 hT hS.2.2.2 hi rfl hd (kk D cy b0 cs l p e R s m args below meth c Qw H locs cells slots ls mc ms hF hS hL h1 h2 h3 h4 hf)
theorem z_ialdP {X : zX} {M : zM} {d k q pc : Nat} {L S : List Value} {n : Nat} {h : zH} {Q : zQ} {i : Int32} (hd : decode M.2.1 pc = .ok (.iaload, 1)) (hi : vp_in i 6) (kk : zJ X M d k q (pc + 1) L (zPow i.toNatClampNeg :: S) n h Q) : zJ X M d k q pc L (.int i :: .ref 1000002 :: S) n h Q := by
  intro D cy b0 cs l p e R s m args below meth c Qw H locs cells slots ls mc ms hF hS hL h1 h2 h3 h4 hf
  obtain ⟨-, -, -, -, -, -, -, -, -, hT⟩ := hF.2.2.2.2.2.2.2.2.1
  exact va_ti hF.1 hF.2.1 hT hS.2.2.2 hi rfl hd (kk D cy b0 cs l p e R s m args below meth c Qw H locs cells slots ls mc ms hF hS hL h1 h2 h3 h4 hf)
theorem z_copy {X : zX} {M : zM} {d k q pc : Nat} {L S : List Value} {n : Nat} {h : zH} {Q : zQ} {idx a0 a1 N0 N1 : Nat} {f g : Nat → Int32} {sp dp z : Int32} (hd : decode M.2.1 pc = .ok (.invokestatic idx, 3)) (hlk : Cond.methodLink M.1.cls idx arraycopyName ∈ zU) (hn1 : Cond.native arraycopyName ∈ zU) (hn2 : Cond.static arraycopyName ∈ zU) (hn3 : Cond.initialized "java/lang/System" ∈ zU) (ha0 : h a0 = .inl (0, N0, .inl f)) (ha1 : h a1 = .inl (0, N1, .inl g)) (ha0n : a0 < n) (ha1n : a1 < n) (ha0m : a0 < 1000000) (ha1m : a1 < 1000000)
    (g1 : ¬ sp < 0) (g2 : ¬ dp < 0) (g3 : ¬ z < 0) (g4 : sp.toNatClampNeg + z.toNatClampNeg ≤ N0) (g5 : dp.toNatClampNeg + z.toNatClampNeg ≤ N1) (hdp : 1 ≤ d) (hst : (S.map fun v => v.category).sum ≤ 8) (kk : zJ X M d k q (pc + 3) L S n (va_up h a1 (.inl (0, N1, .inl (va_cpy f g sp.toNatClampNeg dp.toNatClampNeg z.toNatClampNeg)))) Q) : zJ X M d k q pc L (.int z :: .int dp :: .ref a1 :: .int sp :: .ref a0 :: S) n h Q := by
  intro D cy b0 cs l p e R s m args below meth c Qw H locs cells slots ls mc ms hF hS hL h1 h2 h3 h4 hf
  have hw0 := zWl_at (cy := cy) (b0 := b0) (cs := cs) (h := h) ha0n
  have hw1 := zWl_at (cy := cy) (b0 := b0) (cs := cs) (h := h) ha1n
  rw [ha0] at hw0
  rw [ha1] at hw1
  obtain ⟨f1, f2, f3, f4, f5, f6, f7, f8, f9, f10, f11⟩ := id hF
  simp only [List.map_cons, ztr_ref ha0m, ztr_ref ha1m]
  refine va_copyi f1 f2 (f3.trans hL.2.1.symm) f5 (f6 _ hlk) (f6 _ hn1) (f6 _ hn2) (f6 _ hn3) f9.1 hS.2.1 zWl_D hS.rf a0 a1 0 0 hw0 hw1 rfl rfl rfl g1 g2 g3 g4 g5 (fun _ _ => rfl) (by omega) ?_ hd (fun H1 locs1 hP1 _ hS1 => ?_)
  · have : ((S.map (ztr b0 cs)).map fun v => v.category) = S.map fun v => v.category := by
      rw [List.map_map]; exact List.map_congr_left (fun v _ => ztr_cat v)
    rw [this]
    have h64 : nativeFrameWords "java/lang/System" "arraycopy" 5 + 11 ≤ 56 := by decide +kernel
    omega
  have hP1 : va_P D vwCl ((zWl cy b0 cs n h).set a1 (b0 + a1, ztE cy b0 cs (.inl (0, N1, .inl (va_cpy f g sp.toNatClampNeg dp.toNatClampNeg z.toNatClampNeg))))) H1 := hP1
  rw [zWl_set] at hP1
  exact hS.go hP1 hS1 (fun hS1 => kk D cy b0 cs l p e R s m args below meth c Qw H1 locs1 cells slots ls mc ms hF hS1 hL h1 h2 h3 h4 hf)
end
section
def zflat (av : List Value) : List Value := av.flatMap fun v => if v.category = 2 then [v, zu] else [v]
def zargs (nL : Nat) (av : List Value) : List Value := zflat av ++ List.replicate (nL - (zflat av).length) zu
theorem zflat_len (b0 : Nat) (cs : Nat → Nat) : ∀ av : List Value, (lg_sl (av.map (ztr b0 cs))).length = (zflat av).length
  | [] => rfl
  | v :: av => by
    have ih := zflat_len b0 cs av
    unfold lg_sl zflat at *
    simp only [List.map_cons, List.flatMap_cons, List.length_append, ztr_cat] at *
    rw [ih]
    by_cases hv : v.category = 2 <;> simp [hv]
theorem zflat_at (b0 : Nat) (cs : Nat → Nat) : ∀ (av : List Value) (i0 i : Nat) (v : Value), (zflat av)[i]? = some v → v ≠ zu → (i0 + i, ztr b0 cs v) ∈ lv_args i0 (av.map (ztr b0 cs))
  | [], _, i, v, h, _ => by simp [zflat] at h
  | w :: av, i0, i, v, h, hv => by
    unfold zflat at h
    rw [List.flatMap_cons] at h
    rw [List.map_cons]
    unfold lv_args
    rw [ztr_cat]
    by_cases hw : w.category = 2
    · rw [if_pos hw] at h ⊢
      match i, h with
      | 0, h => simp at h; subst h; exact List.mem_cons_self
      | 1, h => simp at h; exact absurd h.symm hv
      | i + 2, h =>
        refine List.mem_cons_of_mem _ ?_
        have h : (zflat av)[i]? = some v := by simpa [zflat] using h
        have := zflat_at b0 cs av (i0 + 2) i v h hv
        rwa [show i0 + 2 + i = i0 + (i + 2) by omega] at this
    · rw [if_neg hw] at h ⊢
      match i, h with
      | 0, h => simp at h; subst h; exact List.mem_cons_self
      | i + 1, h =>
        refine List.mem_cons_of_mem _ ?_
        have h : (zflat av)[i]? = some v := by simpa [zflat] using h
        have := zflat_at b0 cs av (i0 + 1) i v h hv
        rwa [show i0 + 1 + i = i0 + (i + 1) by omega] at this
theorem zargs_L {b0 : Nat} {cs : Nat → Nat} {nL : Nat} {av : List Value} (hlen : (zflat av).length ≤ nL) : zL b0 cs ((lg_sl (av.map (ztr b0 cs)) ++ List.replicate (nL - (lg_sl (av.map (ztr b0 cs))).length) Slot.unset).toArray) nL (zargs nL av) := by
  have hl := lv_entry (av.map (ztr b0 cs)) (n := nL) (by rw [zflat_len]; exact hlen)
  refine ⟨by simp [zargs]; omega, hl.1, hl.2.1, fun i v hi hv => ?_⟩
  by_cases hil : i < (zflat av).length
  · unfold zargs at hi
    rw [List.getElem?_append_left hil] at hi
    have := hl.2.2 _ (zflat_at b0 cs av 0 i v hi hv)
    simpa using this
  · unfold zargs at hi
    rw [List.getElem?_append_right (by omega)] at hi
    have := List.eq_of_mem_replicate (List.mem_of_getElem? hi)
    exact absurd this hv
def zPc (X : zX) (D : va_G) (cy : Nat → ClassId) (b0 : Nat) (cs : Nat → Nat) (av : List Value) (n : Nat) (h : zH) : Array Value → State → Prop := va_Pc (av.map (ztr b0 cs)) (fun U => U.heap.size = b0 + n ∧ va_P D vwCl (zWl cy b0 cs n h) U.heap ∧ zG X D cy b0 cs U)
def zQc (D : va_G) (cy : Nat → ClassId) (b0 : Nat) (cs : Nat → Nat) (k : Nat) (Q : zQ) : Array Value → State → Outcome → State → Prop := fun _ st o t => (∃ r n' h', o = .returned r ∧ r.map (ztr b0 cs) = r ∧ Q r n' h' ∧ t.heap.size = b0 + n' ∧ va_P D vwCl (zWl cy b0 cs n' h') t.heap ∧ t.heap.size = st.heap.size + k) ∧ va_F (fun q => b0 ≤ q) st t
abbrev zrm (d k q : Nat) : Room := { frames := d, cells := k, slots := q, locals := 64 * d }
abbrev zws (M : zM) : List Cond := Cond.code M.1 M.2.1 M.2.2.1 M.2.2.2 :: zU
theorem zMet {X : zX} {M : zM} {d k q : Nat} {av Lc : List Value} {n : Nat} {h : zH} {Q : zQ} (hp : plainName M.1.cls = true) (hlen : (zflat av).length ≤ M.2.2.1) (hLc : zargs M.2.2.1 av = Lc) (hJ : zJ X M d k q 0 Lc [] n h Q) (D : va_G) (cy : Nat → ClassId) (b0 : Nat) (cs : Nat → Nat) (l : Launch) :
    Met l M.1 (zws M) (zrm d k q) (zPc X D cy b0 cs av n h) (zQc D cy b0 cs k Q) k q (fun q => b0 ≤ q) := by
  subst hLc
  refine Met.ofW (cc := M.2.1) (maxL := M.2.2.1) (ret := M.2.2.2) hp rfl ?_
  intro p e s m args below meth c s₁ B hml hv
  obtain ⟨rfl, hsz, hP, hG⟩ := hv
  have hts := atoms_spec (ws := zws M) B.pre
  have hown : s.vm.findClass M.1.cls = some m.cls := findClass_of_methodNamed B.named
  have hnm : meth.name = M.1.name := (name_of_methodNamed B.named B.method).1
  rw [lg_entry_eq]
  refine hJ D cy b0 cs l p e _ s m _ below meth c _ s.heap [] 0 0 _ k q ⟨B.exec, B.bytes, hml, B.returns, hown, fun w hw => hts w (List.mem_cons_of_mem _ hw), B.notSynchronized, fun h => hnm.trans h, hG, Nat.le_refl _, Nat.le_refl _⟩ ⟨hsz, hP, rfl, va_S.rf⟩ (zargs_L hlen) (Nat.zero_add _) (Nat.le_of_eq (Nat.zero_add _)) (Nat.le_refl _) (Nat.le_refl _) ?_
  intro r n' h' H' locs' slots' pc' ls' hq hS' hsl hend
  refine W.widen (Nat.le_refl _) hsl ?_
  rcases hend with ⟨rfl, hr, hd⟩ | ⟨v, ty, rfl, hr, hn, hd⟩ | ⟨v, rfl, hr, hd⟩
  · exact W.vret B.exec B.bytes (B.returns.trans hr) (fun t ht _ => ⟨⟨none, n', h', rfl, rfl, hq, by rw [ht]; exact hS'.1, by rw [ht]; exact hS'.2.1, by rw [ht]; exact hS'.2.2.1⟩, hS'.2.2.2.F ht⟩) (fun q hq => hS'.2.2.2.2.2 q hq) hd
  · exact W.zret B.exec B.bytes (B.returns.trans hr) hn (fun t ht _ => ⟨⟨some (.int v), n', h', rfl, rfl, hq, by rw [ht]; exact hS'.1, by rw [ht]; exact hS'.2.1, by rw [ht]; exact hS'.2.2.1⟩, hS'.2.2.2.F ht⟩) (fun q hq => hS'.2.2.2.2.2 q hq) hd
  · exact W.lret B.exec B.bytes (B.returns.trans hr) (fun t ht _ => ⟨⟨some (.long v), n', h', rfl, rfl, hq, by rw [ht]; exact hS'.1, by rw [ht]; exact hS'.2.1, by rw [ht]; exact hS'.2.2.1⟩, hS'.2.2.2.F ht⟩) (fun q hq => hS'.2.2.2.2.2 q hq) hd
theorem zG.moved {X : zX} {D : va_G} {cy : Nat → ClassId} {b0 : Nat} {cs : Nat → Nat} {s U : State} {H : Heap} {locs : List Loc} (hG : zG X D cy b0 cs s) (hS : va_S (fun q => b0 ≤ q) s.heap H locs) (hU : U.heap = H) (hW : s.WarmedH U.vm) : zG X D cy b0 cs U := by
  obtain ⟨g1, g2, g3, g4, g5, g6, g7, g8, g9, g10⟩ := hG
  have hk : ∀ a : Nat, a < s.heap.size → ¬ (fun q => b0 ≤ q) a → U.heap[a]? = s.heap[a]? := fun a ha hb => by rw [hU]; exact hS.2.1 a ha hb
  have hv := hW.alike
  exact ⟨g1.moved hv, fun q hq => va_Nw.warmM hW (g2 q hq), g3.moved hv, (g4.kept (hk _ (Nat.lt_of_lt_of_le g5 g6) (Nat.not_le.mpr g5))).moved hv, g5, by rw [hU]; exact Nat.le_trans g6 hS.1, (g7.kept hk).moved hv, (g8.kept hk).moved hv, (g9.kept hk).moved hv, (g10.kept hk).moved hv⟩
theorem zPc_blind {X : zX} {D : va_G} {cy : Nat → ClassId} {b0 : Nat} {cs : Nat → Nat} {av : List Value} {n : Nat} {h : zH} : FrameBlind (zPc X D cy b0 cs av n h) := by
  intro a U g mk hq
  obtain ⟨q1, q2, q3, q4⟩ := hq
  exact ⟨q1, q2, q3, q4.moved (H := U.heap) (locs := []) va_S.rf rfl (State.WarmedH.refl U)⟩
/-- behind a call -/
theorem zback {D : va_G} {cy : Nat → ClassId} {b0 : Nat} {cs : Nat → Nat} {s : State} {n : Nat} {h : zH} {H : Heap} {locs : List Loc} {cells slots : Nat} {p : Program} {l : Launch} {e : Env} {R : Room} {m : MethodId} {args : Array Value} {below : List Frame} {meth : Method} {c : Code} {Qw : State → Prop} {pc k1 q1 : Nat} {ls : Array Slot} {st0 rest : List Value} {Q' : zQ} {a : Array Value}
    (hS : zS D cy b0 cs s n h H locs cells) (hr : va_Run p l e R s m args below meth c H locs cells slots k1 q1 (F0 m pc ls st0) rest (zQc D cy b0 cs k1 Q' a) (fun q => b0 ≤ q))
    (kk : ∀ r n' h' H1 locs1, Q' r n' h' → r.map (ztr b0 cs) = r → zS D cy b0 cs s n' h' H1 locs1 (cells + k1) → W p l e R s m args below meth c H1 locs1 (cells + k1) (slots + q1) Qw (F0 m (pc + 3) ls (r.toList ++ rest))) : W p l e R s m args below meth c H locs cells slots Qw (F0 m pc ls st0) := by
  intro T hT X
  obtain ⟨v, st₀, t, T', L, h0, X', hL, e1, e2, ⟨⟨r, n', h', hv, hrr, hq, z1, z2, z3⟩, hz, hk⟩, st⟩ := hr T hT X
  obtain rfl : v = r := by simpa using hv
  rw [h0] at hz hk z3
  obtain ⟨hs1, hs2, hs3, hs4⟩ := hS
  obtain ⟨t2, a1, b1⟩ := kk v n' h' T'.heap (locs ++ L) hq hrr ⟨by rw [e1]; exact z1, by rw [e1]; exact z2, by rw [e1]; omega, ⟨Nat.le_trans hs4.1 (by rw [e1]; exact hz), fun q g1 g2 => by
      rw [e1, hk q (Nat.lt_of_lt_of_le g1 hs4.1) g2]; exact hs4.2.1 q g1 g2, fun q hq => by
      rcases List.mem_append.mp hq with h | h
      · exact hs4.2.2 q h
      · exact hL q h⟩⟩ T' rfl X'
  exact ⟨t2, st t2 a1, b1⟩
theorem zsum {b0 : Nat} {cs : Nat → Nat} (S : List Value) : ((S.map (ztr b0 cs)).map fun v => v.category) = S.map fun v => v.category := by
  rw [List.map_map]; exact List.map_congr_left (fun v _ => ztr_cat v)
theorem zrest {b0 : Nat} {cs : Nat → Nat} {r : Option Value} {S : List Value} (hr : r.map (ztr b0 cs) = r) : (r.toList ++ S).map (ztr b0 cs) = r.toList ++ S.map (ztr b0 cs) := by
  cases r with
  | none => rfl
  | some v =>
    simp only [Option.map_some, Option.some.injEq] at hr
    simp [hr]
/-- a callee's own facts -/
def zcal (M : zM) (na : Nat) : Prop := Cond.code M.1 M.2.1 M.2.2.1 M.2.2.2 ∈ zU ∧ Cond.initialized M.1.cls ∈ zU ∧ plainName M.1.cls = true ∧ M.1.cls ≠ "java/lang/invoke/MethodHandle" ∧ M.1.cls ≠ "java/lang/invoke/VarHandle" ∧ (parseMethodDescriptor M.1.desc).map (fun d => d.parameters.length) = some na ∧ M.2.2.1 ≤ 40
theorem zgood {M M' : zM} {na : Nat} (hc : zcal M' na) : GoodIn zU (zws M') := fun w hw => by
  rcases List.mem_cons.mp hw with rfl | hw
  · exact ⟨hc.1, good_of_word (zU_good hc.1)⟩
  · exact ⟨hw, good_of_word (zU_good hw)⟩
theorem zCallV {X : zX} {M : zM} {d k q pc : Nat} {L S : List Value} {n : Nat} {h : zH} {Q : zQ} {M' : zM} {idx na k1 q1 : Nat} {a : Nat} {As Lc : List Value} {Q' : zQ} (hd : decode M.2.1 pc = .ok (.invokevirtual idx, 3)) (hlk : Cond.methodLink M.1.cls idx M'.1 ∈ zU) (hw1 : Cond.instanceMethod M'.1 ∈ zU) (hw2 : Cond.selects M'.1.cls M'.1 M'.1 ∈ zU) {ci : Nat} {fs : List Value} {T : u_T} {N : Nat} (ha : h a = .inr (ci, fs)) (han : a < n) (hci : vwCl[ci]? = some (M'.1.cls, T, N)) (ham : a < 1000000) (hc : zcal M' na) (hna : As.length = na) (hst : (S.map fun v => v.category).sum ≤ 8) (hlen : (zflat (.ref a :: As)).length ≤ M'.2.2.1) (hLc : zargs M'.2.2.1 (.ref a :: As) = Lc)
    (hJ : zJ X M' d k1 q1 0 Lc [] n h Q') (kk : ∀ r n' h', Q' r n' h' → zJ X M (d + 1) k q (pc + 3) L (r.toList ++ S) n' h' Q) : zJ X M (d + 1) (k1 + k) (q1 + q) pc L (As.reverse ++ .ref a :: S) n h Q := by
  intro D cy b0 cs l p e R s m args below meth c Qw H locs cells slots ls mc ms hF hS hL h1 h2 h3 h4 hf
  obtain ⟨f1, f2, f3, f4, f5, f6, f7, f8, f9, f10, f11⟩ := id hF
  have hM := zMet hc.2.2.1 hlen hLc hJ D cy b0 cs l
  have hst' : ((S.map (ztr b0 cs)).map fun v => v.category).sum ≤ 8 := by rw [zsum]; exact hst
  have hR : (zrm d k1 q1).frames + 1 ≤ R.frames ∧ 8 + (M'.2.2.1 + 11) + (zrm d k1 q1).locals ≤ R.locals := ⟨f10, by have := hc.2.2.2.2.2.2; show 8 + (M'.2.2.1 + 11) + 64 * d ≤ _; omega⟩
  have hpre : ∀ U : State, U.heap = H → s.WarmedH U.vm → zPc X D cy b0 cs (.ref a :: As) n h (((.ref a :: As).map (ztr b0 cs))).toArray U := fun U hU hW => ⟨rfl, by rw [hU]; exact hS.1, by rw [hU]; exact hS.2.1, f9.moved hS.2.2.2 hU hW⟩
  rw [List.map_append, List.map_reverse]
  rw [List.map_cons] at hpre ⊢
  rw [ztr_ref ham] at hpre ⊢
  have hw := zWl_at (cy := cy) (b0 := b0) (cs := cs) (h := h) han
  rw [ha] at hw
  have cw : CallW R s args M.1.cls M'.1.cls idx M'.1 M'.2.1 M'.2.2.1 M'.2.2.2 (zws M') (zrm d k1 q1) k1 q1 na := ⟨callB_of na f6 (zgood (M := M) hc) rfl rfl rfl (f6 _ hc.2.1) (f6 _ hlk) ⟨hc.2.2.2.1, hc.2.2.2.2.1, hc.2.2.2.2.2.1⟩ hR, f6 _ hw1, f6 _ hw2⟩
  refine zback hS (va_runV (As := As.map (ztr b0 cs)) (rest := S.map (ztr b0 cs)) (C := M'.1.cls) (b := b0 + a) ⟨f1, f2, f3, f5, f6⟩ hM cw ⟨zPc_blind, va_recv f9.1 hS.2.1 hci hw, hpre⟩ rfl (by rw [List.length_map]; exact hna) hL.2.1 rfl (lv_room hst') hd ⟨by omega, by omega⟩) ?_
  intro r n' h' H1 locs1 hq hr hS1
  rw [← zrest hr]
  exact kk r n' h' hq D cy b0 cs l p e R s m args below meth c Qw H1 locs1 (cells + k1) (slots + q1) ls mc ms hF hS1 hL (by omega) (by omega) h3 h4 hf
theorem zCallS {X : zX} {M : zM} {d k q pc : Nat} {L S : List Value} {n : Nat} {h : zH} {Q : zQ} {M' : zM} {idx na k1 q1 : Nat} {As Lc : List Value} {Q' : zQ} (hd : decode M.2.1 pc = .ok (.invokestatic idx, 3)) (hlk : Cond.methodLink M.1.cls idx M'.1 ∈ zU) (hw1 : Cond.static M'.1 ∈ zU) (hc : zcal M' na) (hna : As.length = na) (hst : (S.map fun v => v.category).sum ≤ 8) (hlen : (zflat As).length ≤ M'.2.2.1) (hLc : zargs M'.2.2.1 As = Lc)
    (hJ : zJ X M' d k1 q1 0 Lc [] n h Q') (kk : ∀ r n' h', Q' r n' h' → zJ X M (d + 1) k q (pc + 3) L (r.toList ++ S) n' h' Q) : zJ X M (d + 1) (k1 + k) (q1 + q) pc L (As.reverse ++ S) n h Q := by
  intro D cy b0 cs l p e R s m args below meth c Qw H locs cells slots ls mc ms hF hS hL h1 h2 h3 h4 hf
  obtain ⟨f1, f2, f3, f4, f5, f6, f7, f8, f9, f10, f11⟩ := id hF
  have hM := zMet hc.2.2.1 hlen hLc hJ D cy b0 cs l
  have hst' : ((S.map (ztr b0 cs)).map fun v => v.category).sum ≤ 8 := by rw [zsum]; exact hst
  have hR : (zrm d k1 q1).frames + 1 ≤ R.frames ∧ 8 + (M'.2.2.1 + 11) + (zrm d k1 q1).locals ≤ R.locals := ⟨f10, by have := hc.2.2.2.2.2.2; show 8 + (M'.2.2.1 + 11) + 64 * d ≤ _; omega⟩
  have hpre : ∀ U : State, U.heap = H → s.WarmedH U.vm → zPc X D cy b0 cs As n h ((As.map (ztr b0 cs))).toArray U := fun U hU hW => ⟨rfl, by rw [hU]; exact hS.1, by rw [hU]; exact hS.2.1, f9.moved hS.2.2.2 hU hW⟩
  rw [List.map_append, List.map_reverse]
  have cw : CallB R s args M.1.cls idx M'.1 M'.2.1 M'.2.2.1 M'.2.2.2 (zws M') (zrm d k1 q1) k1 q1 na ∧ (Cond.static M'.1).before args s = true := ⟨callB_of na f6 (zgood (M := M) hc) rfl rfl rfl (f6 _ hc.2.1) (f6 _ hlk) ⟨hc.2.2.2.1, hc.2.2.2.2.1, hc.2.2.2.2.2.1⟩ hR, f6 _ hw1⟩
  refine zback hS (va_runS (As := As.map (ztr b0 cs)) (rest := S.map (ztr b0 cs)) ⟨f1, f2, f3, f5, f6⟩ hM cw ⟨zPc_blind, hpre⟩ rfl (by rw [List.length_map]; exact hna) hL.2.1 rfl (lv_room hst') hd ⟨by omega, by omega⟩) ?_
  intro r n' h' H1 locs1 hq hr hS1
  rw [← zrest hr]
  exact kk r n' h' hq D cy b0 cs l p e R s m args below meth c Qw H1 locs1 (cells + k1) (slots + q1) ls mc ms hF hS1 hL (by omega) (by omega) h3 h4 hf
theorem zCallI {X : zX} {M : zM} {d k q pc : Nat} {L S : List Value} {n : Nat} {h : zH} {Q : zQ} {M' : zM} {idx na k1 q1 : Nat} {a : Nat} {As Lc : List Value} {Q' : zQ} (hd : decode M.2.1 pc = .ok (.invokespecial idx, 3)) (hlk : Cond.methodLink M.1.cls idx M'.1 ∈ zU) (hw1 : Cond.instanceMethod M'.1 ∈ zU) (hw2 : M'.1.name = "<init>") (hrt : M'.2.2.2 = none) (ham : a < 1000000) (hc : zcal M' na) (hna : As.length = na) (hst : (S.map fun v => v.category).sum ≤ 8) (hlen : (zflat (.ref a :: As)).length ≤ M'.2.2.1) (hLc : zargs M'.2.2.1 (.ref a :: As) = Lc)
    (hJ : zJ X M' d k1 q1 0 Lc [] n h Q') (kk : ∀ r n' h', Q' r n' h' → zJ X M (d + 1) k q (pc + 3) L (r.toList ++ S) n' h' Q) : zJ X M (d + 1) (k1 + k) (q1 + q) pc L (As.reverse ++ .ref a :: S) n h Q := by
  intro D cy b0 cs l p e R s m args below meth c Qw H locs cells slots ls mc ms hF hS hL h1 h2 h3 h4 hf
  obtain ⟨f1, f2, f3, f4, f5, f6, f7, f8, f9, f10, f11⟩ := id hF
  have hM := zMet hc.2.2.1 hlen hLc hJ D cy b0 cs l
  have hst' : ((S.map (ztr b0 cs)).map fun v => v.category).sum ≤ 8 := by rw [zsum]; exact hst
  have hR : (zrm d k1 q1).frames + 1 ≤ R.frames ∧ 8 + (M'.2.2.1 + 11) + (zrm d k1 q1).locals ≤ R.locals := ⟨f10, by have := hc.2.2.2.2.2.2; show 8 + (M'.2.2.1 + 11) + 64 * d ≤ _; omega⟩
  have hpre : ∀ U : State, U.heap = H → s.WarmedH U.vm → zPc X D cy b0 cs (.ref a :: As) n h (((.ref a :: As).map (ztr b0 cs))).toArray U := fun U hU hW => ⟨rfl, by rw [hU]; exact hS.1, by rw [hU]; exact hS.2.1, f9.moved hS.2.2.2 hU hW⟩
  rw [List.map_append, List.map_reverse]
  rw [List.map_cons] at hpre ⊢
  rw [ztr_ref ham] at hpre ⊢
  have cw : CallB R s args M.1.cls idx M'.1 M'.2.1 M'.2.2.1 M'.2.2.2 (zws M') (zrm d k1 q1) k1 q1 na ∧ M'.1.name = "<init>" ∧ (Cond.instanceMethod M'.1).before args s = true := ⟨callB_of na f6 (zgood (M := M) hc) rfl rfl rfl (f6 _ hc.2.1) (f6 _ hlk) ⟨hc.2.2.2.1, hc.2.2.2.2.1, hc.2.2.2.2.2.1⟩ hR, hw2, f6 _ hw1⟩
  rw [hrt] at cw
  refine zback hS (va_runI (As := As.map (ztr b0 cs)) (rest := S.map (ztr b0 cs)) (b := b0 + a) ⟨f1, f2, f3, f5, f6⟩ hM cw ⟨zPc_blind, hpre⟩ rfl (by rw [List.length_map]; exact hna) hL.2.1 rfl (lv_room hst') hd ⟨by omega, by omega⟩) ?_
  intro r n' h' H1 locs1 hq hr hS1
  rw [← zrest hr]
  exact kk r n' h' hq D cy b0 cs l p e R s m args below meth c Qw H1 locs1 (cells + k1) (slots + q1) ls mc ms hF hS1 hL (by omega) (by omega) h3 h4 hf
theorem zCallSN {X : zX} {M : zM} {d k q pc : Nat} {L S : List Value} {n : Nat} {h : zH} {Q : zQ} {M' : zM} {idx na k1 q1 : Nat} {As Lc : List Value} {Q' : zQ} (hd : decode M.2.1 pc = .ok (.invokestatic idx, 3)) {host : String} (hlk : (M.1.cls, idx, M'.1, host) ∈ zN) (hw1 : Cond.static M'.1 ∈ zU) (hc : zcal M' na) (hna : As.length = na) (hst : (S.map fun v => v.category).sum ≤ 8) (hlen : (zflat As).length ≤ M'.2.2.1) (hLc : zargs M'.2.2.1 As = Lc)
    (hJ : zJ X M' d k1 q1 0 Lc [] n h Q') (kk : ∀ r n' h', Q' r n' h' → zJ X M (d + 1) k q (pc + 3) L (r.toList ++ S) n' h' Q) : zJ X M (d + 1) (k1 + k) (q1 + q) pc L (As.reverse ++ S) n h Q := by
  intro D cy b0 cs l p e R s m args below meth c Qw H locs cells slots ls mc ms hF hS hL h1 h2 h3 h4 hf
  obtain ⟨f1, f2, f3, f4, f5, f6, f7, f8, f9, f10, f11⟩ := id hF
  have hM := zMet hc.2.2.1 hlen hLc hJ D cy b0 cs l
  have hst' : ((S.map (ztr b0 cs)).map fun v => v.category).sum ≤ 8 := by rw [zsum]; exact hst
  have hR : (zrm d k1 q1).frames + 1 ≤ R.frames ∧ 8 + (M'.2.2.1 + 11) + (zrm d k1 q1).locals ≤ R.locals := ⟨f10, by have := hc.2.2.2.2.2.2; show 8 + (M'.2.2.1 + 11) + 64 * d ≤ _; omega⟩
  have hpre : ∀ U : State, U.heap = H → s.WarmedH U.vm → zPc X D cy b0 cs As n h ((As.map (ztr b0 cs))).toArray U := fun U hU hW => ⟨rfl, by rw [hU]; exact hS.1, by rw [hU]; exact hS.2.1, f9.moved hS.2.2.2 hU hW⟩
  rw [List.map_append, List.map_reverse]
  have cw := va_cnB (R := R) (args := args) (mc := k1) (ms := q1) (rm := zrm d k1 q1) na f6 (zgood (M := M) hc) rfl rfl rfl (f9.2.1 _ hlk) (f6 _ hc.2.1) ⟨hc.2.2.2.1, hc.2.2.2.2.1, hc.2.2.2.2.2.1⟩ hR
  refine zback hS (va_runSN (As := As.map (ztr b0 cs)) (rest := S.map (ztr b0 cs)) ⟨f1, f2, f3, f5, f6⟩ hM ⟨cw, f6 _ hw1, trivial⟩ ⟨zPc_blind, hpre⟩ rfl (by rw [List.length_map]; exact hna) hL.2.1 rfl (lv_room hst') hd ⟨by omega, by omega⟩) ?_
  intro r n' h' H1 locs1 hq hr hS1
  rw [← zrest hr]
  exact kk r n' h' hq D cy b0 cs l p e R s m args below meth c Qw H1 locs1 (cells + k1) (slots + q1) ls mc ms hF hS1 hL (by omega) (by omega) h3 h4 hf
theorem zCallIN {X : zX} {M : zM} {d k q pc : Nat} {L S : List Value} {n : Nat} {h : zH} {Q : zQ} {M' : zM} {idx na k1 q1 : Nat} {a : Nat} {As Lc : List Value} {Q' : zQ} (hd : decode M.2.1 pc = .ok (.invokespecial idx, 3)) {host : String} (hlk : (M.1.cls, idx, M'.1, host) ∈ zN) (hw1 : Cond.instanceMethod M'.1 ∈ zU) (hw2 : M'.1.name = "<init>") (hrt : M'.2.2.2 = none) (ham : a < 1000000) (hc : zcal M' na) (hna : As.length = na) (hst : (S.map fun v => v.category).sum ≤ 8) (hlen : (zflat (.ref a :: As)).length ≤ M'.2.2.1) (hLc : zargs M'.2.2.1 (.ref a :: As) = Lc)
    (hJ : zJ X M' d k1 q1 0 Lc [] n h Q') (kk : ∀ r n' h', Q' r n' h' → zJ X M (d + 1) k q (pc + 3) L (r.toList ++ S) n' h' Q) : zJ X M (d + 1) (k1 + k) (q1 + q) pc L (As.reverse ++ .ref a :: S) n h Q := by
  intro D cy b0 cs l p e R s m args below meth c Qw H locs cells slots ls mc ms hF hS hL h1 h2 h3 h4 hf
  obtain ⟨f1, f2, f3, f4, f5, f6, f7, f8, f9, f10, f11⟩ := id hF
  have hM := zMet hc.2.2.1 hlen hLc hJ D cy b0 cs l
  have hst' : ((S.map (ztr b0 cs)).map fun v => v.category).sum ≤ 8 := by rw [zsum]; exact hst
  have hR : (zrm d k1 q1).frames + 1 ≤ R.frames ∧ 8 + (M'.2.2.1 + 11) + (zrm d k1 q1).locals ≤ R.locals := ⟨f10, by have := hc.2.2.2.2.2.2; show 8 + (M'.2.2.1 + 11) + 64 * d ≤ _; omega⟩
  have hpre : ∀ U : State, U.heap = H → s.WarmedH U.vm → zPc X D cy b0 cs (.ref a :: As) n h (((.ref a :: As).map (ztr b0 cs))).toArray U := fun U hU hW => ⟨rfl, by rw [hU]; exact hS.1, by rw [hU]; exact hS.2.1, f9.moved hS.2.2.2 hU hW⟩
  rw [List.map_append, List.map_reverse]
  rw [List.map_cons] at hpre ⊢
  rw [ztr_ref ham] at hpre ⊢
  have cw := va_cnB (R := R) (args := args) (mc := k1) (ms := q1) (rm := zrm d k1 q1) na f6 (zgood (M := M) hc) rfl rfl rfl (f9.2.1 _ hlk) (f6 _ hc.2.1) ⟨hc.2.2.2.1, hc.2.2.2.2.1, hc.2.2.2.2.2.1⟩ hR
  rw [hrt] at cw
  refine zback hS (va_runIN (As := As.map (ztr b0 cs)) (rest := S.map (ztr b0 cs)) (b := b0 + a) ⟨f1, f2, f3, f5, f6⟩ hM ⟨cw, hw2, f6 _ hw1⟩ ⟨zPc_blind, hpre⟩ rfl (by rw [List.length_map]; exact hna) hL.2.1 rfl (lv_room hst') hd ⟨by omega, by omega⟩) ?_
  intro r n' h' H1 locs1 hq hr hS1
  rw [← zrest hr]
  exact kk r n' h' hq D cy b0 cs l p e R s m args below meth c Qw H1 locs1 (cells + k1) (slots + q1) ls mc ms hF hS1 hL (by omega) (by omega) h3 h4 hf
theorem z_objInit {X : zX} {M : zM} {d k q pc : Nat} {L S : List Value} {n : Nat} {h : zH} {Q : zQ} {idx a : Nat} (hd : decode M.2.1 pc = .ok (.invokespecial idx, 3)) (hlk : Cond.methodLink M.1.cls idx Lib.objectInit ∈ zU) (hw1 : Cond.instanceMethod Lib.objectInit ∈ zU) (hw2 : Cond.code Lib.objectInit ⟨#[0xb1]⟩ 1 none ∈ zU) (hst : (S.map fun v => v.category).sum ≤ 8) (hdp : 1 ≤ d) (kk : zJ X M d k q (pc + 3) L S n h Q) : zJ X M d k q pc L (.ref a :: S) n h Q := by
  intro D cy b0 cs l p e R s m args below meth c Qw H locs cells slots ls mc ms hF hS hL h1 h2 h3 h4 hf
  obtain ⟨f1, f2, f3, f4, f5, f6, f7, f8, f9, f10, f11⟩ := id hF
  have hst' : ((S.map (ztr b0 cs)).map fun v => v.category).sum ≤ 8 := by rw [zsum]; exact hst
  refine W.objInit f1 f2 f5 (f6 _ hlk) (f6 _ hw1) (f6 _ hw2) rfl (hL.2.1.trans f3.symm) rfl hd (by omega) ?_ (kk D cy b0 cs l p e R s m args below meth c Qw H locs cells slots ls mc ms hF hS hL h1 h2 h3 h4 hf)
  show 2 * 0 + _ + 12 ≤ _
  omega
theorem z_min {X : zX} {M : zM} {d k q pc : Nat} {L S : List Value} {n : Nat} {h : zH} {Q : zQ} {idx : Nat} {x y : Int32} (hd : decode M.2.1 pc = .ok (.invokestatic idx, 3)) (hlk : Cond.methodLink M.1.cls idx Lib.Math.min.name ∈ zU) (hw1 : Cond.static Lib.Math.min.name ∈ zU) (hw2 : Cond.initialized "java/lang/Math" ∈ zU) (hw3 : Cond.code Lib.Math.min.name Lib.Math.min.code 2 (some .int) ∈ zU) (hst : (S.map fun v => v.category).sum ≤ 8) (hdp : 1 ≤ d) (kk : zJ X M d k q (pc + 3) L (.int (if y < x then y else x) :: S) n h Q) : zJ X M d k q pc L (.int y :: .int x :: S) n h Q := by
  intro D cy b0 cs l p e R s m args below meth c Qw H locs cells slots ls mc ms hF hS hL h1 h2 h3 h4 hf
  obtain ⟨f1, f2, f3, f4, f5, f6, f7, f8, f9, f10, f11⟩ := id hF
  have hst' : ((S.map (ztr b0 cs)).map fun v => v.category).sum ≤ 8 := by rw [zsum]; exact hst
  have kk := kk D cy b0 cs l p e R s m args below meth c Qw H locs cells slots ls mc ms hF hS hL h1 h2 h3 h4 hf
  exact va_mmin f1 f2 (f3.trans hL.2.1.symm) f5 (f6 _ hlk) (f6 _ hw1) (f6 _ hw2) (f6 _ hw3) (by omega) (by omega) (by omega) (by omega) hd kk
theorem z_abs {X : zX} {M : zM} {d k q pc : Nat} {L S : List Value} {n : Nat} {h : zH} {Q : zQ} {idx : Nat} {x : Int32} (hd : decode M.2.1 pc = .ok (.invokestatic idx, 3)) (hlk : Cond.methodLink M.1.cls idx Lib.Math.abs.name ∈ zU) (hw1 : Cond.static Lib.Math.abs.name ∈ zU) (hw2 : Cond.initialized "java/lang/Math" ∈ zU) (hw3 : Cond.code Lib.Math.abs.name Lib.Math.abs.code 1 (some .int) ∈ zU) (hst : (S.map fun v => v.category).sum ≤ 8) (hdp : 1 ≤ d) (kk : zJ X M d k q (pc + 3) L (.int (if 0 ≤ x then x else 0 - x) :: S) n h Q) : zJ X M d k q pc L (.int x :: S) n h Q := by
  intro D cy b0 cs l p e R s m args below meth c Qw H locs cells slots ls mc ms hF hS hL h1 h2 h3 h4 hf
  obtain ⟨f1, f2, f3, f4, f5, f6, f7, f8, f9, f10, f11⟩ := id hF
  have hst' : ((S.map (ztr b0 cs)).map fun v => v.category).sum ≤ 8 := by rw [zsum]; exact hst
  have kk := kk D cy b0 cs l p e R s m args below meth c Qw H locs cells slots ls mc ms hF hS hL h1 h2 h3 h4 hf
  exact va_mabs f1 f2 (f3.trans hL.2.1.symm) f5 (f6 _ hlk) (f6 _ hw1) (f6 _ hw2) (f6 _ hw3) (by omega) (by omega) (by omega) (by omega) hd kk
end
section
/-! THE CLAIM OUT OF ONE WALK OF THE LAW'S BODY. Your part is whole_start (and what it stands on); all else here is the same for every law, but numbers. -/
def R_law : String := "PaperTrellisLaw"
def lw_P (b : Addr) (xs : List Int32) (args : Array Value) (s : State) : Prop := args = #[.ref b] ∧ s.IntsAt b xs ∧ xs.length ≤ 256 ∧ (Jvm.Cond.and given_1 narrow_1).before args s = true
def lw_Q (_ : Array Value) (s : State) (o : Outcome) (t : State) : Prop := o = .returned (some (.int 1)) ∧ Framed s o t [] 600000 7302250
def lw_Z (below : List Frame) (a : Array Value) (s : State) : State → Prop := fun t => ∃ o, t.status = .running ∧ Ended t below o ∧ lw_Q a s o t
/-- the law's own end, with 1 on the stack, nothing written that was there before, its room as the claim has it -/
theorem lw_ret {p : Program} {l : Launch} {e : Env} {s : State} {m : MethodId} {below : List Frame} {meth : Method} {c : Code} {b : Nat} (hx : p.tables.exec = Jvm.exec) (hb : c.code = code) (hr : meth.sig.returnType = ret) (hlocks : meth.locks = false) {pc : Nat} {H : Heap} {ls : Array Slot} (hdg : decode code pc = .ok (.ireturn, 1)) : W p l e room_1 s m #[Value.ref b] below meth c H [] 600000 7302250 (lw_Z below #[Value.ref b] s) (F0 m pc ls [.int 1]) := by
  intro T hT X
  obtain ⟨fs, hret, hrun, hended, hW, hframe⟩ := X.leave (v := some (.int 1)) (hlocks := hlocks) (fun h => by rw [hr] at h; cases h)
  have hmeth' : T.vm.method? m = some meth := X.method'
  refine ⟨T.setFrames fs, ?_, .returned (some (.int 1)), hrun, hended, rfl, ⟨_, rfl⟩, hW, hframe⟩
  jvm_step X.here [X.here.top, hx, hb, hdg, hmeth', hr, ret, narrow_b1]
  (try refine ⟨rfl, ?_⟩); (try refine ⟨rfl, ?_⟩)
  first | (intro acts; rw [hret _ acts rfl rfl rfl]) | rw [hret _ _ rfl rfl rfl]
  exact Steps.refl _
/-- what holds at the law's entry: the machine, the code, the tables' words (any of lw_tbl by 'hts w (by decide +kernel)'), the script of L ints xs at the cell b, what the Statement gives of the start (any of its parts by flat_of_before) -/
def lw_At (p : Program) (s : State) (m : MethodId) (meth : Method) (c : Code) (b L : Nat) (xs : Nat → Int32) : Prop :=
  p.tables.exec = Jvm.exec ∧ c.code = code ∧ meth.sig.returnType = ret ∧ c.maxLocals = 4 ∧ s.vm.findClass R_law = some m.cls ∧ (∀ w ∈ lw_tbl, w.before #[Value.ref b] s = true) ∧ va_X b L xs s s.heap ∧ b < s.heap.size ∧ meth.locks = false ∧ (Jvm.Cond.and given_1 narrow_1).before #[Value.ref b] s = true
end
section
def M_law : zM := (yL_law, cL_law, 4, some .boolean)
theorem zK_of {s : State} {args : Array Value} (hts : ∀ w ∈ lw_tbl, w.before args s = true) : ∃ (D : va_G) (cy : Nat → ClassId), va_K D vwCl (ztys cy) s := by
  have htU : ∀ w ∈ zU, w.before args s = true := fun w hw => hts w (List.mem_filter.mp hw).1
  obtain ⟨c0, iS0, hKn0⟩ := u_known (C := RX0) (T := TX0) (N := 3) (n := 3) htU iX0 (hts (.instantiable RX0 3) (by decide +kernel))
  obtain ⟨c1, iS1, hKn1⟩ := u_known (C := RX1) (T := TX1) (N := 1) (n := 1) htU iX1 (hts (.instantiable RX1 1) (by decide +kernel))
  obtain ⟨c2, iS2, hKn2⟩ := u_known (C := RX2) (T := TX2) (N := 2) (n := 2) htU iX2 (hts (.instantiable RX2 2) (by decide +kernel))
  obtain ⟨c3, iS3, hKn3⟩ := u_known (C := RX3) (T := TX3) (N := 11) (n := 11) htU iX3 (hts (.instantiable RX3 11) (by decide +kernel))
  obtain ⟨c4, iS4, hKn4⟩ := u_known (C := RX4) (T := TX4) (N := 3) (n := 3) htU iX4 (hts (.instantiable RX4 3) (by decide +kernel))
  obtain ⟨c5, iS5, hKn5⟩ := u_known (C := RX5) (T := TX5) (N := 4) (n := 4) htU iX5 (hts (.instantiable RX5 4) (by decide +kernel))
  obtain ⟨c6, iS6, hKn6⟩ := u_known (C := RX6) (T := TX6) (N := 4) (n := 4) htU iX6 (hts (.instantiable RX6 4) (by decide +kernel))
  obtain ⟨c7, iS7, hKn7⟩ := u_known (C := RX7) (T := TX7) (N := 2) (n := 2) htU iX7 (hts (.instantiable RX7 2) (by decide +kernel))
  obtain ⟨c8, iS8, hKn8⟩ := u_known (C := RX8) (T := TX8) (N := 13) (n := 13) htU iX8 (hts (.instantiable RX8 13) (by decide +kernel))
  obtain ⟨c9, iS9, hKn9⟩ := u_known (C := RX9) (T := TX9) (N := 36) (n := 36) htU iX9 (hts (.instantiable RX9 36) (by decide +kernel))
  obtain ⟨cI, kI, compI, hcI, hkI, hkindI⟩ := Cond.arrayClass_spec (hts (.arrayClass .int) (by decide +kernel))
  obtain ⟨cZ, kZ, compZ, hcZ, hkZ, hkindZ⟩ := Cond.arrayClass_spec (hts (.arrayClass .boolean) (by decide +kernel))
  obtain ⟨comp, cQ, kQ, h1, h2, h3, h4, h5⟩ := Cond.arrayOver_spec (hts (.arrayOver (.object "PaperTrellis$Scene")) (by decide +kernel))
  refine ⟨(fun k => match k with | 0 => c0 | 1 => c1 | 2 => c2 | 3 => c3 | 4 => c4 | 5 => c5 | 6 => c6 | 7 => c7 | 8 => c8 | _ => c9, fun k => match k with | 0 => iS0 | 1 => iS1 | 2 => iS2 | 3 => iS3 | 4 => iS4 | 5 => iS5 | 6 => iS6 | 7 => iS7 | 8 => iS8 | _ => iS9), fun k => match k with | 0 => cI | 1 => cZ | _ => cQ, ?_, ?_⟩
  · intro k q hq
    match k, hq with
    | 0, hq => cases hq; exact hKn0
    | 1, hq => cases hq; exact hKn1
    | 2, hq => cases hq; exact hKn2
    | 3, hq => cases hq; exact hKn3
    | 4, hq => cases hq; exact hKn4
    | 5, hq => cases hq; exact hKn5
    | 6, hq => cases hq; exact hKn6
    | 7, hq => cases hq; exact hKn7
    | 8, hq => cases hq; exact hKn8
    | 9, hq => cases hq; exact hKn9
    | k + 10, hq => simp at hq
  · intro k q hq
    match k, hq with
    | 0, hq => cases hq; exact ⟨fun N z => ⟨fun k h => (by cases h), kI, hkI, compI, hkindI⟩, hcI⟩
    | 1, hq => cases hq; exact ⟨fun N z => ⟨fun k h => (by cases h), kZ, hkZ, compZ, hkindZ⟩, hcZ⟩
    | 2, hq => cases hq; exact ⟨fun N z => ⟨fun k h => (by cases h), kQ, h3, comp, h4⟩, kQ, comp, h3, h4, h1, h5⟩
    | k + 3, hq => simp [ztys] at hq
theorem zN_in : ∀ q ∈ zN, Cond.methodLinkNest q.1 q.2.1 q.2.2.1 q.2.2.2 ∈ lw_tbl := by decide +kernel
theorem zstart {p : Program} {e : Env} {s : State} {m : MethodId} {below : List Frame} {meth : Method} {c : Code} (l : Launch) {b SL : Nat} {xs : Nat → Int32} (C0 : lw_At p s m meth c b SL xs) {k q : Nat} (hk : k ≤ 600000) (hq : q ≤ 7302250) {h0 : zH} {Q : zQ} (hQ : ∀ r n h, Q r n h → r = some (.int 1)) (hJ : zJ (SL, xs) M_law 1000 k q 0 [.ref 1000000, zu, zu, zu] [] 0 h0 Q) :
    W p l e room_1 s m #[Value.ref b] below meth c s.heap [] 0 0 (lw_Z below #[Value.ref b] s) (entryFrame m ([Value.ref b] : List Value).toArray 4) := by
  obtain ⟨hx, hb, hr, hml, hown, hts, hX, hbl, hlocks, hgv⟩ := id C0
  obtain ⟨D, cy, hK⟩ := zK_of hts
  have hfl := flat_of_before _ hgv
  have hA : ∀ a : Nat, a < s.heap.size → ¬ (fun q => s.heap.size ≤ q) a := fun a ha => Nat.not_le.mpr ha
  obtain ⟨tT, eT, hT⟩ := va_Tof (args := #[Value.ref b]) (s := s) (tm := .static "PaperTrellis" "THOUSANDS" "[J") (ty := .long) (N := 5) (f := zThou) (A := fun q => s.heap.size ≤ q) (by decide) (hfl _ (by decide +kernel)) (va_eqt (hfl _ (by decide +kernel)))
    (fun j hj => by
      match j, hj with
      | 0, _ => exact va_eqtl (z := 1) (hfl _ (by decide +kernel))
      | 1, _ => exact va_eqtl (z := 1000) (hfl _ (by decide +kernel))
      | 2, _ => exact va_eqtl (z := 1000000) (hfl _ (by decide +kernel))
      | 3, _ => exact va_eqtl (z := 1000000000) (hfl _ (by decide +kernel))
      | 4, _ => exact va_eqtl (z := 1000000000000) (hfl _ (by decide +kernel))) hA
  obtain ⟨tP, eP, hP⟩ := va_Tof (args := #[Value.ref b]) (s := s) (tm := .static "PaperTrellis" "POWERS_OF_FOUR" "[I") (ty := .int) (N := 6) (f := zPow) (A := fun q => s.heap.size ≤ q) (by decide) (hfl _ (by decide +kernel)) (va_eqt (hfl _ (by decide +kernel)))
    (fun j hj => by
      match j, hj with
      | 0, _ => exact va_eqt (z := 1) (hfl _ (by decide +kernel))
      | 1, _ => exact va_eqt (z := 4) (hfl _ (by decide +kernel))
      | 2, _ => exact va_eqt (z := 16) (hfl _ (by decide +kernel))
      | 3, _ => exact va_eqt (z := 64) (hfl _ (by decide +kernel))
      | 4, _ => exact va_eqt (z := 256) (hfl _ (by decide +kernel))
      | 5, _ => exact va_eqt (z := 1024) (hfl _ (by decide +kernel))) hA
  have hini := hts (.initialized "PaperTrellis") (by decide +kernel)
  have hZT := va_Zref (hts (.laysStatic "PaperTrellis" "THOUSANDS" "[J") (by decide +kernel)) hini eT hA
  have hZP := va_Zref (hts (.laysStatic "PaperTrellis" "POWERS_OF_FOUR" "[I") (by decide +kernel)) hini eP hA
  have hG : zG (SL, xs) D cy s.heap.size (fun k => match k with | 0 => b | 1 => tT | _ => tP) s :=
    ⟨hK, fun q hq => va_Nw.of rfl (hts _ (zN_in q hq)), va_AO.of (hts _ (by decide +kernel)), hX, hbl, Nat.le_refl _, hZT, hT, hZP, hP⟩
  rw [lg_entry_eq]
  refine hJ D cy s.heap.size (fun k => match k with | 0 => b | 1 => tT | _ => tP) l p e room_1 s m _ below meth c _ s.heap [] 0 0 _ k q ⟨hx, hb, hml, hr, hown, fun w hw => hts w (List.mem_filter.mp hw).1, hlocks, fun h => absurd h (by decide), hG, by decide, by decide⟩ ⟨rfl, fun k q h => by simp [zWl] at h, rfl, va_S.rf⟩ (zargs_L (av := [.ref 1000000]) (by decide)) (Nat.zero_add _) (Nat.le_of_eq (Nat.zero_add _)) hk hq ?_
  intro r n' h' H' locs' slots' pc' ls' hq' hS' hsl hend
  obtain rfl := hQ r n' h' hq'
  rcases hend with ⟨h, -, -⟩ | ⟨v, ty, h, -, -, hd⟩ | ⟨v, h, -, -⟩
  · cases h
  · refine va_forget (fun q hq => hS'.2.2.2.2.2 q hq) ?_
    refine W.widen hk (Nat.le_trans hsl hq) ?_
    exact lw_ret hx hb hr hlocks hd
  · cases h
end
section
theorem sl_X8_stepsRound : Cond.selects RX8 yX8_stepsRound yX8_stepsRound ∈ zU := zin 0 (by decide +kernel) (by decide +kernel)
theorem sl_X8_looksLike : Cond.selects RX8 yX8_looksLike yX8_looksLike ∈ zU := zin 1 (by decide +kernel) (by decide +kernel)
theorem sl_X8_unlikeRows : Cond.selects RX8 yX8_unlikeRows yX8_unlikeRows ∈ zU := zin 2 (by decide +kernel) (by decide +kernel)
theorem sl_X8_holds : Cond.selects RX8 yX8_holds yX8_holds ∈ zU := zin 3 (by decide +kernel) (by decide +kernel)
theorem sl_X8_countOfRests : Cond.selects RX8 yX8_countOfRests yX8_countOfRests ∈ zU := zin 4 (by decide +kernel) (by decide +kernel)
theorem sl_X8_isRest : Cond.selects RX8 yX8_isRest yX8_isRest ∈ zU := zin 5 (by decide +kernel) (by decide +kernel)
theorem sl_X8_firstRest : Cond.selects RX8 yX8_firstRest yX8_firstRest ∈ zU := zin 6 (by decide +kernel) (by decide +kernel)
theorem sl_X8_happens : Cond.selects RX8 yX8_happens yX8_happens ∈ zU := zin 7 (by decide +kernel) (by decide +kernel)
theorem sl_X9_readPaper : Cond.selects RX9 yX9_readPaper yX9_readPaper ∈ zU := zin 8 (by decide +kernel) (by decide +kernel)
theorem sl_X9_readPattern : Cond.selects RX9 yX9_readPattern yX9_readPattern ∈ zU := zin 9 (by decide +kernel) (by decide +kernel)
theorem sl_X9_from : Cond.selects RX9 yX9_from yX9_from ∈ zU := zin 10 (by decide +kernel) (by decide +kernel)
theorem sl_X9_readKind : Cond.selects RX9 yX9_readKind yX9_readKind ∈ zU := zin 11 (by decide +kernel) (by decide +kernel)
theorem sl_X9_readOneBoy : Cond.selects RX9 yX9_readOneBoy yX9_readOneBoy ∈ zU := zin 12 (by decide +kernel) (by decide +kernel)
theorem sl_X9_hasRoom : Cond.selects RX9 yX9_hasRoom yX9_hasRoom ∈ zU := zin 13 (by decide +kernel) (by decide +kernel)
theorem sl_X9_cellsOf : Cond.selects RX9 yX9_cellsOf yX9_cellsOf ∈ zU := zin 14 (by decide +kernel) (by decide +kernel)
theorem sl_X9_kindOf : Cond.selects RX9 yX9_kindOf yX9_kindOf ∈ zU := zin 15 (by decide +kernel) (by decide +kernel)
theorem sl_X9_homes : Cond.selects RX9 yX9_homes yX9_homes ∈ zU := zin 16 (by decide +kernel) (by decide +kernel)
theorem sl_X9_isHome : Cond.selects RX9 yX9_isHome yX9_isHome ∈ zU := zin 17 (by decide +kernel) (by decide +kernel)
theorem sl_X9_noCell : Cond.selects RX9 yX9_noCell yX9_noCell ∈ zU := zin 18 (by decide +kernel) (by decide +kernel)
theorem sl_X9_cellBeside : Cond.selects RX9 yX9_cellBeside yX9_cellBeside ∈ zU := zin 19 (by decide +kernel) (by decide +kernel)
theorem sl_X9_goWay : Cond.selects RX9 yX9_goWay yX9_goWay ∈ zU := zin 20 (by decide +kernel) (by decide +kernel)
theorem sl_X9_noBoy : Cond.selects RX9 yX9_noBoy yX9_noBoy ∈ zU := zin 21 (by decide +kernel) (by decide +kernel)
theorem sl_X9_waysOf : Cond.selects RX9 yX9_waysOf yX9_waysOf ∈ zU := zin 22 (by decide +kernel) (by decide +kernel)
theorem sl_X9_canGo : Cond.selects RX9 yX9_canGo yX9_canGo ∈ zU := zin 23 (by decide +kernel) (by decide +kernel)
theorem sl_X9_stand : Cond.selects RX9 yX9_stand yX9_stand ∈ zU := zin 24 (by decide +kernel) (by decide +kernel)
theorem sl_X9_isThere : Cond.selects RX9 yX9_isThere yX9_isThere ∈ zU := zin 25 (by decide +kernel) (by decide +kernel)
theorem sl_X9_canBe : Cond.selects RX9 yX9_canBe yX9_canBe ∈ zU := zin 26 (by decide +kernel) (by decide +kernel)
theorem sl_X9_note : Cond.selects RX9 yX9_note yX9_note ∈ zU := zin 27 (by decide +kernel) (by decide +kernel)
theorem sl_X9_goStep : Cond.selects RX9 yX9_goStep yX9_goStep ∈ zU := zin 28 (by decide +kernel) (by decide +kernel)
theorem sl_X9_away : Cond.selects RX9 yX9_away yX9_away ∈ zU := zin 29 (by decide +kernel) (by decide +kernel)
theorem sl_X9_goCall : Cond.selects RX9 yX9_goCall yX9_goCall ∈ zU := zin 30 (by decide +kernel) (by decide +kernel)
theorem sl_X9_hears : Cond.selects RX9 yX9_hears yX9_hears ∈ zU := zin 31 (by decide +kernel) (by decide +kernel)
theorem sl_X9_layFar : Cond.selects RX9 yX9_layFar yX9_layFar ∈ zU := zin 32 (by decide +kernel) (by decide +kernel)
theorem sl_X9_spotNumber : Cond.selects RX9 yX9_spotNumber yX9_spotNumber ∈ zU := zin 33 (by decide +kernel) (by decide +kernel)
theorem sl_X9_reachOf : Cond.selects RX9 yX9_reachOf yX9_reachOf ∈ zU := zin 34 (by decide +kernel) (by decide +kernel)
theorem sl_X9_areAlike : Cond.selects RX9 yX9_areAlike yX9_areAlike ∈ zU := zin 35 (by decide +kernel) (by decide +kernel)
theorem sl_X9_fewest : Cond.selects RX9 yX9_fewest yX9_fewest ∈ zU := zin 36 (by decide +kernel) (by decide +kernel)
theorem sl_X9_unlikeBy : Cond.selects RX9 yX9_unlikeBy yX9_unlikeBy ∈ zU := zin 37 (by decide +kernel) (by decide +kernel)
theorem sl_X9_begin : Cond.selects RX9 yX9_begin yX9_begin ∈ zU := zin 38 (by decide +kernel) (by decide +kernel)
theorem sl_X9_does : Cond.selects RX9 yX9_does yX9_does ∈ zU := zin 39 (by decide +kernel) (by decide +kernel)
theorem sl_X9_cellFrom : Cond.selects RX9 yX9_cellFrom yX9_cellFrom ∈ zU := zin 40 (by decide +kernel) (by decide +kernel)
theorem sl_X9_layGains : Cond.selects RX9 yX9_layGains yX9_layGains ∈ zU := zin 41 (by decide +kernel) (by decide +kernel)
theorem ini_RL : Cond.initialized RL ∈ zU := zin 42 (by decide +kernel) (by decide +kernel)
theorem ini_RX8 : Cond.initialized RX8 ∈ zU := zin 43 (by decide +kernel) (by decide +kernel)
theorem ini_RX7 : Cond.initialized RX7 ∈ zU := zin 44 (by decide +kernel) (by decide +kernel)
theorem ini_RX3 : Cond.initialized RX3 ∈ zU := zin 45 (by decide +kernel) (by decide +kernel)
theorem ini_RJ9 : Cond.initialized RJ9 ∈ zU := zin 46 (by decide +kernel) (by decide +kernel)
theorem ini_RX4 : Cond.initialized RX4 ∈ zU := zin 47 (by decide +kernel) (by decide +kernel)
theorem ini_RX0 : Cond.initialized RX0 ∈ zU := zin 48 (by decide +kernel) (by decide +kernel)
theorem ini_RX5 : Cond.initialized RX5 ∈ zU := zin 49 (by decide +kernel) (by decide +kernel)
theorem ini_RX1 : Cond.initialized RX1 ∈ zU := zin 50 (by decide +kernel) (by decide +kernel)
theorem ini_RX6 : Cond.initialized RX6 ∈ zU := zin 51 (by decide +kernel) (by decide +kernel)
theorem ini_RX2 : Cond.initialized RX2 ∈ zU := zin 52 (by decide +kernel) (by decide +kernel)
theorem ini_RX9 : Cond.initialized RX9 ∈ zU := zin 53 (by decide +kernel) (by decide +kernel)
theorem ini_RJ10 : Cond.initialized RJ10 ∈ zU := zin 54 (by decide +kernel) (by decide +kernel)
theorem ini_RJ6 : Cond.initialized RJ6 ∈ zU := zin 55 (by decide +kernel) (by decide +kernel)
theorem lcl_L_7 : Cond.classLink RL 7 RX8 ∈ zU := zin 56 (by decide +kernel) (by decide +kernel)
theorem ins_RX8 : Cond.instantiable RX8 13 ∈ zU := zin 57 (by decide +kernel) (by decide +kernel)
theorem lm_L_9 : Cond.methodLink RL 9 yX8_init ∈ zU := zin 58 (by decide +kernel) (by decide +kernel)
theorem im_X8_init : Cond.instanceMethod yX8_init ∈ zU := zin 59 (by decide +kernel) (by decide +kernel)
def M_X8_init : zM := (yX8_init, cX8_init, 2, none)
theorem co_X8_init : Cond.code yX8_init cX8_init 2 (none) ∈ zU := zin 60 (by decide +kernel) (by decide +kernel)
theorem lm_X8_3 : Cond.methodLink RX8 3 Lib.objectInit ∈ zU := zin 61 (by decide +kernel) (by decide +kernel)
theorem im_objinit : Cond.instanceMethod Lib.objectInit ∈ zU := zin 62 (by decide +kernel) (by decide +kernel)
theorem co_objinit : Cond.code Lib.objectInit ⟨#[0xb1]⟩ 1 none ∈ zU := zin 63 (by decide +kernel) (by decide +kernel)
theorem lcl_X8_9 : Cond.classLink RX8 9 RX7 ∈ zU := zin 64 (by decide +kernel) (by decide +kernel)
theorem ins_RX7 : Cond.instantiable RX7 2 ∈ zU := zin 65 (by decide +kernel) (by decide +kernel)
theorem ln_X8_11 : (RX8, 11, yX7_init, "PaperTrellis") ∈ zN := by decide +kernel
theorem im_X7_init : Cond.instanceMethod yX7_init ∈ zU := zin 67 (by decide +kernel) (by decide +kernel)
def M_X7_init : zM := (yX7_init, cX7_init, 1, none)
theorem co_X7_init : Cond.code yX7_init cX7_init 1 (none) ∈ zU := zin 68 (by decide +kernel) (by decide +kernel)
theorem lm_X7_3 : Cond.methodLink RX7 3 Lib.objectInit ∈ zU := zin 69 (by decide +kernel) (by decide +kernel)
theorem lf_X7_9 : zfl RX7 9 7 0 := ⟨RX7, TX7, 2, rfl, by decide, zin 70 (by decide +kernel) (by decide +kernel)⟩
theorem lp_X7_9 : zpf RX7 9 7 0 true (.array .int) := ⟨RX7, TX7, 2, rfl, by decide, zin 70 (by decide +kernel) (by decide +kernel), rfl, by decide +kernel, fun _ => rfl⟩
theorem lf_X7_15 : zfl RX7 15 7 1 := ⟨RX7, TX7, 2, rfl, by decide, zin 71 (by decide +kernel) (by decide +kernel)⟩
theorem lp_X7_15 : zpf RX7 15 7 1 false (.int) := ⟨RX7, TX7, 2, rfl, by decide, zin 71 (by decide +kernel) (by decide +kernel), rfl, by decide +kernel, fun h => absurd h (by decide)⟩
theorem lf_X8_85 : zfl RX8 85 7 1 := ⟨RX7, TX7, 2, rfl, by decide, zin 72 (by decide +kernel) (by decide +kernel)⟩
theorem lp_X8_85 : zpf RX8 85 7 1 false (.int) := ⟨RX7, TX7, 2, rfl, by decide, zin 72 (by decide +kernel) (by decide +kernel), rfl, by decide +kernel, fun h => absurd h (by decide)⟩
theorem ac_int : Cond.arrayClass .int ∈ zU := zin 78 (by decide +kernel) (by decide +kernel)
theorem lcl_X8_16 : Cond.classLink RX8 16 RX3 ∈ zU := zin 79 (by decide +kernel) (by decide +kernel)
theorem ins_RX3 : Cond.instantiable RX3 11 ∈ zU := zin 80 (by decide +kernel) (by decide +kernel)
theorem lm_X8_18 : Cond.methodLink RX8 18 yX3_init ∈ zU := zin 81 (by decide +kernel) (by decide +kernel)
theorem im_X3_init : Cond.instanceMethod yX3_init ∈ zU := zin 82 (by decide +kernel) (by decide +kernel)
def M_X3_init : zM := (yX3_init, cX3_init, 1, none)
theorem co_X3_init : Cond.code yX3_init cX3_init 1 (none) ∈ zU := zin 83 (by decide +kernel) (by decide +kernel)
theorem lm_X3_3 : Cond.methodLink RX3 3 Lib.objectInit ∈ zU := zin 84 (by decide +kernel) (by decide +kernel)
theorem lm_X3_37 : Cond.methodLink RX3 37 yX3_layOut ∈ zU := zin 85 (by decide +kernel) (by decide +kernel)
theorem im_X3_layOut : Cond.instanceMethod yX3_layOut ∈ zU := zin 86 (by decide +kernel) (by decide +kernel)
theorem sl_X3_layOut : Cond.selects RX3 yX3_layOut yX3_layOut ∈ zU := zin 87 (by decide +kernel) (by decide +kernel)
def M_X3_layOut : zM := (yX3_layOut, cX3_layOut, 3, none)
theorem co_X3_layOut : Cond.code yX3_layOut cX3_layOut 3 (none) ∈ zU := zin 88 (by decide +kernel) (by decide +kernel)
theorem lm_X3_53 : Cond.methodLink RX3 53 yJ9_min_7cf53 ∈ zU := zin 89 (by decide +kernel) (by decide +kernel)
theorem st_J9_min_7cf53 : Cond.static yJ9_min_7cf53 ∈ zU := zin 90 (by decide +kernel) (by decide +kernel)
def M_J9_min_7cf53 : zM := (yJ9_min_7cf53, cJ9_min_7cf53, 2, some .int)
theorem co_J9_min_7cf53 : Cond.code yJ9_min_7cf53 cJ9_min_7cf53 2 (some .int) ∈ zU := zin 91 (by decide +kernel) (by decide +kernel)
theorem lm_X3_73 : Cond.methodLink RX3 73 yX3_layRow ∈ zU := zin 92 (by decide +kernel) (by decide +kernel)
theorem im_X3_layRow : Cond.instanceMethod yX3_layRow ∈ zU := zin 93 (by decide +kernel) (by decide +kernel)
theorem sl_X3_layRow : Cond.selects RX3 yX3_layRow yX3_layRow ∈ zU := zin 94 (by decide +kernel) (by decide +kernel)
def M_X3_layRow : zM := (yX3_layRow, cX3_layRow, 4, none)
theorem co_X3_layRow : Cond.code yX3_layRow cX3_layRow 4 (none) ∈ zU := zin 95 (by decide +kernel) (by decide +kernel)
theorem lm_X3_80 : Cond.methodLink RX3 80 yX3_lay ∈ zU := zin 96 (by decide +kernel) (by decide +kernel)
theorem im_X3_lay : Cond.instanceMethod yX3_lay ∈ zU := zin 97 (by decide +kernel) (by decide +kernel)
theorem sl_X3_lay : Cond.selects RX3 yX3_lay yX3_lay ∈ zU := zin 98 (by decide +kernel) (by decide +kernel)
def M_X3_lay : zM := (yX3_lay, cX3_lay, 7, none)
theorem co_X3_lay : Cond.code yX3_lay cX3_lay 7 (none) ∈ zU := zin 99 (by decide +kernel) (by decide +kernel)
theorem lm_X3_84 : Cond.methodLink RX3 84 yX3_rowOn ∈ zU := zin 100 (by decide +kernel) (by decide +kernel)
theorem im_X3_rowOn : Cond.instanceMethod yX3_rowOn ∈ zU := zin 101 (by decide +kernel) (by decide +kernel)
theorem sl_X3_rowOn : Cond.selects RX3 yX3_rowOn yX3_rowOn ∈ zU := zin 102 (by decide +kernel) (by decide +kernel)
def M_X3_rowOn : zM := (yX3_rowOn, cX3_rowOn, 4, some .int)
theorem co_X3_rowOn : Cond.code yX3_rowOn cX3_rowOn 4 (some .int) ∈ zU := zin 103 (by decide +kernel) (by decide +kernel)
theorem lm_X3_77 : Cond.methodLink RX3 77 yX3_layColumn ∈ zU := zin 104 (by decide +kernel) (by decide +kernel)
theorem im_X3_layColumn : Cond.instanceMethod yX3_layColumn ∈ zU := zin 105 (by decide +kernel) (by decide +kernel)
theorem sl_X3_layColumn : Cond.selects RX3 yX3_layColumn yX3_layColumn ∈ zU := zin 106 (by decide +kernel) (by decide +kernel)
def M_X3_layColumn : zM := (yX3_layColumn, cX3_layColumn, 6, none)
theorem co_X3_layColumn : Cond.code yX3_layColumn cX3_layColumn 6 (none) ∈ zU := zin 107 (by decide +kernel) (by decide +kernel)
theorem lf_X3_9 : zfl RX3 9 3 0 := ⟨RX3, TX3, 11, rfl, by decide, zin 108 (by decide +kernel) (by decide +kernel)⟩
theorem lp_X3_9 : zpf RX3 9 3 0 false (.int) := ⟨RX3, TX3, 11, rfl, by decide, zin 108 (by decide +kernel) (by decide +kernel), rfl, by decide +kernel, fun h => absurd h (by decide)⟩
theorem lf_X8_103 : zfl RX8 103 3 0 := ⟨RX3, TX3, 11, rfl, by decide, zin 109 (by decide +kernel) (by decide +kernel)⟩
theorem lp_X8_103 : zpf RX8 103 3 0 false (.int) := ⟨RX3, TX3, 11, rfl, by decide, zin 109 (by decide +kernel) (by decide +kernel), rfl, by decide +kernel, fun h => absurd h (by decide)⟩
theorem lf_X3_15 : zfl RX3 15 3 1 := ⟨RX3, TX3, 11, rfl, by decide, zin 110 (by decide +kernel) (by decide +kernel)⟩
theorem lp_X3_15 : zpf RX3 15 3 1 false (.int) := ⟨RX3, TX3, 11, rfl, by decide, zin 110 (by decide +kernel) (by decide +kernel), rfl, by decide +kernel, fun h => absurd h (by decide)⟩
theorem lf_X8_106 : zfl RX8 106 3 1 := ⟨RX3, TX3, 11, rfl, by decide, zin 111 (by decide +kernel) (by decide +kernel)⟩
theorem lp_X8_106 : zpf RX8 106 3 1 false (.int) := ⟨RX3, TX3, 11, rfl, by decide, zin 111 (by decide +kernel) (by decide +kernel), rfl, by decide +kernel, fun h => absurd h (by decide)⟩
theorem lf_X3_46 : zfl RX3 46 3 2 := ⟨RX3, TX3, 11, rfl, by decide, zin 112 (by decide +kernel) (by decide +kernel)⟩
theorem lp_X3_46 : zpf RX3 46 3 2 false (.int) := ⟨RX3, TX3, 11, rfl, by decide, zin 112 (by decide +kernel) (by decide +kernel), rfl, by decide +kernel, fun h => absurd h (by decide)⟩
theorem lf_X8_112 : zfl RX8 112 3 2 := ⟨RX3, TX3, 11, rfl, by decide, zin 113 (by decide +kernel) (by decide +kernel)⟩
theorem lp_X8_112 : zpf RX8 112 3 2 false (.int) := ⟨RX3, TX3, 11, rfl, by decide, zin 113 (by decide +kernel) (by decide +kernel), rfl, by decide +kernel, fun h => absurd h (by decide)⟩
theorem lf_X3_61 : zfl RX3 61 3 3 := ⟨RX3, TX3, 11, rfl, by decide, zin 114 (by decide +kernel) (by decide +kernel)⟩
theorem lp_X3_61 : zpf RX3 61 3 3 false (.int) := ⟨RX3, TX3, 11, rfl, by decide, zin 114 (by decide +kernel) (by decide +kernel), rfl, by decide +kernel, fun h => absurd h (by decide)⟩
theorem lf_X1_34 : zfl RX1 34 3 3 := ⟨RX3, TX3, 11, rfl, by decide, zin 115 (by decide +kernel) (by decide +kernel)⟩
theorem lp_X1_34 : zpf RX1 34 3 3 false (.int) := ⟨RX3, TX3, 11, rfl, by decide, zin 115 (by decide +kernel) (by decide +kernel), rfl, by decide +kernel, fun h => absurd h (by decide)⟩
theorem lf_X4_41 : zfl RX4 41 3 3 := ⟨RX3, TX3, 11, rfl, by decide, zin 116 (by decide +kernel) (by decide +kernel)⟩
theorem lp_X4_41 : zpf RX4 41 3 3 false (.int) := ⟨RX3, TX3, 11, rfl, by decide, zin 116 (by decide +kernel) (by decide +kernel), rfl, by decide +kernel, fun h => absurd h (by decide)⟩
theorem lf_X8_204 : zfl RX8 204 3 3 := ⟨RX3, TX3, 11, rfl, by decide, zin 117 (by decide +kernel) (by decide +kernel)⟩
theorem lp_X8_204 : zpf RX8 204 3 3 false (.int) := ⟨RX3, TX3, 11, rfl, by decide, zin 117 (by decide +kernel) (by decide +kernel), rfl, by decide +kernel, fun h => absurd h (by decide)⟩
theorem lf_X1_25 : zfl RX1 25 3 4 := ⟨RX3, TX3, 11, rfl, by decide, zin 118 (by decide +kernel) (by decide +kernel)⟩
theorem lp_X1_25 : zpf RX1 25 3 4 false (.int) := ⟨RX3, TX3, 11, rfl, by decide, zin 118 (by decide +kernel) (by decide +kernel), rfl, by decide +kernel, fun h => absurd h (by decide)⟩
theorem lf_X4_23 : zfl RX4 23 3 4 := ⟨RX3, TX3, 11, rfl, by decide, zin 119 (by decide +kernel) (by decide +kernel)⟩
theorem lp_X4_23 : zpf RX4 23 3 4 false (.int) := ⟨RX3, TX3, 11, rfl, by decide, zin 119 (by decide +kernel) (by decide +kernel), rfl, by decide +kernel, fun h => absurd h (by decide)⟩
theorem lf_X3_59 : zfl RX3 59 3 4 := ⟨RX3, TX3, 11, rfl, by decide, zin 120 (by decide +kernel) (by decide +kernel)⟩
theorem lp_X3_59 : zpf RX3 59 3 4 false (.int) := ⟨RX3, TX3, 11, rfl, by decide, zin 120 (by decide +kernel) (by decide +kernel), rfl, by decide +kernel, fun h => absurd h (by decide)⟩
theorem lf_X8_109 : zfl RX8 109 3 4 := ⟨RX3, TX3, 11, rfl, by decide, zin 121 (by decide +kernel) (by decide +kernel)⟩
theorem lp_X8_109 : zpf RX8 109 3 4 false (.int) := ⟨RX3, TX3, 11, rfl, by decide, zin 121 (by decide +kernel) (by decide +kernel), rfl, by decide +kernel, fun h => absurd h (by decide)⟩
theorem lf_X5_56 : zfl RX5 56 3 4 := ⟨RX3, TX3, 11, rfl, by decide, zin 122 (by decide +kernel) (by decide +kernel)⟩
theorem lp_X5_56 : zpf RX5 56 3 4 false (.int) := ⟨RX3, TX3, 11, rfl, by decide, zin 122 (by decide +kernel) (by decide +kernel), rfl, by decide +kernel, fun h => absurd h (by decide)⟩
theorem lf_X3_18 : zfl RX3 18 3 5 := ⟨RX3, TX3, 11, rfl, by decide, zin 123 (by decide +kernel) (by decide +kernel)⟩
theorem lp_X3_18 : zpf RX3 18 3 5 true (.array .int) := ⟨RX3, TX3, 11, rfl, by decide, zin 123 (by decide +kernel) (by decide +kernel), rfl, by decide +kernel, fun _ => rfl⟩
theorem lf_X4_38 : zfl RX4 38 3 5 := ⟨RX3, TX3, 11, rfl, by decide, zin 124 (by decide +kernel) (by decide +kernel)⟩
theorem lf_X3_22 : zfl RX3 22 3 6 := ⟨RX3, TX3, 11, rfl, by decide, zin 125 (by decide +kernel) (by decide +kernel)⟩
theorem lp_X3_22 : zpf RX3 22 3 6 true (.array .int) := ⟨RX3, TX3, 11, rfl, by decide, zin 125 (by decide +kernel) (by decide +kernel), rfl, by decide +kernel, fun _ => rfl⟩
theorem lf_X8_152 : zfl RX8 152 3 6 := ⟨RX3, TX3, 11, rfl, by decide, zin 126 (by decide +kernel) (by decide +kernel)⟩
theorem lf_X4_69 : zfl RX4 69 3 6 := ⟨RX3, TX3, 11, rfl, by decide, zin 127 (by decide +kernel) (by decide +kernel)⟩
theorem lf_X3_25 : zfl RX3 25 3 7 := ⟨RX3, TX3, 11, rfl, by decide, zin 128 (by decide +kernel) (by decide +kernel)⟩
theorem lp_X3_25 : zpf RX3 25 3 7 true (.array .int) := ⟨RX3, TX3, 11, rfl, by decide, zin 128 (by decide +kernel) (by decide +kernel), rfl, by decide +kernel, fun _ => rfl⟩
theorem lf_X4_47 : zfl RX4 47 3 7 := ⟨RX3, TX3, 11, rfl, by decide, zin 129 (by decide +kernel) (by decide +kernel)⟩
theorem lf_X8_149 : zfl RX8 149 3 7 := ⟨RX3, TX3, 11, rfl, by decide, zin 130 (by decide +kernel) (by decide +kernel)⟩
theorem lf_X3_28 : zfl RX3 28 3 8 := ⟨RX3, TX3, 11, rfl, by decide, zin 131 (by decide +kernel) (by decide +kernel)⟩
theorem lp_X3_28 : zpf RX3 28 3 8 true (.array .int) := ⟨RX3, TX3, 11, rfl, by decide, zin 131 (by decide +kernel) (by decide +kernel), rfl, by decide +kernel, fun _ => rfl⟩
theorem lf_X3_31 : zfl RX3 31 3 9 := ⟨RX3, TX3, 11, rfl, by decide, zin 132 (by decide +kernel) (by decide +kernel)⟩
theorem lp_X3_31 : zpf RX3 31 3 9 true (.array .int) := ⟨RX3, TX3, 11, rfl, by decide, zin 132 (by decide +kernel) (by decide +kernel), rfl, by decide +kernel, fun _ => rfl⟩
theorem lf_X3_34 : zfl RX3 34 3 10 := ⟨RX3, TX3, 11, rfl, by decide, zin 133 (by decide +kernel) (by decide +kernel)⟩
theorem lp_X3_34 : zpf RX3 34 3 10 true (.array .int) := ⟨RX3, TX3, 11, rfl, by decide, zin 133 (by decide +kernel) (by decide +kernel), rfl, by decide +kernel, fun _ => rfl⟩
theorem lcl_X8_23 : Cond.classLink RX8 23 RX4 ∈ zU := zin 157 (by decide +kernel) (by decide +kernel)
theorem ins_RX4 : Cond.instantiable RX4 3 ∈ zU := zin 158 (by decide +kernel) (by decide +kernel)
theorem lm_X8_25 : Cond.methodLink RX8 25 yX4_init ∈ zU := zin 159 (by decide +kernel) (by decide +kernel)
theorem im_X4_init : Cond.instanceMethod yX4_init ∈ zU := zin 160 (by decide +kernel) (by decide +kernel)
def M_X4_init : zM := (yX4_init, cX4_init, 2, none)
theorem co_X4_init : Cond.code yX4_init cX4_init 2 (none) ∈ zU := zin 161 (by decide +kernel) (by decide +kernel)
theorem lm_X4_3 : Cond.methodLink RX4 3 Lib.objectInit ∈ zU := zin 162 (by decide +kernel) (by decide +kernel)
theorem lf_X4_15 : zfl RX4 15 4 0 := ⟨RX4, TX4, 3, rfl, by decide, zin 163 (by decide +kernel) (by decide +kernel)⟩
theorem lp_X4_15 : zpf RX4 15 4 0 true (.object "PaperTrellis$Pattern") := ⟨RX4, TX4, 3, rfl, by decide, zin 163 (by decide +kernel) (by decide +kernel), rfl, by decide +kernel, fun _ => rfl⟩
theorem lf_X1_21 : zfl RX1 21 4 0 := ⟨RX4, TX4, 3, rfl, by decide, zin 164 (by decide +kernel) (by decide +kernel)⟩
theorem lf_X6_25 : zfl RX6 25 4 0 := ⟨RX4, TX4, 3, rfl, by decide, zin 165 (by decide +kernel) (by decide +kernel)⟩
theorem lf_X5_52 : zfl RX5 52 4 0 := ⟨RX4, TX4, 3, rfl, by decide, zin 166 (by decide +kernel) (by decide +kernel)⟩
theorem lf_X4_9 : zfl RX4 9 4 1 := ⟨RX4, TX4, 3, rfl, by decide, zin 167 (by decide +kernel) (by decide +kernel)⟩
theorem lp_X4_9 : zpf RX4 9 4 1 true (.array .int) := ⟨RX4, TX4, 3, rfl, by decide, zin 167 (by decide +kernel) (by decide +kernel), rfl, by decide +kernel, fun _ => rfl⟩
theorem lf_X2_18 : zfl RX2 18 4 1 := ⟨RX4, TX4, 3, rfl, by decide, zin 168 (by decide +kernel) (by decide +kernel)⟩
theorem lf_X5_24 : zfl RX5 24 4 1 := ⟨RX4, TX4, 3, rfl, by decide, zin 169 (by decide +kernel) (by decide +kernel)⟩
theorem lf_X8_142 : zfl RX8 142 4 1 := ⟨RX4, TX4, 3, rfl, by decide, zin 170 (by decide +kernel) (by decide +kernel)⟩
theorem lf_X4_19 : zfl RX4 19 4 2 := ⟨RX4, TX4, 3, rfl, by decide, zin 171 (by decide +kernel) (by decide +kernel)⟩
theorem lp_X4_19 : zpf RX4 19 4 2 false (.int) := ⟨RX4, TX4, 3, rfl, by decide, zin 171 (by decide +kernel) (by decide +kernel), rfl, by decide +kernel, fun h => absurd h (by decide)⟩
theorem lcl_X8_35 : Cond.classLink RX8 35 RX0 ∈ zU := zin 179 (by decide +kernel) (by decide +kernel)
theorem ins_RX0 : Cond.instantiable RX0 3 ∈ zU := zin 180 (by decide +kernel) (by decide +kernel)
theorem lm_X8_37 : Cond.methodLink RX8 37 yX0_init ∈ zU := zin 181 (by decide +kernel) (by decide +kernel)
theorem im_X0_init : Cond.instanceMethod yX0_init ∈ zU := zin 182 (by decide +kernel) (by decide +kernel)
def M_X0_init : zM := (yX0_init, cX0_init, 3, none)
theorem co_X0_init : Cond.code yX0_init cX0_init 3 (none) ∈ zU := zin 183 (by decide +kernel) (by decide +kernel)
theorem lm_X0_3 : Cond.methodLink RX0 3 Lib.objectInit ∈ zU := zin 184 (by decide +kernel) (by decide +kernel)
theorem lcl_X0_9 : Cond.classLink RX0 9 RX4 ∈ zU := zin 185 (by decide +kernel) (by decide +kernel)
theorem lm_X0_17 : Cond.methodLink RX0 17 yX4_init ∈ zU := zin 187 (by decide +kernel) (by decide +kernel)
theorem lf_X0_11 : zfl RX0 11 0 0 := ⟨RX0, TX0, 3, rfl, by decide, zin 188 (by decide +kernel) (by decide +kernel)⟩
theorem lp_X0_11 : zpf RX0 11 0 0 true (.array (.object "PaperTrellis$Scene")) := ⟨RX0, TX0, 3, rfl, by decide, zin 188 (by decide +kernel) (by decide +kernel), rfl, by decide +kernel, fun _ => rfl⟩
theorem lf_X0_20 : zfl RX0 20 0 1 := ⟨RX0, TX0, 3, rfl, by decide, zin 189 (by decide +kernel) (by decide +kernel)⟩
theorem lp_X0_20 : zpf RX0 20 0 1 false (.int) := ⟨RX0, TX0, 3, rfl, by decide, zin 189 (by decide +kernel) (by decide +kernel), rfl, by decide +kernel, fun h => absurd h (by decide)⟩
theorem lf_X0_28 : zfl RX0 28 0 2 := ⟨RX0, TX0, 3, rfl, by decide, zin 190 (by decide +kernel) (by decide +kernel)⟩
theorem lp_X0_28 : zpf RX0 28 0 2 false (.int) := ⟨RX0, TX0, 3, rfl, by decide, zin 190 (by decide +kernel) (by decide +kernel), rfl, by decide +kernel, fun h => absurd h (by decide)⟩
theorem lf_X8_122 : zfl RX8 122 0 2 := ⟨RX0, TX0, 3, rfl, by decide, zin 191 (by decide +kernel) (by decide +kernel)⟩
theorem lp_X8_122 : zpf RX8 122 0 2 false (.int) := ⟨RX0, TX0, 3, rfl, by decide, zin 191 (by decide +kernel) (by decide +kernel), rfl, by decide +kernel, fun h => absurd h (by decide)⟩
theorem lcl_X8_50 : Cond.classLink RX8 50 RX5 ∈ zU := zin 199 (by decide +kernel) (by decide +kernel)
theorem ins_RX5 : Cond.instantiable RX5 4 ∈ zU := zin 200 (by decide +kernel) (by decide +kernel)
theorem ln_X8_52 : (RX8, 52, yX5_init, "PaperTrellis") ∈ zN := by decide +kernel
theorem im_X5_init : Cond.instanceMethod yX5_init ∈ zU := zin 202 (by decide +kernel) (by decide +kernel)
def M_X5_init : zM := (yX5_init, cX5_init, 1, none)
theorem co_X5_init : Cond.code yX5_init cX5_init 1 (none) ∈ zU := zin 203 (by decide +kernel) (by decide +kernel)
theorem lm_X5_3 : Cond.methodLink RX5 3 Lib.objectInit ∈ zU := zin 204 (by decide +kernel) (by decide +kernel)
theorem lf_X5_9 : zfl RX5 9 5 0 := ⟨RX5, TX5, 4, rfl, by decide, zin 205 (by decide +kernel) (by decide +kernel)⟩
theorem lp_X5_9 : zpf RX5 9 5 0 true (.array .int) := ⟨RX5, TX5, 4, rfl, by decide, zin 205 (by decide +kernel) (by decide +kernel), rfl, by decide +kernel, fun _ => rfl⟩
theorem lf_X5_15 : zfl RX5 15 5 1 := ⟨RX5, TX5, 4, rfl, by decide, zin 206 (by decide +kernel) (by decide +kernel)⟩
theorem lp_X5_15 : zpf RX5 15 5 1 true (.array .int) := ⟨RX5, TX5, 4, rfl, by decide, zin 206 (by decide +kernel) (by decide +kernel), rfl, by decide +kernel, fun _ => rfl⟩
theorem lf_X5_33 : zfl RX5 33 5 2 := ⟨RX5, TX5, 4, rfl, by decide, zin 207 (by decide +kernel) (by decide +kernel)⟩
theorem lp_X5_33 : zpf RX5 33 5 2 false (.int) := ⟨RX5, TX5, 4, rfl, by decide, zin 207 (by decide +kernel) (by decide +kernel), rfl, by decide +kernel, fun h => absurd h (by decide)⟩
theorem lf_X5_18 : zfl RX5 18 5 3 := ⟨RX5, TX5, 4, rfl, by decide, zin 208 (by decide +kernel) (by decide +kernel)⟩
theorem lp_X5_18 : zpf RX5 18 5 3 true (.array .int) := ⟨RX5, TX5, 4, rfl, by decide, zin 208 (by decide +kernel) (by decide +kernel), rfl, by decide +kernel, fun _ => rfl⟩
theorem ac_boolean : Cond.arrayClass .boolean ∈ zU := zin 218 (by decide +kernel) (by decide +kernel)
theorem lcl_X8_57 : Cond.classLink RX8 57 RX1 ∈ zU := zin 219 (by decide +kernel) (by decide +kernel)
theorem ins_RX1 : Cond.instantiable RX1 1 ∈ zU := zin 220 (by decide +kernel) (by decide +kernel)
theorem ln_X8_59 : (RX8, 59, yX1_init, "PaperTrellis") ∈ zN := by decide +kernel
theorem im_X1_init : Cond.instanceMethod yX1_init ∈ zU := zin 222 (by decide +kernel) (by decide +kernel)
def M_X1_init : zM := (yX1_init, cX1_init, 1, none)
theorem co_X1_init : Cond.code yX1_init cX1_init 1 (none) ∈ zU := zin 223 (by decide +kernel) (by decide +kernel)
theorem lm_X1_3 : Cond.methodLink RX1 3 Lib.objectInit ∈ zU := zin 224 (by decide +kernel) (by decide +kernel)
theorem lf_X1_11 : zfl RX1 11 1 0 := ⟨RX1, TX1, 1, rfl, by decide, zin 225 (by decide +kernel) (by decide +kernel)⟩
theorem lp_X1_11 : zpf RX1 11 1 0 true (.array .int) := ⟨RX1, TX1, 1, rfl, by decide, zin 225 (by decide +kernel) (by decide +kernel), rfl, by decide +kernel, fun _ => rfl⟩
theorem lcl_X8_64 : Cond.classLink RX8 64 RX6 ∈ zU := zin 229 (by decide +kernel) (by decide +kernel)
theorem ins_RX6 : Cond.instantiable RX6 4 ∈ zU := zin 230 (by decide +kernel) (by decide +kernel)
theorem ln_X8_66 : (RX8, 66, yX6_init, "PaperTrellis") ∈ zN := by decide +kernel
theorem im_X6_init : Cond.instanceMethod yX6_init ∈ zU := zin 232 (by decide +kernel) (by decide +kernel)
def M_X6_init : zM := (yX6_init, cX6_init, 1, none)
theorem co_X6_init : Cond.code yX6_init cX6_init 1 (none) ∈ zU := zin 233 (by decide +kernel) (by decide +kernel)
theorem lm_X6_3 : Cond.methodLink RX6 3 Lib.objectInit ∈ zU := zin 234 (by decide +kernel) (by decide +kernel)
theorem lf_X6_9 : zfl RX6 9 6 0 := ⟨RX6, TX6, 4, rfl, by decide, zin 235 (by decide +kernel) (by decide +kernel)⟩
theorem lp_X6_9 : zpf RX6 9 6 0 true (.array .int) := ⟨RX6, TX6, 4, rfl, by decide, zin 235 (by decide +kernel) (by decide +kernel), rfl, by decide +kernel, fun _ => rfl⟩
theorem lf_X6_15 : zfl RX6 15 6 1 := ⟨RX6, TX6, 4, rfl, by decide, zin 236 (by decide +kernel) (by decide +kernel)⟩
theorem lp_X6_15 : zpf RX6 15 6 1 true (.array .int) := ⟨RX6, TX6, 4, rfl, by decide, zin 236 (by decide +kernel) (by decide +kernel), rfl, by decide +kernel, fun _ => rfl⟩
theorem lf_X6_18 : zfl RX6 18 6 2 := ⟨RX6, TX6, 4, rfl, by decide, zin 237 (by decide +kernel) (by decide +kernel)⟩
theorem lp_X6_18 : zpf RX6 18 6 2 true (.array .int) := ⟨RX6, TX6, 4, rfl, by decide, zin 237 (by decide +kernel) (by decide +kernel), rfl, by decide +kernel, fun _ => rfl⟩
theorem lf_X6_21 : zfl RX6 21 6 3 := ⟨RX6, TX6, 4, rfl, by decide, zin 238 (by decide +kernel) (by decide +kernel)⟩
theorem lp_X6_21 : zpf RX6 21 6 3 false (.int) := ⟨RX6, TX6, 4, rfl, by decide, zin 238 (by decide +kernel) (by decide +kernel), rfl, by decide +kernel, fun h => absurd h (by decide)⟩
theorem lf_X8_125 : zfl RX8 125 6 3 := ⟨RX6, TX6, 4, rfl, by decide, zin 239 (by decide +kernel) (by decide +kernel)⟩
theorem lp_X8_125 : zpf RX8 125 6 3 false (.int) := ⟨RX6, TX6, 4, rfl, by decide, zin 239 (by decide +kernel) (by decide +kernel), rfl, by decide +kernel, fun h => absurd h (by decide)⟩
theorem lcl_X8_71 : Cond.classLink RX8 71 RX2 ∈ zU := zin 249 (by decide +kernel) (by decide +kernel)
theorem ins_RX2 : Cond.instantiable RX2 2 ∈ zU := zin 250 (by decide +kernel) (by decide +kernel)
theorem ln_X8_73 : (RX8, 73, yX2_init, "PaperTrellis") ∈ zN := by decide +kernel
theorem im_X2_init : Cond.instanceMethod yX2_init ∈ zU := zin 252 (by decide +kernel) (by decide +kernel)
def M_X2_init : zM := (yX2_init, cX2_init, 1, none)
theorem co_X2_init : Cond.code yX2_init cX2_init 1 (none) ∈ zU := zin 253 (by decide +kernel) (by decide +kernel)
theorem lm_X2_3 : Cond.methodLink RX2 3 Lib.objectInit ∈ zU := zin 254 (by decide +kernel) (by decide +kernel)
theorem lf_X2_9 : zfl RX2 9 2 0 := ⟨RX2, TX2, 2, rfl, by decide, zin 255 (by decide +kernel) (by decide +kernel)⟩
theorem lp_X2_9 : zpf RX2 9 2 0 true (.array .int) := ⟨RX2, TX2, 2, rfl, by decide, zin 255 (by decide +kernel) (by decide +kernel), rfl, by decide +kernel, fun _ => rfl⟩
theorem lf_X2_15 : zfl RX2 15 2 1 := ⟨RX2, TX2, 2, rfl, by decide, zin 256 (by decide +kernel) (by decide +kernel)⟩
theorem lp_X2_15 : zpf RX2 15 2 1 true (.array .int) := ⟨RX2, TX2, 2, rfl, by decide, zin 256 (by decide +kernel) (by decide +kernel), rfl, by decide +kernel, fun _ => rfl⟩
theorem lf_X8_12 : zfl RX8 12 8 0 := ⟨RX8, TX8, 13, rfl, by decide, zin 262 (by decide +kernel) (by decide +kernel)⟩
theorem lp_X8_12 : zpf RX8 12 8 0 true (.object "PaperTrellis$Text") := ⟨RX8, TX8, 13, rfl, by decide, zin 262 (by decide +kernel) (by decide +kernel), rfl, by decide +kernel, fun _ => rfl⟩
theorem lf_X8_19 : zfl RX8 19 8 1 := ⟨RX8, TX8, 13, rfl, by decide, zin 263 (by decide +kernel) (by decide +kernel)⟩
theorem lp_X8_19 : zpf RX8 19 8 1 true (.object "PaperTrellis$Pattern") := ⟨RX8, TX8, 13, rfl, by decide, zin 263 (by decide +kernel) (by decide +kernel), rfl, by decide +kernel, fun _ => rfl⟩
theorem lf_X8_28 : zfl RX8 28 8 2 := ⟨RX8, TX8, 13, rfl, by decide, zin 264 (by decide +kernel) (by decide +kernel)⟩
theorem lp_X8_28 : zpf RX8 28 8 2 true (.object "PaperTrellis$Scene") := ⟨RX8, TX8, 13, rfl, by decide, zin 264 (by decide +kernel) (by decide +kernel), rfl, by decide +kernel, fun _ => rfl⟩
theorem lf_X8_32 : zfl RX8 32 8 3 := ⟨RX8, TX8, 13, rfl, by decide, zin 265 (by decide +kernel) (by decide +kernel)⟩
theorem lp_X8_32 : zpf RX8 32 8 3 true (.object "PaperTrellis$Scene") := ⟨RX8, TX8, 13, rfl, by decide, zin 265 (by decide +kernel) (by decide +kernel), rfl, by decide +kernel, fun _ => rfl⟩
theorem lf_X8_38 : zfl RX8 38 8 4 := ⟨RX8, TX8, 13, rfl, by decide, zin 266 (by decide +kernel) (by decide +kernel)⟩
theorem lp_X8_38 : zpf RX8 38 8 4 true (.object "PaperTrellis$Acts") := ⟨RX8, TX8, 13, rfl, by decide, zin 266 (by decide +kernel) (by decide +kernel), rfl, by decide +kernel, fun _ => rfl⟩
theorem lf_X8_42 : zfl RX8 42 8 5 := ⟨RX8, TX8, 13, rfl, by decide, zin 267 (by decide +kernel) (by decide +kernel)⟩
theorem lp_X8_42 : zpf RX8 42 8 5 true (.array (.object "PaperTrellis$Scene")) := ⟨RX8, TX8, 13, rfl, by decide, zin 267 (by decide +kernel) (by decide +kernel), rfl, by decide +kernel, fun _ => rfl⟩
theorem lf_X8_46 : zfl RX8 46 8 6 := ⟨RX8, TX8, 13, rfl, by decide, zin 268 (by decide +kernel) (by decide +kernel)⟩
theorem lp_X8_46 : zpf RX8 46 8 6 true (.array .boolean) := ⟨RX8, TX8, 13, rfl, by decide, zin 268 (by decide +kernel) (by decide +kernel), rfl, by decide +kernel, fun _ => rfl⟩
theorem lf_X8_53 : zfl RX8 53 8 7 := ⟨RX8, TX8, 13, rfl, by decide, zin 269 (by decide +kernel) (by decide +kernel)⟩
theorem lp_X8_53 : zpf RX8 53 8 7 true (.object "PaperTrellis$Search") := ⟨RX8, TX8, 13, rfl, by decide, zin 269 (by decide +kernel) (by decide +kernel), rfl, by decide +kernel, fun _ => rfl⟩
theorem lf_X8_60 : zfl RX8 60 8 8 := ⟨RX8, TX8, 13, rfl, by decide, zin 270 (by decide +kernel) (by decide +kernel)⟩
theorem lp_X8_60 : zpf RX8 60 8 8 true (.object "PaperTrellis$Cover") := ⟨RX8, TX8, 13, rfl, by decide, zin 270 (by decide +kernel) (by decide +kernel), rfl, by decide +kernel, fun _ => rfl⟩
theorem lf_X8_67 : zfl RX8 67 8 9 := ⟨RX8, TX8, 13, rfl, by decide, zin 271 (by decide +kernel) (by decide +kernel)⟩
theorem lp_X8_67 : zpf RX8 67 8 9 true (.object "PaperTrellis$Sight") := ⟨RX8, TX8, 13, rfl, by decide, zin 271 (by decide +kernel) (by decide +kernel), rfl, by decide +kernel, fun _ => rfl⟩
theorem lf_X8_74 : zfl RX8 74 8 10 := ⟨RX8, TX8, 13, rfl, by decide, zin 272 (by decide +kernel) (by decide +kernel)⟩
theorem lp_X8_74 : zpf RX8 74 8 10 true (.object "PaperTrellis$Goings") := ⟨RX8, TX8, 13, rfl, by decide, zin 272 (by decide +kernel) (by decide +kernel), rfl, by decide +kernel, fun _ => rfl⟩
theorem lf_X8_78 : zfl RX8 78 8 11 := ⟨RX8, TX8, 13, rfl, by decide, zin 273 (by decide +kernel) (by decide +kernel)⟩
theorem lp_X8_78 : zpf RX8 78 8 11 true (.object "PaperTrellis$Goings") := ⟨RX8, TX8, 13, rfl, by decide, zin 273 (by decide +kernel) (by decide +kernel), rfl, by decide +kernel, fun _ => rfl⟩
theorem lf_X8_262 : zfl RX8 262 8 12 := ⟨RX8, TX8, 13, rfl, by decide, zin 274 (by decide +kernel) (by decide +kernel)⟩
theorem lp_X8_262 : zpf RX8 262 8 12 false (.long) := ⟨RX8, TX8, 13, rfl, by decide, zin 274 (by decide +kernel) (by decide +kernel), rfl, by decide +kernel, fun h => absurd h (by decide)⟩
theorem lm_L_13 : Cond.methodLink RL 13 yX8_write ∈ zU := zin 302 (by decide +kernel) (by decide +kernel)
theorem im_X8_write : Cond.instanceMethod yX8_write ∈ zU := zin 303 (by decide +kernel) (by decide +kernel)
theorem sl_X8_write : Cond.selects RX8 yX8_write yX8_write ∈ zU := zin 304 (by decide +kernel) (by decide +kernel)
def M_X8_write : zM := (yX8_write, cX8_write, 2, some .int)
theorem co_X8_write : Cond.code yX8_write cX8_write 2 (some .int) ∈ zU := zin 305 (by decide +kernel) (by decide +kernel)
theorem lm_X8_81 : Cond.methodLink RX8 81 yX7_add ∈ zU := zin 306 (by decide +kernel) (by decide +kernel)
theorem im_X7_add : Cond.instanceMethod yX7_add ∈ zU := zin 307 (by decide +kernel) (by decide +kernel)
theorem sl_X7_add : Cond.selects RX7 yX7_add yX7_add ∈ zU := zin 308 (by decide +kernel) (by decide +kernel)
def M_X7_add : zM := (yX7_add, cX7_add, 2, some .boolean)
theorem co_X7_add : Cond.code yX7_add cX7_add 2 (some .boolean) ∈ zU := zin 309 (by decide +kernel) (by decide +kernel)
theorem lm_L_18 : Cond.methodLink RL 18 yX8_wipe ∈ zU := zin 310 (by decide +kernel) (by decide +kernel)
theorem im_X8_wipe : Cond.instanceMethod yX8_wipe ∈ zU := zin 311 (by decide +kernel) (by decide +kernel)
theorem sl_X8_wipe : Cond.selects RX8 yX8_wipe yX8_wipe ∈ zU := zin 312 (by decide +kernel) (by decide +kernel)
def M_X8_wipe : zM := (yX8_wipe, cX8_wipe, 2, some .int)
theorem co_X8_wipe : Cond.code yX8_wipe cX8_wipe 2 (some .int) ∈ zU := zin 313 (by decide +kernel) (by decide +kernel)
theorem lm_L_23 : Cond.methodLink RL 23 yX8_fault ∈ zU := zin 314 (by decide +kernel) (by decide +kernel)
theorem im_X8_fault : Cond.instanceMethod yX8_fault ∈ zU := zin 315 (by decide +kernel) (by decide +kernel)
theorem sl_X8_fault : Cond.selects RX8 yX8_fault yX8_fault ∈ zU := zin 316 (by decide +kernel) (by decide +kernel)
def M_X8_fault : zM := (yX8_fault, cX8_fault, 1, some .int)
theorem co_X8_fault : Cond.code yX8_fault cX8_fault 1 (some .int) ∈ zU := zin 317 (by decide +kernel) (by decide +kernel)
theorem lm_X8_89 : Cond.methodLink RX8 89 yX7_firstFault ∈ zU := zin 318 (by decide +kernel) (by decide +kernel)
theorem im_X7_firstFault : Cond.instanceMethod yX7_firstFault ∈ zU := zin 319 (by decide +kernel) (by decide +kernel)
theorem sl_X7_firstFault : Cond.selects RX7 yX7_firstFault yX7_firstFault ∈ zU := zin 320 (by decide +kernel) (by decide +kernel)
def M_X7_firstFault : zM := (yX7_firstFault, cX7_firstFault, 2, some .int)
theorem co_X7_firstFault : Cond.code yX7_firstFault cX7_firstFault 2 (some .int) ∈ zU := zin 321 (by decide +kernel) (by decide +kernel)
theorem lm_X7_19 : Cond.methodLink RX7 19 yX7_fits ∈ zU := zin 322 (by decide +kernel) (by decide +kernel)
theorem im_X7_fits : Cond.instanceMethod yX7_fits ∈ zU := zin 323 (by decide +kernel) (by decide +kernel)
theorem sl_X7_fits : Cond.selects RX7 yX7_fits yX7_fits ∈ zU := zin 324 (by decide +kernel) (by decide +kernel)
def M_X7_fits : zM := (yX7_fits, cX7_fits, 4, some .boolean)
theorem co_X7_fits : Cond.code yX7_fits cX7_fits 4 (some .boolean) ∈ zU := zin 325 (by decide +kernel) (by decide +kernel)
theorem lm_X7_27 : Cond.methodLink RX7 27 yX7_cells ∈ zU := zin 326 (by decide +kernel) (by decide +kernel)
theorem im_X7_cells : Cond.instanceMethod yX7_cells ∈ zU := zin 327 (by decide +kernel) (by decide +kernel)
theorem sl_X7_cells : Cond.selects RX7 yX7_cells yX7_cells ∈ zU := zin 328 (by decide +kernel) (by decide +kernel)
def M_X7_cells : zM := (yX7_cells, cX7_cells, 1, some .int)
theorem co_X7_cells : Cond.code yX7_cells cX7_cells 1 (some .int) ∈ zU := zin 329 (by decide +kernel) (by decide +kernel)
theorem lm_X7_45 : Cond.methodLink RX7 45 yX7_figure ∈ zU := zin 330 (by decide +kernel) (by decide +kernel)
theorem im_X7_figure : Cond.instanceMethod yX7_figure ∈ zU := zin 331 (by decide +kernel) (by decide +kernel)
theorem sl_X7_figure : Cond.selects RX7 yX7_figure yX7_figure ∈ zU := zin 332 (by decide +kernel) (by decide +kernel)
def M_X7_figure : zM := (yX7_figure, cX7_figure, 2, some .int)
theorem co_X7_figure : Cond.code yX7_figure cX7_figure 2 (some .int) ∈ zU := zin 333 (by decide +kernel) (by decide +kernel)
theorem lm_X7_31 : Cond.methodLink RX7 31 yX7_kindOf ∈ zU := zin 334 (by decide +kernel) (by decide +kernel)
theorem st_X7_kindOf : Cond.static yX7_kindOf ∈ zU := zin 335 (by decide +kernel) (by decide +kernel)
def M_X7_kindOf : zM := (yX7_kindOf, cX7_kindOf, 1, some .int)
theorem co_X7_kindOf : Cond.code yX7_kindOf cX7_kindOf 1 (some .int) ∈ zU := zin 336 (by decide +kernel) (by decide +kernel)
theorem lm_X7_35 : Cond.methodLink RX7 35 yX7_fitsInBoy ∈ zU := zin 337 (by decide +kernel) (by decide +kernel)
theorem im_X7_fitsInBoy : Cond.instanceMethod yX7_fitsInBoy ∈ zU := zin 338 (by decide +kernel) (by decide +kernel)
theorem sl_X7_fitsInBoy : Cond.selects RX7 yX7_fitsInBoy yX7_fitsInBoy ∈ zU := zin 339 (by decide +kernel) (by decide +kernel)
def M_X7_fitsInBoy : zM := (yX7_fitsInBoy, cX7_fitsInBoy, 3, some .boolean)
theorem co_X7_fitsInBoy : Cond.code yX7_fitsInBoy cX7_fitsInBoy 3 (some .boolean) ∈ zU := zin 340 (by decide +kernel) (by decide +kernel)
theorem lm_X7_39 : Cond.methodLink RX7 39 yX7_hasFreeCell ∈ zU := zin 341 (by decide +kernel) (by decide +kernel)
theorem im_X7_hasFreeCell : Cond.instanceMethod yX7_hasFreeCell ∈ zU := zin 342 (by decide +kernel) (by decide +kernel)
theorem sl_X7_hasFreeCell : Cond.selects RX7 yX7_hasFreeCell yX7_hasFreeCell ∈ zU := zin 343 (by decide +kernel) (by decide +kernel)
def M_X7_hasFreeCell : zM := (yX7_hasFreeCell, cX7_hasFreeCell, 2, some .boolean)
theorem co_X7_hasFreeCell : Cond.code yX7_hasFreeCell cX7_hasFreeCell 2 (some .boolean) ∈ zU := zin 344 (by decide +kernel) (by decide +kernel)
theorem lm_X7_42 : Cond.methodLink RX7 42 yX7_isFreeCell ∈ zU := zin 345 (by decide +kernel) (by decide +kernel)
theorem im_X7_isFreeCell : Cond.instanceMethod yX7_isFreeCell ∈ zU := zin 346 (by decide +kernel) (by decide +kernel)
theorem sl_X7_isFreeCell : Cond.selects RX7 yX7_isFreeCell yX7_isFreeCell ∈ zU := zin 347 (by decide +kernel) (by decide +kernel)
def M_X7_isFreeCell : zM := (yX7_isFreeCell, cX7_isFreeCell, 2, some .boolean)
theorem co_X7_isFreeCell : Cond.code yX7_isFreeCell cX7_isFreeCell 2 (some .boolean) ∈ zU := zin 348 (by decide +kernel) (by decide +kernel)
theorem lm_X7_23 : Cond.methodLink RX7 23 yX7_isWhole ∈ zU := zin 349 (by decide +kernel) (by decide +kernel)
theorem im_X7_isWhole : Cond.instanceMethod yX7_isWhole ∈ zU := zin 350 (by decide +kernel) (by decide +kernel)
theorem sl_X7_isWhole : Cond.selects RX7 yX7_isWhole yX7_isWhole ∈ zU := zin 351 (by decide +kernel) (by decide +kernel)
def M_X7_isWhole : zM := (yX7_isWhole, cX7_isWhole, 2, some .boolean)
theorem co_X7_isWhole : Cond.code yX7_isWhole cX7_isWhole 2 (some .boolean) ∈ zU := zin 352 (by decide +kernel) (by decide +kernel)
theorem lm_L_27 : Cond.methodLink RL 27 yX8_paper ∈ zU := zin 353 (by decide +kernel) (by decide +kernel)
theorem im_X8_paper : Cond.instanceMethod yX8_paper ∈ zU := zin 354 (by decide +kernel) (by decide +kernel)
theorem sl_X8_paper : Cond.selects RX8 yX8_paper yX8_paper ∈ zU := zin 355 (by decide +kernel) (by decide +kernel)
def M_X8_paper : zM := (yX8_paper, cX8_paper, 2, some .int)
theorem co_X8_paper : Cond.code yX8_paper cX8_paper 2 (some .int) ∈ zU := zin 356 (by decide +kernel) (by decide +kernel)
theorem lm_X8_93 : Cond.methodLink RX8 93 yX3_readFrom ∈ zU := zin 357 (by decide +kernel) (by decide +kernel)
theorem im_X3_readFrom : Cond.instanceMethod yX3_readFrom ∈ zU := zin 358 (by decide +kernel) (by decide +kernel)
theorem sl_X3_readFrom : Cond.selects RX3 yX3_readFrom yX3_readFrom ∈ zU := zin 359 (by decide +kernel) (by decide +kernel)
def M_X3_readFrom : zM := (yX3_readFrom, cX3_readFrom, 3, none)
theorem co_X3_readFrom : Cond.code yX3_readFrom cX3_readFrom 3 (none) ∈ zU := zin 360 (by decide +kernel) (by decide +kernel)
theorem lm_X3_40 : Cond.methodLink RX3 40 yX7_figure ∈ zU := zin 361 (by decide +kernel) (by decide +kernel)
theorem lm_X3_49 : Cond.methodLink RX3 49 yX7_boys ∈ zU := zin 362 (by decide +kernel) (by decide +kernel)
theorem im_X7_boys : Cond.instanceMethod yX7_boys ∈ zU := zin 363 (by decide +kernel) (by decide +kernel)
theorem sl_X7_boys : Cond.selects RX7 yX7_boys yX7_boys ∈ zU := zin 364 (by decide +kernel) (by decide +kernel)
def M_X7_boys : zM := (yX7_boys, cX7_boys, 1, some .int)
theorem co_X7_boys : Cond.code yX7_boys cX7_boys 1 (some .int) ∈ zU := zin 365 (by decide +kernel) (by decide +kernel)
theorem lm_X3_64 : Cond.methodLink RX3 64 yX7_kindOfCell ∈ zU := zin 366 (by decide +kernel) (by decide +kernel)
theorem im_X7_kindOfCell : Cond.instanceMethod yX7_kindOfCell ∈ zU := zin 367 (by decide +kernel) (by decide +kernel)
theorem sl_X7_kindOfCell : Cond.selects RX7 yX7_kindOfCell yX7_kindOfCell ∈ zU := zin 368 (by decide +kernel) (by decide +kernel)
def M_X7_kindOfCell : zM := (yX7_kindOfCell, cX7_kindOfCell, 2, some .int)
theorem co_X7_kindOfCell : Cond.code yX7_kindOfCell cX7_kindOfCell 2 (some .int) ∈ zU := zin 369 (by decide +kernel) (by decide +kernel)
theorem lm_X3_67 : Cond.methodLink RX3 67 yX7_homeOfBoy ∈ zU := zin 370 (by decide +kernel) (by decide +kernel)
theorem im_X7_homeOfBoy : Cond.instanceMethod yX7_homeOfBoy ∈ zU := zin 371 (by decide +kernel) (by decide +kernel)
theorem sl_X7_homeOfBoy : Cond.selects RX7 yX7_homeOfBoy yX7_homeOfBoy ∈ zU := zin 372 (by decide +kernel) (by decide +kernel)
def M_X7_homeOfBoy : zM := (yX7_homeOfBoy, cX7_homeOfBoy, 2, some .int)
theorem co_X7_homeOfBoy : Cond.code yX7_homeOfBoy cX7_homeOfBoy 2 (some .int) ∈ zU := zin 373 (by decide +kernel) (by decide +kernel)
theorem lm_X3_70 : Cond.methodLink RX3 70 yX7_kindOfBoy ∈ zU := zin 374 (by decide +kernel) (by decide +kernel)
theorem im_X7_kindOfBoy : Cond.instanceMethod yX7_kindOfBoy ∈ zU := zin 375 (by decide +kernel) (by decide +kernel)
theorem sl_X7_kindOfBoy : Cond.selects RX7 yX7_kindOfBoy yX7_kindOfBoy ∈ zU := zin 376 (by decide +kernel) (by decide +kernel)
def M_X7_kindOfBoy : zM := (yX7_kindOfBoy, cX7_kindOfBoy, 2, some .int)
theorem co_X7_kindOfBoy : Cond.code yX7_kindOfBoy cX7_kindOfBoy 2 (some .int) ∈ zU := zin 377 (by decide +kernel) (by decide +kernel)
theorem lm_X8_97 : Cond.methodLink RX8 97 yX4_begin ∈ zU := zin 378 (by decide +kernel) (by decide +kernel)
theorem im_X4_begin : Cond.instanceMethod yX4_begin ∈ zU := zin 379 (by decide +kernel) (by decide +kernel)
theorem sl_X4_begin : Cond.selects RX4 yX4_begin yX4_begin ∈ zU := zin 380 (by decide +kernel) (by decide +kernel)
def M_X4_begin : zM := (yX4_begin, cX4_begin, 2, none)
theorem co_X4_begin : Cond.code yX4_begin cX4_begin 2 (none) ∈ zU := zin 381 (by decide +kernel) (by decide +kernel)
theorem lm_X4_28 : Cond.methodLink RX4 28 yX4_homePlace ∈ zU := zin 382 (by decide +kernel) (by decide +kernel)
theorem im_X4_homePlace : Cond.instanceMethod yX4_homePlace ∈ zU := zin 383 (by decide +kernel) (by decide +kernel)
theorem sl_X4_homePlace : Cond.selects RX4 yX4_homePlace yX4_homePlace ∈ zU := zin 384 (by decide +kernel) (by decide +kernel)
def M_X4_homePlace : zM := (yX4_homePlace, cX4_homePlace, 2, some .int)
theorem co_X4_homePlace : Cond.code yX4_homePlace cX4_homePlace 2 (some .int) ∈ zU := zin 385 (by decide +kernel) (by decide +kernel)
theorem lm_X8_100 : Cond.methodLink RX8 100 yX0_forgetAll ∈ zU := zin 386 (by decide +kernel) (by decide +kernel)
theorem im_X0_forgetAll : Cond.instanceMethod yX0_forgetAll ∈ zU := zin 387 (by decide +kernel) (by decide +kernel)
theorem sl_X0_forgetAll : Cond.selects RX0 yX0_forgetAll yX0_forgetAll ∈ zU := zin 388 (by decide +kernel) (by decide +kernel)
def M_X0_forgetAll : zM := (yX0_forgetAll, cX0_forgetAll, 1, none)
theorem co_X0_forgetAll : Cond.code yX0_forgetAll cX0_forgetAll 1 (none) ∈ zU := zin 389 (by decide +kernel) (by decide +kernel)
theorem lm_L_31 : Cond.methodLink RL 31 yX8_about ∈ zU := zin 390 (by decide +kernel) (by decide +kernel)
theorem im_X8_about : Cond.instanceMethod yX8_about ∈ zU := zin 391 (by decide +kernel) (by decide +kernel)
theorem sl_X8_about : Cond.selects RX8 yX8_about yX8_about ∈ zU := zin 392 (by decide +kernel) (by decide +kernel)
def M_X8_about : zM := (yX8_about, cX8_about, 2, some .int)
theorem co_X8_about : Cond.code yX8_about cX8_about 2 (some .int) ∈ zU := zin 393 (by decide +kernel) (by decide +kernel)
theorem lm_X8_115 : Cond.methodLink RX8 115 yX4_cellsOfKind ∈ zU := zin 394 (by decide +kernel) (by decide +kernel)
theorem im_X4_cellsOfKind : Cond.instanceMethod yX4_cellsOfKind ∈ zU := zin 395 (by decide +kernel) (by decide +kernel)
theorem sl_X4_cellsOfKind : Cond.selects RX4 yX4_cellsOfKind yX4_cellsOfKind ∈ zU := zin 396 (by decide +kernel) (by decide +kernel)
def M_X4_cellsOfKind : zM := (yX4_cellsOfKind, cX4_cellsOfKind, 4, some .int)
theorem co_X4_cellsOfKind : Cond.code yX4_cellsOfKind cX4_cellsOfKind 4 (some .int) ∈ zU := zin 397 (by decide +kernel) (by decide +kernel)
theorem lm_X4_44 : Cond.methodLink RX4 44 yX4_kindAt ∈ zU := zin 398 (by decide +kernel) (by decide +kernel)
theorem im_X4_kindAt : Cond.instanceMethod yX4_kindAt ∈ zU := zin 399 (by decide +kernel) (by decide +kernel)
theorem sl_X4_kindAt : Cond.selects RX4 yX4_kindAt yX4_kindAt ∈ zU := zin 400 (by decide +kernel) (by decide +kernel)
def M_X4_kindAt : zM := (yX4_kindAt, cX4_kindAt, 2, some .int)
theorem co_X4_kindAt : Cond.code yX4_kindAt cX4_kindAt 2 (some .int) ∈ zU := zin 401 (by decide +kernel) (by decide +kernel)
theorem lm_X8_119 : Cond.methodLink RX8 119 yX4_whoIsHome ∈ zU := zin 402 (by decide +kernel) (by decide +kernel)
theorem im_X4_whoIsHome : Cond.instanceMethod yX4_whoIsHome ∈ zU := zin 403 (by decide +kernel) (by decide +kernel)
theorem sl_X4_whoIsHome : Cond.selects RX4 yX4_whoIsHome yX4_whoIsHome ∈ zU := zin 404 (by decide +kernel) (by decide +kernel)
def M_X4_whoIsHome : zM := (yX4_whoIsHome, cX4_whoIsHome, 3, some .int)
theorem co_X4_whoIsHome : Cond.code yX4_whoIsHome cX4_whoIsHome 3 (some .int) ∈ zU := zin 405 (by decide +kernel) (by decide +kernel)
theorem lm_X4_72 : Cond.methodLink RX4 72 yX4_isHome ∈ zU := zin 406 (by decide +kernel) (by decide +kernel)
theorem im_X4_isHome : Cond.instanceMethod yX4_isHome ∈ zU := zin 407 (by decide +kernel) (by decide +kernel)
theorem sl_X4_isHome : Cond.selects RX4 yX4_isHome yX4_isHome ∈ zU := zin 408 (by decide +kernel) (by decide +kernel)
def M_X4_isHome : zM := (yX4_isHome, cX4_isHome, 2, some .boolean)
theorem co_X4_isHome : Cond.code yX4_isHome cX4_isHome 2 (some .boolean) ∈ zU := zin 409 (by decide +kernel) (by decide +kernel)
theorem lm_L_35 : Cond.methodLink RL 35 yX8_cell ∈ zU := zin 410 (by decide +kernel) (by decide +kernel)
theorem im_X8_cell : Cond.instanceMethod yX8_cell ∈ zU := zin 411 (by decide +kernel) (by decide +kernel)
theorem sl_X8_cell : Cond.selects RX8 yX8_cell yX8_cell ∈ zU := zin 412 (by decide +kernel) (by decide +kernel)
def M_X8_cell : zM := (yX8_cell, cX8_cell, 2, some .int)
theorem co_X8_cell : Cond.code yX8_cell cX8_cell 2 (some .int) ∈ zU := zin 413 (by decide +kernel) (by decide +kernel)
theorem lm_X8_126 : Cond.methodLink RX8 126 yX3_hasCell ∈ zU := zin 414 (by decide +kernel) (by decide +kernel)
theorem im_X3_hasCell : Cond.instanceMethod yX3_hasCell ∈ zU := zin 415 (by decide +kernel) (by decide +kernel)
theorem sl_X3_hasCell : Cond.selects RX3 yX3_hasCell yX3_hasCell ∈ zU := zin 416 (by decide +kernel) (by decide +kernel)
def M_X3_hasCell : zM := (yX3_hasCell, cX3_hasCell, 2, some .boolean)
theorem co_X3_hasCell : Cond.code yX3_hasCell cX3_hasCell 2 (some .boolean) ∈ zU := zin 417 (by decide +kernel) (by decide +kernel)
theorem lm_X8_129 : Cond.methodLink RX8 129 yX4_kindAt ∈ zU := zin 418 (by decide +kernel) (by decide +kernel)
theorem lm_L_39 : Cond.methodLink RL 39 yX8_beside ∈ zU := zin 419 (by decide +kernel) (by decide +kernel)
theorem im_X8_beside : Cond.instanceMethod yX8_beside ∈ zU := zin 420 (by decide +kernel) (by decide +kernel)
theorem sl_X8_beside : Cond.selects RX8 yX8_beside yX8_beside ∈ zU := zin 421 (by decide +kernel) (by decide +kernel)
def M_X8_beside : zM := (yX8_beside, cX8_beside, 4, some .int)
theorem co_X8_beside : Cond.code yX8_beside cX8_beside 4 (some .int) ∈ zU := zin 422 (by decide +kernel) (by decide +kernel)
theorem lm_X8_132 : Cond.methodLink RX8 132 yX8_isWay ∈ zU := zin 423 (by decide +kernel) (by decide +kernel)
theorem st_X8_isWay : Cond.static yX8_isWay ∈ zU := zin 424 (by decide +kernel) (by decide +kernel)
def M_X8_isWay : zM := (yX8_isWay, cX8_isWay, 1, some .boolean)
theorem co_X8_isWay : Cond.code yX8_isWay cX8_isWay 1 (some .boolean) ∈ zU := zin 425 (by decide +kernel) (by decide +kernel)
theorem lm_X8_135 : Cond.methodLink RX8 135 yX3_cellBeside ∈ zU := zin 426 (by decide +kernel) (by decide +kernel)
theorem im_X3_cellBeside : Cond.instanceMethod yX3_cellBeside ∈ zU := zin 427 (by decide +kernel) (by decide +kernel)
theorem sl_X3_cellBeside : Cond.selects RX3 yX3_cellBeside yX3_cellBeside ∈ zU := zin 428 (by decide +kernel) (by decide +kernel)
def M_X3_cellBeside : zM := (yX3_cellBeside, cX3_cellBeside, 5, some .int)
theorem co_X3_cellBeside : Cond.code yX3_cellBeside cX3_cellBeside 5 (some .int) ∈ zU := zin 429 (by decide +kernel) (by decide +kernel)
theorem lm_L_44 : Cond.methodLink RL 44 yX8_boy ∈ zU := zin 430 (by decide +kernel) (by decide +kernel)
theorem im_X8_boy : Cond.instanceMethod yX8_boy ∈ zU := zin 431 (by decide +kernel) (by decide +kernel)
theorem sl_X8_boy : Cond.selects RX8 yX8_boy yX8_boy ∈ zU := zin 432 (by decide +kernel) (by decide +kernel)
def M_X8_boy : zM := (yX8_boy, cX8_boy, 4, some .int)
theorem co_X8_boy : Cond.code yX8_boy cX8_boy 4 (some .int) ∈ zU := zin 433 (by decide +kernel) (by decide +kernel)
theorem lm_X8_139 : Cond.methodLink RX8 139 yX3_hasBoy ∈ zU := zin 434 (by decide +kernel) (by decide +kernel)
theorem im_X3_hasBoy : Cond.instanceMethod yX3_hasBoy ∈ zU := zin 435 (by decide +kernel) (by decide +kernel)
theorem sl_X3_hasBoy : Cond.selects RX3 yX3_hasBoy yX3_hasBoy ∈ zU := zin 436 (by decide +kernel) (by decide +kernel)
def M_X3_hasBoy : zM := (yX3_hasBoy, cX3_hasBoy, 2, some .boolean)
theorem co_X3_hasBoy : Cond.code yX3_hasBoy cX3_hasBoy 2 (some .boolean) ∈ zU := zin 437 (by decide +kernel) (by decide +kernel)
theorem lm_X8_146 : Cond.methodLink RX8 146 yX8_cellOf ∈ zU := zin 438 (by decide +kernel) (by decide +kernel)
theorem st_X8_cellOf : Cond.static yX8_cellOf ∈ zU := zin 439 (by decide +kernel) (by decide +kernel)
def M_X8_cellOf : zM := (yX8_cellOf, cX8_cellOf, 1, some .int)
theorem co_X8_cellOf : Cond.code yX8_cellOf cX8_cellOf 1 (some .int) ∈ zU := zin 440 (by decide +kernel) (by decide +kernel)
theorem lm_X8_155 : Cond.methodLink RX8 155 yX8_widthOf ∈ zU := zin 441 (by decide +kernel) (by decide +kernel)
theorem st_X8_widthOf : Cond.static yX8_widthOf ∈ zU := zin 442 (by decide +kernel) (by decide +kernel)
def M_X8_widthOf : zM := (yX8_widthOf, cX8_widthOf, 1, some .int)
theorem co_X8_widthOf : Cond.code yX8_widthOf cX8_widthOf 1 (some .int) ∈ zU := zin 443 (by decide +kernel) (by decide +kernel)
theorem lm_X8_158 : Cond.methodLink RX8 158 yX8_heightOf ∈ zU := zin 444 (by decide +kernel) (by decide +kernel)
theorem st_X8_heightOf : Cond.static yX8_heightOf ∈ zU := zin 445 (by decide +kernel) (by decide +kernel)
def M_X8_heightOf : zM := (yX8_heightOf, cX8_heightOf, 1, some .int)
theorem co_X8_heightOf : Cond.code yX8_heightOf cX8_heightOf 1 (some .int) ∈ zU := zin 446 (by decide +kernel) (by decide +kernel)
theorem lm_X8_161 : Cond.methodLink RX8 161 yX4_waysOpen ∈ zU := zin 447 (by decide +kernel) (by decide +kernel)
theorem im_X4_waysOpen : Cond.instanceMethod yX4_waysOpen ∈ zU := zin 448 (by decide +kernel) (by decide +kernel)
theorem sl_X4_waysOpen : Cond.selects RX4 yX4_waysOpen yX4_waysOpen ∈ zU := zin 449 (by decide +kernel) (by decide +kernel)
def M_X4_waysOpen : zM := (yX4_waysOpen, cX4_waysOpen, 4, some .int)
theorem co_X4_waysOpen : Cond.code yX4_waysOpen cX4_waysOpen 4 (some .int) ∈ zU := zin 450 (by decide +kernel) (by decide +kernel)
theorem lm_X4_65 : Cond.methodLink RX4 65 yX4_placeOn ∈ zU := zin 451 (by decide +kernel) (by decide +kernel)
theorem im_X4_placeOn : Cond.instanceMethod yX4_placeOn ∈ zU := zin 452 (by decide +kernel) (by decide +kernel)
theorem sl_X4_placeOn : Cond.selects RX4 yX4_placeOn yX4_placeOn ∈ zU := zin 453 (by decide +kernel) (by decide +kernel)
def M_X4_placeOn : zM := (yX4_placeOn, cX4_placeOn, 5, some .int)
theorem co_X4_placeOn : Cond.code yX4_placeOn cX4_placeOn 5 (some .int) ∈ zU := zin 454 (by decide +kernel) (by decide +kernel)
theorem lm_X4_50 : Cond.methodLink RX4 50 yX3_goesStraight ∈ zU := zin 455 (by decide +kernel) (by decide +kernel)
theorem im_X3_goesStraight : Cond.instanceMethod yX3_goesStraight ∈ zU := zin 456 (by decide +kernel) (by decide +kernel)
theorem sl_X3_goesStraight : Cond.selects RX3 yX3_goesStraight yX3_goesStraight ∈ zU := zin 457 (by decide +kernel) (by decide +kernel)
def M_X3_goesStraight : zM := (yX3_goesStraight, cX3_goesStraight, 2, some .boolean)
theorem co_X3_goesStraight : Cond.code yX3_goesStraight cX3_goesStraight 2 (some .boolean) ∈ zU := zin 458 (by decide +kernel) (by decide +kernel)
theorem lm_X4_54 : Cond.methodLink RX4 54 yX3_placeBeside ∈ zU := zin 459 (by decide +kernel) (by decide +kernel)
theorem im_X3_placeBeside : Cond.instanceMethod yX3_placeBeside ∈ zU := zin 460 (by decide +kernel) (by decide +kernel)
theorem sl_X3_placeBeside : Cond.selects RX3 yX3_placeBeside yX3_placeBeside ∈ zU := zin 461 (by decide +kernel) (by decide +kernel)
def M_X3_placeBeside : zM := (yX3_placeBeside, cX3_placeBeside, 9, some .int)
theorem co_X3_placeBeside : Cond.code yX3_placeBeside cX3_placeBeside 9 (some .int) ∈ zU := zin 462 (by decide +kernel) (by decide +kernel)
theorem ln_X3_87 : (RX3, 87, yX8_cellOf, "PaperTrellis") ∈ zN := by decide +kernel
theorem ln_X3_90 : (RX3, 90, yX8_widthOf, "PaperTrellis") ∈ zN := by decide +kernel
theorem ln_X3_93 : (RX3, 93, yX8_heightOf, "PaperTrellis") ∈ zN := by decide +kernel
theorem lm_X3_96 : Cond.methodLink RX3 96 yX3_cellBeside ∈ zU := zin 466 (by decide +kernel) (by decide +kernel)
theorem ln_X4_58 : (RX4, 58, yX8_cellOf, "PaperTrellis") ∈ zN := by decide +kernel
theorem lm_X4_61 : Cond.methodLink RX4 61 yX4_canBe ∈ zU := zin 468 (by decide +kernel) (by decide +kernel)
theorem im_X4_canBe : Cond.instanceMethod yX4_canBe ∈ zU := zin 469 (by decide +kernel) (by decide +kernel)
theorem sl_X4_canBe : Cond.selects RX4 yX4_canBe yX4_canBe ∈ zU := zin 470 (by decide +kernel) (by decide +kernel)
def M_X4_canBe : zM := (yX4_canBe, cX4_canBe, 4, some .boolean)
theorem co_X4_canBe : Cond.code yX4_canBe cX4_canBe 4 (some .boolean) ∈ zU := zin 471 (by decide +kernel) (by decide +kernel)
theorem lm_L_49 : Cond.methodLink RL 49 yX8_step ∈ zU := zin 472 (by decide +kernel) (by decide +kernel)
theorem im_X8_step : Cond.instanceMethod yX8_step ∈ zU := zin 473 (by decide +kernel) (by decide +kernel)
theorem sl_X8_step : Cond.selects RX8 yX8_step yX8_step ∈ zU := zin 474 (by decide +kernel) (by decide +kernel)
def M_X8_step : zM := (yX8_step, cX8_step, 3, some .int)
theorem co_X8_step : Cond.code yX8_step cX8_step 3 (some .int) ∈ zU := zin 475 (by decide +kernel) (by decide +kernel)
theorem lm_X8_164 : Cond.methodLink RX8 164 yX4_placeOn ∈ zU := zin 476 (by decide +kernel) (by decide +kernel)
theorem lm_X8_168 : Cond.methodLink RX8 168 yX0_remember ∈ zU := zin 477 (by decide +kernel) (by decide +kernel)
theorem im_X0_remember : Cond.instanceMethod yX0_remember ∈ zU := zin 478 (by decide +kernel) (by decide +kernel)
theorem sl_X0_remember : Cond.selects RX0 yX0_remember yX0_remember ∈ zU := zin 479 (by decide +kernel) (by decide +kernel)
def M_X0_remember : zM := (yX0_remember, cX0_remember, 2, none)
theorem co_X0_remember : Cond.code yX0_remember cX0_remember 2 (none) ∈ zU := zin 480 (by decide +kernel) (by decide +kernel)
theorem lm_X0_24 : Cond.methodLink RX0 24 yX4_become ∈ zU := zin 481 (by decide +kernel) (by decide +kernel)
theorem im_X4_become : Cond.instanceMethod yX4_become ∈ zU := zin 482 (by decide +kernel) (by decide +kernel)
theorem sl_X4_become : Cond.selects RX4 yX4_become yX4_become ∈ zU := zin 483 (by decide +kernel) (by decide +kernel)
def M_X4_become : zM := (yX4_become, cX4_become, 2, none)
theorem co_X4_become : Cond.code yX4_become cX4_become 2 (none) ∈ zU := zin 484 (by decide +kernel) (by decide +kernel)
theorem lm_X4_32 : Cond.methodLink RX4 32 arraycopyName ∈ zU := zin 485 (by decide +kernel) (by decide +kernel)
theorem st_arraycopy : Cond.static arraycopyName ∈ zU := zin 486 (by decide +kernel) (by decide +kernel)
theorem na_arraycopy : Cond.native arraycopyName ∈ zU := zin 487 (by decide +kernel) (by decide +kernel)
theorem lm_X0_31 : Cond.methodLink RX0 31 yJ9_min_7cf53 ∈ zU := zin 488 (by decide +kernel) (by decide +kernel)
theorem lm_X8_172 : Cond.methodLink RX8 172 yX4_goes ∈ zU := zin 489 (by decide +kernel) (by decide +kernel)
theorem im_X4_goes : Cond.instanceMethod yX4_goes ∈ zU := zin 490 (by decide +kernel) (by decide +kernel)
theorem sl_X4_goes : Cond.selects RX4 yX4_goes yX4_goes ∈ zU := zin 491 (by decide +kernel) (by decide +kernel)
def M_X4_goes : zM := (yX4_goes, cX4_goes, 4, some .boolean)
theorem co_X4_goes : Cond.code yX4_goes cX4_goes 4 (some .boolean) ∈ zU := zin 492 (by decide +kernel) (by decide +kernel)
theorem lm_L_53 : Cond.methodLink RL 53 yX8_call ∈ zU := zin 493 (by decide +kernel) (by decide +kernel)
theorem im_X8_call : Cond.instanceMethod yX8_call ∈ zU := zin 494 (by decide +kernel) (by decide +kernel)
theorem sl_X8_call : Cond.selects RX8 yX8_call yX8_call ∈ zU := zin 495 (by decide +kernel) (by decide +kernel)
def M_X8_call : zM := (yX8_call, cX8_call, 2, some .int)
theorem co_X8_call : Cond.code yX8_call cX8_call 2 (some .int) ∈ zU := zin 496 (by decide +kernel) (by decide +kernel)
theorem lm_X8_176 : Cond.methodLink RX8 176 yX4_bringHome ∈ zU := zin 497 (by decide +kernel) (by decide +kernel)
theorem im_X4_bringHome : Cond.instanceMethod yX4_bringHome ∈ zU := zin 498 (by decide +kernel) (by decide +kernel)
theorem sl_X4_bringHome : Cond.selects RX4 yX4_bringHome yX4_bringHome ∈ zU := zin 499 (by decide +kernel) (by decide +kernel)
def M_X4_bringHome : zM := (yX4_bringHome, cX4_bringHome, 4, some .int)
theorem co_X4_bringHome : Cond.code yX4_bringHome cX4_bringHome 4 (some .int) ∈ zU := zin 500 (by decide +kernel) (by decide +kernel)
theorem lm_X4_87 : Cond.methodLink RX4 87 yX4_doesHear ∈ zU := zin 501 (by decide +kernel) (by decide +kernel)
theorem im_X4_doesHear : Cond.instanceMethod yX4_doesHear ∈ zU := zin 502 (by decide +kernel) (by decide +kernel)
theorem sl_X4_doesHear : Cond.selects RX4 yX4_doesHear yX4_doesHear ∈ zU := zin 503 (by decide +kernel) (by decide +kernel)
def M_X4_doesHear : zM := (yX4_doesHear, cX4_doesHear, 6, some .boolean)
theorem co_X4_doesHear : Cond.code yX4_doesHear cX4_doesHear 6 (some .boolean) ∈ zU := zin 504 (by decide +kernel) (by decide +kernel)
theorem lm_X4_84 : Cond.methodLink RX4 84 yX3_cellBeside ∈ zU := zin 505 (by decide +kernel) (by decide +kernel)
theorem lm_L_57 : Cond.methodLink RL 57 yX8_cut ∈ zU := zin 506 (by decide +kernel) (by decide +kernel)
theorem im_X8_cut : Cond.instanceMethod yX8_cut ∈ zU := zin 507 (by decide +kernel) (by decide +kernel)
theorem sl_X8_cut : Cond.selects RX8 yX8_cut yX8_cut ∈ zU := zin 508 (by decide +kernel) (by decide +kernel)
def M_X8_cut : zM := (yX8_cut, cX8_cut, 2, some .int)
theorem co_X8_cut : Cond.code yX8_cut cX8_cut 2 (some .int) ∈ zU := zin 509 (by decide +kernel) (by decide +kernel)
theorem lm_X8_179 : Cond.methodLink RX8 179 yX4_cutAway ∈ zU := zin 510 (by decide +kernel) (by decide +kernel)
theorem im_X4_cutAway : Cond.instanceMethod yX4_cutAway ∈ zU := zin 511 (by decide +kernel) (by decide +kernel)
theorem sl_X4_cutAway : Cond.selects RX4 yX4_cutAway yX4_cutAway ∈ zU := zin 512 (by decide +kernel) (by decide +kernel)
def M_X4_cutAway : zM := (yX4_cutAway, cX4_cutAway, 2, none)
theorem co_X4_cutAway : Cond.code yX4_cutAway cX4_cutAway 2 (none) ∈ zU := zin 513 (by decide +kernel) (by decide +kernel)
theorem lm_X8_183 : Cond.methodLink RX8 183 yJ6_bitCount_0f7a4 ∈ zU := zin 514 (by decide +kernel) (by decide +kernel)
theorem st_J6_bitCount_0f7a4 : Cond.static yJ6_bitCount_0f7a4 ∈ zU := zin 515 (by decide +kernel) (by decide +kernel)
def M_J6_bitCount_0f7a4 : zM := (yJ6_bitCount_0f7a4, cJ6_bitCount_0f7a4, 1, some .int)
theorem co_J6_bitCount_0f7a4 : Cond.code yJ6_bitCount_0f7a4 cJ6_bitCount_0f7a4 1 (some .int) ∈ zU := zin 516 (by decide +kernel) (by decide +kernel)
theorem lk_J6_265 : Cond.constant RJ6 265 (1431655765) ∈ zU := zin 517 (by decide +kernel) (by decide +kernel)
theorem lk_J6_266 : Cond.constant RJ6 266 (858993459) ∈ zU := zin 518 (by decide +kernel) (by decide +kernel)
theorem lk_J6_267 : Cond.constant RJ6 267 (252645135) ∈ zU := zin 519 (by decide +kernel) (by decide +kernel)
theorem lm_L_61 : Cond.methodLink RL 61 yX8_undo ∈ zU := zin 520 (by decide +kernel) (by decide +kernel)
theorem im_X8_undo : Cond.instanceMethod yX8_undo ∈ zU := zin 521 (by decide +kernel) (by decide +kernel)
theorem sl_X8_undo : Cond.selects RX8 yX8_undo yX8_undo ∈ zU := zin 522 (by decide +kernel) (by decide +kernel)
def M_X8_undo : zM := (yX8_undo, cX8_undo, 1, some .int)
theorem co_X8_undo : Cond.code yX8_undo cX8_undo 1 (some .int) ∈ zU := zin 523 (by decide +kernel) (by decide +kernel)
theorem lm_X8_188 : Cond.methodLink RX8 188 yX0_takeBack ∈ zU := zin 524 (by decide +kernel) (by decide +kernel)
theorem im_X0_takeBack : Cond.instanceMethod yX0_takeBack ∈ zU := zin 525 (by decide +kernel) (by decide +kernel)
theorem sl_X0_takeBack : Cond.selects RX0 yX0_takeBack yX0_takeBack ∈ zU := zin 526 (by decide +kernel) (by decide +kernel)
def M_X0_takeBack : zM := (yX0_takeBack, cX0_takeBack, 2, some .boolean)
theorem co_X0_takeBack : Cond.code yX0_takeBack cX0_takeBack 2 (some .boolean) ∈ zU := zin 527 (by decide +kernel) (by decide +kernel)
theorem lm_L_65 : Cond.methodLink RL 65 yX8_far ∈ zU := zin 528 (by decide +kernel) (by decide +kernel)
theorem im_X8_far : Cond.instanceMethod yX8_far ∈ zU := zin 529 (by decide +kernel) (by decide +kernel)
theorem sl_X8_far : Cond.selects RX8 yX8_far yX8_far ∈ zU := zin 530 (by decide +kernel) (by decide +kernel)
def M_X8_far : zM := (yX8_far, cX8_far, 2, some .int)
theorem co_X8_far : Cond.code yX8_far cX8_far 2 (some .int) ∈ zU := zin 531 (by decide +kernel) (by decide +kernel)
theorem lm_X8_192 : Cond.methodLink RX8 192 yX5_stepsHome ∈ zU := zin 532 (by decide +kernel) (by decide +kernel)
theorem im_X5_stepsHome : Cond.instanceMethod yX5_stepsHome ∈ zU := zin 533 (by decide +kernel) (by decide +kernel)
theorem sl_X5_stepsHome : Cond.selects RX5 yX5_stepsHome yX5_stepsHome ∈ zU := zin 534 (by decide +kernel) (by decide +kernel)
def M_X5_stepsHome : zM := (yX5_stepsHome, cX5_stepsHome, 4, some .int)
theorem co_X5_stepsHome : Cond.code yX5_stepsHome cX5_stepsHome 4 (some .int) ∈ zU := zin 535 (by decide +kernel) (by decide +kernel)
theorem lm_X5_41 : Cond.methodLink RX5 41 yX5_spread ∈ zU := zin 536 (by decide +kernel) (by decide +kernel)
theorem im_X5_spread : Cond.instanceMethod yX5_spread ∈ zU := zin 537 (by decide +kernel) (by decide +kernel)
theorem sl_X5_spread : Cond.selects RX5 yX5_spread yX5_spread ∈ zU := zin 538 (by decide +kernel) (by decide +kernel)
def M_X5_spread : zM := (yX5_spread, cX5_spread, 9, none)
theorem co_X5_spread : Cond.code yX5_spread cX5_spread 9 (none) ∈ zU := zin 539 (by decide +kernel) (by decide +kernel)
theorem lm_X5_21 : Cond.methodLink RX5 21 yX5_clear ∈ zU := zin 540 (by decide +kernel) (by decide +kernel)
theorem im_X5_clear : Cond.instanceMethod yX5_clear ∈ zU := zin 541 (by decide +kernel) (by decide +kernel)
theorem sl_X5_clear : Cond.selects RX5 yX5_clear yX5_clear ∈ zU := zin 542 (by decide +kernel) (by decide +kernel)
def M_X5_clear : zM := (yX5_clear, cX5_clear, 2, none)
theorem co_X5_clear : Cond.code yX5_clear cX5_clear 2 (none) ∈ zU := zin 543 (by decide +kernel) (by decide +kernel)
theorem lm_X5_29 : Cond.methodLink RX5 29 yX5_put ∈ zU := zin 544 (by decide +kernel) (by decide +kernel)
theorem im_X5_put : Cond.instanceMethod yX5_put ∈ zU := zin 545 (by decide +kernel) (by decide +kernel)
theorem sl_X5_put : Cond.selects RX5 yX5_put yX5_put ∈ zU := zin 546 (by decide +kernel) (by decide +kernel)
def M_X5_put : zM := (yX5_put, cX5_put, 3, none)
theorem co_X5_put : Cond.code yX5_put cX5_put 3 (none) ∈ zU := zin 547 (by decide +kernel) (by decide +kernel)
theorem lm_X5_37 : Cond.methodLink RX5 37 yX4_placeOn ∈ zU := zin 548 (by decide +kernel) (by decide +kernel)
theorem lm_X5_45 : Cond.methodLink RX5 45 yX4_homePlace ∈ zU := zin 549 (by decide +kernel) (by decide +kernel)
theorem lm_L_69 : Cond.methodLink RL 69 yX8_reach ∈ zU := zin 550 (by decide +kernel) (by decide +kernel)
theorem im_X8_reach : Cond.instanceMethod yX8_reach ∈ zU := zin 551 (by decide +kernel) (by decide +kernel)
theorem sl_X8_reach : Cond.selects RX8 yX8_reach yX8_reach ∈ zU := zin 552 (by decide +kernel) (by decide +kernel)
def M_X8_reach : zM := (yX8_reach, cX8_reach, 3, some .int)
theorem co_X8_reach : Cond.code yX8_reach cX8_reach 3 (some .int) ∈ zU := zin 553 (by decide +kernel) (by decide +kernel)
theorem lm_X8_196 : Cond.methodLink RX8 196 yX5_cellsWithin ∈ zU := zin 554 (by decide +kernel) (by decide +kernel)
theorem im_X5_cellsWithin : Cond.instanceMethod yX5_cellsWithin ∈ zU := zin 555 (by decide +kernel) (by decide +kernel)
theorem sl_X5_cellsWithin : Cond.selects RX5 yX5_cellsWithin yX5_cellsWithin ∈ zU := zin 556 (by decide +kernel) (by decide +kernel)
def M_X5_cellsWithin : zM := (yX5_cellsWithin, cX5_cellsWithin, 6, some .int)
theorem co_X5_cellsWithin : Cond.code yX5_cellsWithin cX5_cellsWithin 6 (some .int) ∈ zU := zin 557 (by decide +kernel) (by decide +kernel)
theorem ln_X5_49 : (RX5, 49, yX8_cellOf, "PaperTrellis") ∈ zN := by decide +kernel
theorem lm_L_73 : Cond.methodLink RL 73 yX8_again ∈ zU := zin 559 (by decide +kernel) (by decide +kernel)
theorem im_X8_again : Cond.instanceMethod yX8_again ∈ zU := zin 560 (by decide +kernel) (by decide +kernel)
theorem sl_X8_again : Cond.selects RX8 yX8_again yX8_again ∈ zU := zin 561 (by decide +kernel) (by decide +kernel)
def M_X8_again : zM := (yX8_again, cX8_again, 3, some .int)
theorem co_X8_again : Cond.code yX8_again cX8_again 3 (some .int) ∈ zU := zin 562 (by decide +kernel) (by decide +kernel)
theorem lm_X8_200 : Cond.methodLink RX8 200 yX8_stepsRound ∈ zU := zin 563 (by decide +kernel) (by decide +kernel)
theorem im_X8_stepsRound : Cond.instanceMethod yX8_stepsRound ∈ zU := zin 565 (by decide +kernel) (by decide +kernel)
def M_X8_stepsRound : zM := (yX8_stepsRound, cX8_stepsRound, 7, some .int)
theorem co_X8_stepsRound : Cond.code yX8_stepsRound cX8_stepsRound 7 (some .int) ∈ zU := zin 566 (by decide +kernel) (by decide +kernel)
theorem lm_X8_281 : Cond.methodLink RX8 281 yX3_goesStraight ∈ zU := zin 567 (by decide +kernel) (by decide +kernel)
theorem lm_X8_284 : Cond.methodLink RX8 284 yX4_canBe ∈ zU := zin 568 (by decide +kernel) (by decide +kernel)
theorem lm_L_77 : Cond.methodLink RL 77 yX8_alike ∈ zU := zin 569 (by decide +kernel) (by decide +kernel)
theorem im_X8_alike : Cond.instanceMethod yX8_alike ∈ zU := zin 570 (by decide +kernel) (by decide +kernel)
theorem sl_X8_alike : Cond.selects RX8 yX8_alike yX8_alike ∈ zU := zin 571 (by decide +kernel) (by decide +kernel)
def M_X8_alike : zM := (yX8_alike, cX8_alike, 4, some .int)
theorem co_X8_alike : Cond.code yX8_alike cX8_alike 4 (some .int) ∈ zU := zin 572 (by decide +kernel) (by decide +kernel)
theorem lm_X8_207 : Cond.methodLink RX8 207 yX8_looksLike ∈ zU := zin 573 (by decide +kernel) (by decide +kernel)
theorem im_X8_looksLike : Cond.instanceMethod yX8_looksLike ∈ zU := zin 575 (by decide +kernel) (by decide +kernel)
def M_X8_looksLike : zM := (yX8_looksLike, cX8_looksLike, 5, some .boolean)
theorem co_X8_looksLike : Cond.code yX8_looksLike cX8_looksLike 5 (some .boolean) ∈ zU := zin 576 (by decide +kernel) (by decide +kernel)
theorem lm_L_81 : Cond.methodLink RL 81 yX8_calls ∈ zU := zin 577 (by decide +kernel) (by decide +kernel)
theorem im_X8_calls : Cond.instanceMethod yX8_calls ∈ zU := zin 578 (by decide +kernel) (by decide +kernel)
theorem sl_X8_calls : Cond.selects RX8 yX8_calls yX8_calls ∈ zU := zin 579 (by decide +kernel) (by decide +kernel)
def M_X8_calls : zM := (yX8_calls, cX8_calls, 2, some .int)
theorem co_X8_calls : Cond.code yX8_calls cX8_calls 2 (some .int) ∈ zU := zin 580 (by decide +kernel) (by decide +kernel)
theorem lm_X8_210 : Cond.methodLink RX8 210 yX1_cellsToCall ∈ zU := zin 581 (by decide +kernel) (by decide +kernel)
theorem im_X1_cellsToCall : Cond.instanceMethod yX1_cellsToCall ∈ zU := zin 582 (by decide +kernel) (by decide +kernel)
theorem sl_X1_cellsToCall : Cond.selects RX1 yX1_cellsToCall yX1_cellsToCall ∈ zU := zin 583 (by decide +kernel) (by decide +kernel)
def M_X1_cellsToCall : zM := (yX1_cellsToCall, cX1_cellsToCall, 5, some .int)
theorem co_X1_cellsToCall : Cond.code yX1_cellsToCall cX1_cellsToCall 5 (some .int) ∈ zU := zin 584 (by decide +kernel) (by decide +kernel)
theorem lm_X1_15 : Cond.methodLink RX1 15 yX4_whoIsHome ∈ zU := zin 585 (by decide +kernel) (by decide +kernel)
theorem lk_X1_33 : Cond.constant RX1 33 (2147483647) ∈ zU := zin 586 (by decide +kernel) (by decide +kernel)
theorem lm_X1_37 : Cond.methodLink RX1 37 yX1_hearers ∈ zU := zin 587 (by decide +kernel) (by decide +kernel)
theorem im_X1_hearers : Cond.instanceMethod yX1_hearers ∈ zU := zin 588 (by decide +kernel) (by decide +kernel)
theorem sl_X1_hearers : Cond.selects RX1 yX1_hearers yX1_hearers ∈ zU := zin 589 (by decide +kernel) (by decide +kernel)
def M_X1_hearers : zM := (yX1_hearers, cX1_hearers, 5, some .int)
theorem co_X1_hearers : Cond.code yX1_hearers cX1_hearers 5 (some .int) ∈ zU := zin 590 (by decide +kernel) (by decide +kernel)
theorem lm_X1_53 : Cond.methodLink RX1 53 yX4_doesHear ∈ zU := zin 591 (by decide +kernel) (by decide +kernel)
theorem lm_X1_41 : Cond.methodLink RX1 41 yX1_addCell ∈ zU := zin 592 (by decide +kernel) (by decide +kernel)
theorem im_X1_addCell : Cond.instanceMethod yX1_addCell ∈ zU := zin 593 (by decide +kernel) (by decide +kernel)
theorem sl_X1_addCell : Cond.selects RX1 yX1_addCell yX1_addCell ∈ zU := zin 594 (by decide +kernel) (by decide +kernel)
def M_X1_addCell : zM := (yX1_addCell, cX1_addCell, 5, none)
theorem co_X1_addCell : Cond.code yX1_addCell cX1_addCell 5 (none) ∈ zU := zin 595 (by decide +kernel) (by decide +kernel)
theorem lk_X1_46 : Cond.constant RX1 46 (1048576) ∈ zU := zin 596 (by decide +kernel) (by decide +kernel)
theorem lm_X1_47 : Cond.methodLink RX1 47 yJ9_min_7cf53 ∈ zU := zin 597 (by decide +kernel) (by decide +kernel)
theorem lk_X1_45 : Cond.constant RX1 45 (1048575) ∈ zU := zin 598 (by decide +kernel) (by decide +kernel)
theorem lm_L_85 : Cond.methodLink RL 85 yX8_match ∈ zU := zin 599 (by decide +kernel) (by decide +kernel)
theorem im_X8_match : Cond.instanceMethod yX8_match ∈ zU := zin 600 (by decide +kernel) (by decide +kernel)
theorem sl_X8_match : Cond.selects RX8 yX8_match yX8_match ∈ zU := zin 601 (by decide +kernel) (by decide +kernel)
def M_X8_match : zM := (yX8_match, cX8_match, 6, some .int)
theorem co_X8_match : Cond.code yX8_match cX8_match 6 (some .int) ∈ zU := zin 602 (by decide +kernel) (by decide +kernel)
theorem lm_X8_214 : Cond.methodLink RX8 214 yX8_unlikeRows ∈ zU := zin 603 (by decide +kernel) (by decide +kernel)
theorem im_X8_unlikeRows : Cond.instanceMethod yX8_unlikeRows ∈ zU := zin 605 (by decide +kernel) (by decide +kernel)
def M_X8_unlikeRows : zM := (yX8_unlikeRows, cX8_unlikeRows, 6, some .int)
theorem co_X8_unlikeRows : Cond.code yX8_unlikeRows cX8_unlikeRows 6 (some .int) ∈ zU := zin 606 (by decide +kernel) (by decide +kernel)
theorem lm_X8_287 : Cond.methodLink RX8 287 yX3_rowOn ∈ zU := zin 607 (by decide +kernel) (by decide +kernel)
theorem lm_L_91 : Cond.methodLink RL 91 yX8_judge ∈ zU := zin 608 (by decide +kernel) (by decide +kernel)
theorem im_X8_judge : Cond.instanceMethod yX8_judge ∈ zU := zin 609 (by decide +kernel) (by decide +kernel)
theorem sl_X8_judge : Cond.selects RX8 yX8_judge yX8_judge ∈ zU := zin 610 (by decide +kernel) (by decide +kernel)
def M_X8_judge : zM := (yX8_judge, cX8_judge, 6, some .int)
theorem co_X8_judge : Cond.code yX8_judge cX8_judge 6 (some .int) ∈ zU := zin 611 (by decide +kernel) (by decide +kernel)
theorem lst_X8_217 : Cond.fieldLink RX8 217 "PaperTrellis" "THOUSANDS" "[J" ∈ zU := zin 612 (by decide +kernel) (by decide +kernel)
theorem lm_X8_221 : Cond.methodLink RX8 221 yX4_become ∈ zU := zin 614 (by decide +kernel) (by decide +kernel)
theorem lk_X8_224 : Cond.constantLong RX8 224 (1000) ∈ zU := zin 615 (by decide +kernel) (by decide +kernel)
theorem lm_X8_226 : Cond.methodLink RX8 226 yX8_holds ∈ zU := zin 616 (by decide +kernel) (by decide +kernel)
theorem im_X8_holds : Cond.instanceMethod yX8_holds ∈ zU := zin 618 (by decide +kernel) (by decide +kernel)
def M_X8_holds : zM := (yX8_holds, cX8_holds, 5, some .boolean)
theorem co_X8_holds : Cond.code yX8_holds cX8_holds 5 (some .boolean) ∈ zU := zin 619 (by decide +kernel) (by decide +kernel)
theorem lm_X8_290 : Cond.methodLink RX8 290 yX4_isHome ∈ zU := zin 620 (by decide +kernel) (by decide +kernel)
theorem lm_L_96 : Cond.methodLink RL 96 yX8_share ∈ zU := zin 621 (by decide +kernel) (by decide +kernel)
theorem im_X8_share : Cond.instanceMethod yX8_share ∈ zU := zin 622 (by decide +kernel) (by decide +kernel)
theorem sl_X8_share : Cond.selects RX8 yX8_share yX8_share ∈ zU := zin 623 (by decide +kernel) (by decide +kernel)
def M_X8_share : zM := (yX8_share, cX8_share, 3, some .int)
theorem co_X8_share : Cond.code yX8_share cX8_share 3 (some .int) ∈ zU := zin 624 (by decide +kernel) (by decide +kernel)
theorem lm_X8_230 : Cond.methodLink RX8 230 yX5_sixtiethsShared ∈ zU := zin 625 (by decide +kernel) (by decide +kernel)
theorem im_X5_sixtiethsShared : Cond.instanceMethod yX5_sixtiethsShared ∈ zU := zin 626 (by decide +kernel) (by decide +kernel)
theorem sl_X5_sixtiethsShared : Cond.selects RX5 yX5_sixtiethsShared yX5_sixtiethsShared ∈ zU := zin 627 (by decide +kernel) (by decide +kernel)
def M_X5_sixtiethsShared : zM := (yX5_sixtiethsShared, cX5_sixtiethsShared, 8, some .int)
theorem co_X5_sixtiethsShared : Cond.code yX5_sixtiethsShared cX5_sixtiethsShared 8 (some .int) ∈ zU := zin 628 (by decide +kernel) (by decide +kernel)
theorem lm_X5_61 : Cond.methodLink RX5 61 yX5_cellsWithin ∈ zU := zin 629 (by decide +kernel) (by decide +kernel)
theorem lm_X8_233 : Cond.methodLink RX8 233 yX8_told ∈ zU := zin 630 (by decide +kernel) (by decide +kernel)
theorem st_X8_told : Cond.static yX8_told ∈ zU := zin 631 (by decide +kernel) (by decide +kernel)
def M_X8_told : zM := (yX8_told, cX8_told, 4, some .int)
theorem co_X8_told : Cond.code yX8_told cX8_told 4 (some .int) ∈ zU := zin 632 (by decide +kernel) (by decide +kernel)
theorem lm_X8_278 : Cond.methodLink RX8 278 yX8_commonDivisor ∈ zU := zin 633 (by decide +kernel) (by decide +kernel)
theorem st_X8_commonDivisor : Cond.static yX8_commonDivisor ∈ zU := zin 634 (by decide +kernel) (by decide +kernel)
def M_X8_commonDivisor : zM := (yX8_commonDivisor, cX8_commonDivisor, 6, some .int)
theorem co_X8_commonDivisor : Cond.code yX8_commonDivisor cX8_commonDivisor 6 (some .int) ∈ zU := zin 635 (by decide +kernel) (by decide +kernel)
theorem lm_L_101 : Cond.methodLink RL 101 yX8_see ∈ zU := zin 636 (by decide +kernel) (by decide +kernel)
theorem im_X8_see : Cond.instanceMethod yX8_see ∈ zU := zin 637 (by decide +kernel) (by decide +kernel)
theorem sl_X8_see : Cond.selects RX8 yX8_see yX8_see ∈ zU := zin 638 (by decide +kernel) (by decide +kernel)
def M_X8_see : zM := (yX8_see, cX8_see, 4, some .int)
theorem co_X8_see : Cond.code yX8_see cX8_see 4 (some .int) ∈ zU := zin 639 (by decide +kernel) (by decide +kernel)
theorem lm_X8_236 : Cond.methodLink RX8 236 yX8_inSight ∈ zU := zin 640 (by decide +kernel) (by decide +kernel)
theorem st_X8_inSight : Cond.static yX8_inSight ∈ zU := zin 641 (by decide +kernel) (by decide +kernel)
def M_X8_inSight : zM := (yX8_inSight, cX8_inSight, 1, some .boolean)
theorem co_X8_inSight : Cond.code yX8_inSight cX8_inSight 1 (some .boolean) ∈ zU := zin 642 (by decide +kernel) (by decide +kernel)
theorem lm_X8_239 : Cond.methodLink RX8 239 yX6_add ∈ zU := zin 643 (by decide +kernel) (by decide +kernel)
theorem im_X6_add : Cond.instanceMethod yX6_add ∈ zU := zin 644 (by decide +kernel) (by decide +kernel)
theorem sl_X6_add : Cond.selects RX6 yX6_add yX6_add ∈ zU := zin 645 (by decide +kernel) (by decide +kernel)
def M_X6_add : zM := (yX6_add, cX6_add, 4, some .boolean)
theorem co_X6_add : Cond.code yX6_add cX6_add 4 (some .boolean) ∈ zU := zin 646 (by decide +kernel) (by decide +kernel)
theorem lm_L_106 : Cond.methodLink RL 106 yX8_unsee ∈ zU := zin 647 (by decide +kernel) (by decide +kernel)
theorem im_X8_unsee : Cond.instanceMethod yX8_unsee ∈ zU := zin 648 (by decide +kernel) (by decide +kernel)
theorem sl_X8_unsee : Cond.selects RX8 yX8_unsee yX8_unsee ∈ zU := zin 649 (by decide +kernel) (by decide +kernel)
def M_X8_unsee : zM := (yX8_unsee, cX8_unsee, 2, some .int)
theorem co_X8_unsee : Cond.code yX8_unsee cX8_unsee 2 (some .int) ∈ zU := zin 650 (by decide +kernel) (by decide +kernel)
theorem lm_L_110 : Cond.methodLink RL 110 yX8_stands ∈ zU := zin 651 (by decide +kernel) (by decide +kernel)
theorem im_X8_stands : Cond.instanceMethod yX8_stands ∈ zU := zin 652 (by decide +kernel) (by decide +kernel)
theorem sl_X8_stands : Cond.selects RX8 yX8_stands yX8_stands ∈ zU := zin 653 (by decide +kernel) (by decide +kernel)
def M_X8_stands : zM := (yX8_stands, cX8_stands, 3, some .int)
theorem co_X8_stands : Cond.code yX8_stands cX8_stands 3 (some .int) ∈ zU := zin 654 (by decide +kernel) (by decide +kernel)
theorem lm_X8_241 : Cond.methodLink RX8 241 yX6_isSoFrom ∈ zU := zin 655 (by decide +kernel) (by decide +kernel)
theorem im_X6_isSoFrom : Cond.instanceMethod yX6_isSoFrom ∈ zU := zin 656 (by decide +kernel) (by decide +kernel)
theorem sl_X6_isSoFrom : Cond.selects RX6 yX6_isSoFrom yX6_isSoFrom ∈ zU := zin 657 (by decide +kernel) (by decide +kernel)
def M_X6_isSoFrom : zM := (yX6_isSoFrom, cX6_isSoFrom, 6, some .boolean)
theorem co_X6_isSoFrom : Cond.code yX6_isSoFrom cX6_isSoFrom 6 (some .boolean) ∈ zU := zin 658 (by decide +kernel) (by decide +kernel)
theorem lm_X6_31 : Cond.methodLink RX6 31 yX6_cellOff ∈ zU := zin 659 (by decide +kernel) (by decide +kernel)
theorem st_X6_cellOff : Cond.static yX6_cellOff ∈ zU := zin 660 (by decide +kernel) (by decide +kernel)
def M_X6_cellOff : zM := (yX6_cellOff, cX6_cellOff, 8, some .int)
theorem co_X6_cellOff : Cond.code yX6_cellOff cX6_cellOff 8 (some .int) ∈ zU := zin 661 (by decide +kernel) (by decide +kernel)
theorem lm_X6_39 : Cond.methodLink RX6 39 yJ9_abs_0f7a4 ∈ zU := zin 662 (by decide +kernel) (by decide +kernel)
theorem st_J9_abs_0f7a4 : Cond.static yJ9_abs_0f7a4 ∈ zU := zin 663 (by decide +kernel) (by decide +kernel)
def M_J9_abs_0f7a4 : zM := (yJ9_abs_0f7a4, cJ9_abs_0f7a4, 1, some .int)
theorem co_J9_abs_0f7a4 : Cond.code yJ9_abs_0f7a4 cJ9_abs_0f7a4 1 (some .int) ∈ zU := zin 664 (by decide +kernel) (by decide +kernel)
theorem lm_X6_44 : Cond.methodLink RX6 44 yX3_cellBeside ∈ zU := zin 665 (by decide +kernel) (by decide +kernel)
theorem lm_X6_35 : Cond.methodLink RX6 35 yX4_kindAt ∈ zU := zin 666 (by decide +kernel) (by decide +kernel)
theorem lm_L_114 : Cond.methodLink RL 114 yX8_rests ∈ zU := zin 667 (by decide +kernel) (by decide +kernel)
theorem im_X8_rests : Cond.instanceMethod yX8_rests ∈ zU := zin 668 (by decide +kernel) (by decide +kernel)
theorem sl_X8_rests : Cond.selects RX8 yX8_rests yX8_rests ∈ zU := zin 669 (by decide +kernel) (by decide +kernel)
def M_X8_rests : zM := (yX8_rests, cX8_rests, 4, some .int)
theorem co_X8_rests : Cond.code yX8_rests cX8_rests 4 (some .int) ∈ zU := zin 670 (by decide +kernel) (by decide +kernel)
theorem lm_X8_245 : Cond.methodLink RX8 245 yX2_lookAt ∈ zU := zin 671 (by decide +kernel) (by decide +kernel)
theorem im_X2_lookAt : Cond.instanceMethod yX2_lookAt ∈ zU := zin 672 (by decide +kernel) (by decide +kernel)
theorem sl_X2_lookAt : Cond.selects RX2 yX2_lookAt yX2_lookAt ∈ zU := zin 673 (by decide +kernel) (by decide +kernel)
def M_X2_lookAt : zM := (yX2_lookAt, cX2_lookAt, 7, none)
theorem co_X2_lookAt : Cond.code yX2_lookAt cX2_lookAt 7 (none) ∈ zU := zin 674 (by decide +kernel) (by decide +kernel)
theorem lm_X2_23 : Cond.methodLink RX2 23 yX4_placeOn ∈ zU := zin 675 (by decide +kernel) (by decide +kernel)
theorem ln_X2_27 : (RX2, 27, yX8_cellOf, "PaperTrellis") ∈ zN := by decide +kernel
theorem lm_X2_31 : Cond.methodLink RX2 31 yX4_kindAt ∈ zU := zin 677 (by decide +kernel) (by decide +kernel)
theorem lm_X8_249 : Cond.methodLink RX8 249 yX8_countOfRests ∈ zU := zin 678 (by decide +kernel) (by decide +kernel)
theorem im_X8_countOfRests : Cond.instanceMethod yX8_countOfRests ∈ zU := zin 680 (by decide +kernel) (by decide +kernel)
def M_X8_countOfRests : zM := (yX8_countOfRests, cX8_countOfRests, 4, some .int)
theorem co_X8_countOfRests : Cond.code yX8_countOfRests cX8_countOfRests 4 (some .int) ∈ zU := zin 681 (by decide +kernel) (by decide +kernel)
theorem lm_X8_297 : Cond.methodLink RX8 297 yX8_isRest ∈ zU := zin 682 (by decide +kernel) (by decide +kernel)
theorem im_X8_isRest : Cond.instanceMethod yX8_isRest ∈ zU := zin 684 (by decide +kernel) (by decide +kernel)
def M_X8_isRest : zM := (yX8_isRest, cX8_isRest, 6, some .boolean)
theorem co_X8_isRest : Cond.code yX8_isRest cX8_isRest 6 (some .boolean) ∈ zU := zin 685 (by decide +kernel) (by decide +kernel)
theorem lm_X8_293 : Cond.methodLink RX8 293 yX2_worth ∈ zU := zin 686 (by decide +kernel) (by decide +kernel)
theorem im_X2_worth : Cond.instanceMethod yX2_worth ∈ zU := zin 687 (by decide +kernel) (by decide +kernel)
theorem sl_X2_worth : Cond.selects RX2 yX2_worth yX2_worth ∈ zU := zin 688 (by decide +kernel) (by decide +kernel)
def M_X2_worth : zM := (yX2_worth, cX2_worth, 4, some .int)
theorem co_X2_worth : Cond.code yX2_worth cX2_worth 4 (some .int) ∈ zU := zin 689 (by decide +kernel) (by decide +kernel)
theorem lm_X8_252 : Cond.methodLink RX8 252 yX8_firstRest ∈ zU := zin 690 (by decide +kernel) (by decide +kernel)
theorem im_X8_firstRest : Cond.instanceMethod yX8_firstRest ∈ zU := zin 692 (by decide +kernel) (by decide +kernel)
def M_X8_firstRest : zM := (yX8_firstRest, cX8_firstRest, 3, some .int)
theorem co_X8_firstRest : Cond.code yX8_firstRest cX8_firstRest 3 (some .int) ∈ zU := zin 693 (by decide +kernel) (by decide +kernel)
theorem lm_L_118 : Cond.methodLink RL 118 yX8_strays ∈ zU := zin 694 (by decide +kernel) (by decide +kernel)
theorem im_X8_strays : Cond.instanceMethod yX8_strays ∈ zU := zin 695 (by decide +kernel) (by decide +kernel)
theorem sl_X8_strays : Cond.selects RX8 yX8_strays yX8_strays ∈ zU := zin 696 (by decide +kernel) (by decide +kernel)
def M_X8_strays : zM := (yX8_strays, cX8_strays, 4, some .int)
theorem co_X8_strays : Cond.code yX8_strays cX8_strays 4 (some .int) ∈ zU := zin 697 (by decide +kernel) (by decide +kernel)
theorem lm_X8_255 : Cond.methodLink RX8 255 yX8_walksHome ∈ zU := zin 698 (by decide +kernel) (by decide +kernel)
theorem st_X8_walksHome : Cond.static yX8_walksHome ∈ zU := zin 699 (by decide +kernel) (by decide +kernel)
def M_X8_walksHome : zM := (yX8_walksHome, cX8_walksHome, 7, some .int)
theorem co_X8_walksHome : Cond.code yX8_walksHome cX8_walksHome 7 (some .int) ∈ zU := zin 700 (by decide +kernel) (by decide +kernel)
theorem lm_X8_300 : Cond.methodLink RX8 300 yX4_homePlace ∈ zU := zin 701 (by decide +kernel) (by decide +kernel)
theorem lst_X8_259 : Cond.fieldLink RX8 259 "PaperTrellis" "POWERS_OF_FOUR" "[I" ∈ zU := zin 702 (by decide +kernel) (by decide +kernel)
theorem lm_L_122 : Cond.methodLink RL 122 yX8_seed ∈ zU := zin 704 (by decide +kernel) (by decide +kernel)
theorem im_X8_seed : Cond.instanceMethod yX8_seed ∈ zU := zin 705 (by decide +kernel) (by decide +kernel)
theorem sl_X8_seed : Cond.selects RX8 yX8_seed yX8_seed ∈ zU := zin 706 (by decide +kernel) (by decide +kernel)
def M_X8_seed : zM := (yX8_seed, cX8_seed, 5, some .long)
theorem co_X8_seed : Cond.code yX8_seed cX8_seed 5 (some .long) ∈ zU := zin 707 (by decide +kernel) (by decide +kernel)
theorem lm_L_127 : Cond.methodLink RL 127 yX8_nights ∈ zU := zin 708 (by decide +kernel) (by decide +kernel)
theorem im_X8_nights : Cond.instanceMethod yX8_nights ∈ zU := zin 709 (by decide +kernel) (by decide +kernel)
theorem sl_X8_nights : Cond.selects RX8 yX8_nights yX8_nights ∈ zU := zin 710 (by decide +kernel) (by decide +kernel)
def M_X8_nights : zM := (yX8_nights, cX8_nights, 4, some .int)
theorem co_X8_nights : Cond.code yX8_nights cX8_nights 4 (some .int) ∈ zU := zin 711 (by decide +kernel) (by decide +kernel)
theorem lk_X8_266 : Cond.constantLong RX8 266 (6364136223846793005) ∈ zU := zin 712 (by decide +kernel) (by decide +kernel)
theorem lk_X8_268 : Cond.constantLong RX8 268 (1442695040888963407) ∈ zU := zin 713 (by decide +kernel) (by decide +kernel)
theorem lk_X8_270 : Cond.constantLong RX8 270 (40) ∈ zU := zin 714 (by decide +kernel) (by decide +kernel)
theorem lm_X8_272 : Cond.methodLink RX8 272 yX8_happens ∈ zU := zin 715 (by decide +kernel) (by decide +kernel)
theorem im_X8_happens : Cond.instanceMethod yX8_happens ∈ zU := zin 717 (by decide +kernel) (by decide +kernel)
def M_X8_happens : zM := (yX8_happens, cX8_happens, 3, none)
theorem co_X8_happens : Cond.code yX8_happens cX8_happens 3 (none) ∈ zU := zin 718 (by decide +kernel) (by decide +kernel)
theorem lm_X8_275 : Cond.methodLink RX8 275 yX4_countNotHome ∈ zU := zin 719 (by decide +kernel) (by decide +kernel)
theorem im_X4_countNotHome : Cond.instanceMethod yX4_countNotHome ∈ zU := zin 720 (by decide +kernel) (by decide +kernel)
theorem sl_X4_countNotHome : Cond.selects RX4 yX4_countNotHome yX4_countNotHome ∈ zU := zin 721 (by decide +kernel) (by decide +kernel)
def M_X4_countNotHome : zM := (yX4_countNotHome, cX4_countNotHome, 1, some .int)
theorem co_X4_countNotHome : Cond.code yX4_countNotHome cX4_countNotHome 1 (some .int) ∈ zU := zin 722 (by decide +kernel) (by decide +kernel)
theorem lm_X4_75 : Cond.methodLink RX4 75 yX4_whoIsHome ∈ zU := zin 723 (by decide +kernel) (by decide +kernel)
theorem lm_X4_79 : Cond.methodLink RX4 79 yJ6_bitCount_0f7a4 ∈ zU := zin 724 (by decide +kernel) (by decide +kernel)
theorem lm_L_131 : Cond.methodLink RL 131 yX8_keep ∈ zU := zin 725 (by decide +kernel) (by decide +kernel)
theorem im_X8_keep : Cond.instanceMethod yX8_keep ∈ zU := zin 726 (by decide +kernel) (by decide +kernel)
theorem sl_X8_keep : Cond.selects RX8 yX8_keep yX8_keep ∈ zU := zin 727 (by decide +kernel) (by decide +kernel)
def M_X8_keep : zM := (yX8_keep, cX8_keep, 2, some .int)
theorem co_X8_keep : Cond.code yX8_keep cX8_keep 2 (some .int) ∈ zU := zin 728 (by decide +kernel) (by decide +kernel)
theorem lm_L_135 : Cond.methodLink RL 135 yX8_goOn ∈ zU := zin 729 (by decide +kernel) (by decide +kernel)
theorem im_X8_goOn : Cond.instanceMethod yX8_goOn ∈ zU := zin 730 (by decide +kernel) (by decide +kernel)
theorem sl_X8_goOn : Cond.selects RX8 yX8_goOn yX8_goOn ∈ zU := zin 731 (by decide +kernel) (by decide +kernel)
def M_X8_goOn : zM := (yX8_goOn, cX8_goOn, 2, some .int)
theorem co_X8_goOn : Cond.code yX8_goOn cX8_goOn 2 (some .int) ∈ zU := zin 732 (by decide +kernel) (by decide +kernel)
theorem lcl_L_10 : Cond.classLink RL 10 RX9 ∈ zU := zin 733 (by decide +kernel) (by decide +kernel)
theorem ins_RX9 : Cond.instantiable RX9 36 ∈ zU := zin 734 (by decide +kernel) (by decide +kernel)
theorem lm_L_12 : Cond.methodLink RL 12 yX9_init ∈ zU := zin 735 (by decide +kernel) (by decide +kernel)
theorem im_X9_init : Cond.instanceMethod yX9_init ∈ zU := zin 736 (by decide +kernel) (by decide +kernel)
def M_X9_init : zM := (yX9_init, cX9_init, 1, none)
theorem co_X9_init : Cond.code yX9_init cX9_init 1 (none) ∈ zU := zin 737 (by decide +kernel) (by decide +kernel)
theorem lm_X9_1 : Cond.methodLink RX9 1 Lib.objectInit ∈ zU := zin 738 (by decide +kernel) (by decide +kernel)
theorem lf_X9_75 : zfl RX9 75 9 0 := ⟨RX9, TX9, 36, rfl, by decide, zin 739 (by decide +kernel) (by decide +kernel)⟩
theorem lp_X9_75 : zpf RX9 75 9 0 false (.int) := ⟨RX9, TX9, 36, rfl, by decide, zin 739 (by decide +kernel) (by decide +kernel), rfl, by decide +kernel, fun h => absurd h (by decide)⟩
theorem lf_X9_7 : zfl RX9 7 9 1 := ⟨RX9, TX9, 36, rfl, by decide, zin 740 (by decide +kernel) (by decide +kernel)⟩
theorem lp_X9_7 : zpf RX9 7 9 1 true (.array .int) := ⟨RX9, TX9, 36, rfl, by decide, zin 740 (by decide +kernel) (by decide +kernel), rfl, by decide +kernel, fun _ => rfl⟩
theorem lf_X9_89 : zfl RX9 89 9 2 := ⟨RX9, TX9, 36, rfl, by decide, zin 741 (by decide +kernel) (by decide +kernel)⟩
theorem lp_X9_89 : zpf RX9 89 9 2 false (.int) := ⟨RX9, TX9, 36, rfl, by decide, zin 741 (by decide +kernel) (by decide +kernel), rfl, by decide +kernel, fun h => absurd h (by decide)⟩
theorem lf_X9_92 : zfl RX9 92 9 3 := ⟨RX9, TX9, 36, rfl, by decide, zin 742 (by decide +kernel) (by decide +kernel)⟩
theorem lp_X9_92 : zpf RX9 92 9 3 false (.int) := ⟨RX9, TX9, 36, rfl, by decide, zin 742 (by decide +kernel) (by decide +kernel), rfl, by decide +kernel, fun h => absurd h (by decide)⟩
theorem lf_X9_13 : zfl RX9 13 9 4 := ⟨RX9, TX9, 36, rfl, by decide, zin 743 (by decide +kernel) (by decide +kernel)⟩
theorem lp_X9_13 : zpf RX9 13 9 4 false (.int) := ⟨RX9, TX9, 36, rfl, by decide, zin 743 (by decide +kernel) (by decide +kernel), rfl, by decide +kernel, fun h => absurd h (by decide)⟩
theorem lf_X9_17 : zfl RX9 17 9 5 := ⟨RX9, TX9, 36, rfl, by decide, zin 744 (by decide +kernel) (by decide +kernel)⟩
theorem lp_X9_17 : zpf RX9 17 9 5 false (.int) := ⟨RX9, TX9, 36, rfl, by decide, zin 744 (by decide +kernel) (by decide +kernel), rfl, by decide +kernel, fun h => absurd h (by decide)⟩
theorem lf_X9_128 : zfl RX9 128 9 6 := ⟨RX9, TX9, 36, rfl, by decide, zin 745 (by decide +kernel) (by decide +kernel)⟩
theorem lp_X9_128 : zpf RX9 128 9 6 false (.int) := ⟨RX9, TX9, 36, rfl, by decide, zin 745 (by decide +kernel) (by decide +kernel), rfl, by decide +kernel, fun h => absurd h (by decide)⟩
theorem lf_X9_20 : zfl RX9 20 9 7 := ⟨RX9, TX9, 36, rfl, by decide, zin 746 (by decide +kernel) (by decide +kernel)⟩
theorem lp_X9_20 : zpf RX9 20 9 7 true (.array .int) := ⟨RX9, TX9, 36, rfl, by decide, zin 746 (by decide +kernel) (by decide +kernel), rfl, by decide +kernel, fun _ => rfl⟩
theorem lf_X9_78 : zfl RX9 78 9 8 := ⟨RX9, TX9, 36, rfl, by decide, zin 747 (by decide +kernel) (by decide +kernel)⟩
theorem lp_X9_78 : zpf RX9 78 9 8 false (.int) := ⟨RX9, TX9, 36, rfl, by decide, zin 747 (by decide +kernel) (by decide +kernel), rfl, by decide +kernel, fun h => absurd h (by decide)⟩
theorem lf_X9_23 : zfl RX9 23 9 9 := ⟨RX9, TX9, 36, rfl, by decide, zin 748 (by decide +kernel) (by decide +kernel)⟩
theorem lp_X9_23 : zpf RX9 23 9 9 true (.array .int) := ⟨RX9, TX9, 36, rfl, by decide, zin 748 (by decide +kernel) (by decide +kernel), rfl, by decide +kernel, fun _ => rfl⟩
theorem lf_X9_26 : zfl RX9 26 9 10 := ⟨RX9, TX9, 36, rfl, by decide, zin 749 (by decide +kernel) (by decide +kernel)⟩
theorem lp_X9_26 : zpf RX9 26 9 10 true (.array .int) := ⟨RX9, TX9, 36, rfl, by decide, zin 749 (by decide +kernel) (by decide +kernel), rfl, by decide +kernel, fun _ => rfl⟩
theorem lf_X9_95 : zfl RX9 95 9 11 := ⟨RX9, TX9, 36, rfl, by decide, zin 750 (by decide +kernel) (by decide +kernel)⟩
theorem lp_X9_95 : zpf RX9 95 9 11 false (.int) := ⟨RX9, TX9, 36, rfl, by decide, zin 750 (by decide +kernel) (by decide +kernel), rfl, by decide +kernel, fun h => absurd h (by decide)⟩
theorem lf_X9_98 : zfl RX9 98 9 12 := ⟨RX9, TX9, 36, rfl, by decide, zin 751 (by decide +kernel) (by decide +kernel)⟩
theorem lp_X9_98 : zpf RX9 98 9 12 false (.int) := ⟨RX9, TX9, 36, rfl, by decide, zin 751 (by decide +kernel) (by decide +kernel), rfl, by decide +kernel, fun h => absurd h (by decide)⟩
theorem lf_X9_112 : zfl RX9 112 9 13 := ⟨RX9, TX9, 36, rfl, by decide, zin 752 (by decide +kernel) (by decide +kernel)⟩
theorem lp_X9_112 : zpf RX9 112 9 13 false (.int) := ⟨RX9, TX9, 36, rfl, by decide, zin 752 (by decide +kernel) (by decide +kernel), rfl, by decide +kernel, fun h => absurd h (by decide)⟩
theorem lf_X9_29 : zfl RX9 29 9 14 := ⟨RX9, TX9, 36, rfl, by decide, zin 753 (by decide +kernel) (by decide +kernel)⟩
theorem lp_X9_29 : zpf RX9 29 9 14 true (.array .int) := ⟨RX9, TX9, 36, rfl, by decide, zin 753 (by decide +kernel) (by decide +kernel), rfl, by decide +kernel, fun _ => rfl⟩
theorem lf_X9_101 : zfl RX9 101 9 15 := ⟨RX9, TX9, 36, rfl, by decide, zin 754 (by decide +kernel) (by decide +kernel)⟩
theorem lp_X9_101 : zpf RX9 101 9 15 false (.int) := ⟨RX9, TX9, 36, rfl, by decide, zin 754 (by decide +kernel) (by decide +kernel), rfl, by decide +kernel, fun h => absurd h (by decide)⟩
theorem lf_X9_32 : zfl RX9 32 9 16 := ⟨RX9, TX9, 36, rfl, by decide, zin 755 (by decide +kernel) (by decide +kernel)⟩
theorem lp_X9_32 : zpf RX9 32 9 16 true (.array .int) := ⟨RX9, TX9, 36, rfl, by decide, zin 755 (by decide +kernel) (by decide +kernel), rfl, by decide +kernel, fun _ => rfl⟩
theorem lf_X9_35 : zfl RX9 35 9 17 := ⟨RX9, TX9, 36, rfl, by decide, zin 756 (by decide +kernel) (by decide +kernel)⟩
theorem lp_X9_35 : zpf RX9 35 9 17 true (.array .int) := ⟨RX9, TX9, 36, rfl, by decide, zin 756 (by decide +kernel) (by decide +kernel), rfl, by decide +kernel, fun _ => rfl⟩
theorem lf_X9_38 : zfl RX9 38 9 18 := ⟨RX9, TX9, 36, rfl, by decide, zin 757 (by decide +kernel) (by decide +kernel)⟩
theorem lp_X9_38 : zpf RX9 38 9 18 true (.array .int) := ⟨RX9, TX9, 36, rfl, by decide, zin 757 (by decide +kernel) (by decide +kernel), rfl, by decide +kernel, fun _ => rfl⟩
theorem lf_X9_41 : zfl RX9 41 9 19 := ⟨RX9, TX9, 36, rfl, by decide, zin 758 (by decide +kernel) (by decide +kernel)⟩
theorem lp_X9_41 : zpf RX9 41 9 19 true (.array .int) := ⟨RX9, TX9, 36, rfl, by decide, zin 758 (by decide +kernel) (by decide +kernel), rfl, by decide +kernel, fun _ => rfl⟩
theorem lf_X9_131 : zfl RX9 131 9 20 := ⟨RX9, TX9, 36, rfl, by decide, zin 759 (by decide +kernel) (by decide +kernel)⟩
theorem lp_X9_131 : zpf RX9 131 9 20 false (.int) := ⟨RX9, TX9, 36, rfl, by decide, zin 759 (by decide +kernel) (by decide +kernel), rfl, by decide +kernel, fun h => absurd h (by decide)⟩
theorem lf_X9_44 : zfl RX9 44 9 21 := ⟨RX9, TX9, 36, rfl, by decide, zin 760 (by decide +kernel) (by decide +kernel)⟩
theorem lp_X9_44 : zpf RX9 44 9 21 true (.array .int) := ⟨RX9, TX9, 36, rfl, by decide, zin 760 (by decide +kernel) (by decide +kernel), rfl, by decide +kernel, fun _ => rfl⟩
theorem lf_X9_47 : zfl RX9 47 9 22 := ⟨RX9, TX9, 36, rfl, by decide, zin 761 (by decide +kernel) (by decide +kernel)⟩
theorem lp_X9_47 : zpf RX9 47 9 22 true (.array .boolean) := ⟨RX9, TX9, 36, rfl, by decide, zin 761 (by decide +kernel) (by decide +kernel), rfl, by decide +kernel, fun _ => rfl⟩
theorem lf_X9_177 : zfl RX9 177 9 23 := ⟨RX9, TX9, 36, rfl, by decide, zin 762 (by decide +kernel) (by decide +kernel)⟩
theorem lp_X9_177 : zpf RX9 177 9 23 false (.int) := ⟨RX9, TX9, 36, rfl, by decide, zin 762 (by decide +kernel) (by decide +kernel), rfl, by decide +kernel, fun h => absurd h (by decide)⟩
theorem lf_X9_51 : zfl RX9 51 9 24 := ⟨RX9, TX9, 36, rfl, by decide, zin 763 (by decide +kernel) (by decide +kernel)⟩
theorem lp_X9_51 : zpf RX9 51 9 24 true (.array .int) := ⟨RX9, TX9, 36, rfl, by decide, zin 763 (by decide +kernel) (by decide +kernel), rfl, by decide +kernel, fun _ => rfl⟩
theorem lf_X9_54 : zfl RX9 54 9 25 := ⟨RX9, TX9, 36, rfl, by decide, zin 764 (by decide +kernel) (by decide +kernel)⟩
theorem lp_X9_54 : zpf RX9 54 9 25 true (.array .int) := ⟨RX9, TX9, 36, rfl, by decide, zin 764 (by decide +kernel) (by decide +kernel), rfl, by decide +kernel, fun _ => rfl⟩
theorem lf_X9_57 : zfl RX9 57 9 26 := ⟨RX9, TX9, 36, rfl, by decide, zin 765 (by decide +kernel) (by decide +kernel)⟩
theorem lp_X9_57 : zpf RX9 57 9 26 true (.array .int) := ⟨RX9, TX9, 36, rfl, by decide, zin 765 (by decide +kernel) (by decide +kernel), rfl, by decide +kernel, fun _ => rfl⟩
theorem lf_X9_283 : zfl RX9 283 9 27 := ⟨RX9, TX9, 36, rfl, by decide, zin 766 (by decide +kernel) (by decide +kernel)⟩
theorem lp_X9_283 : zpf RX9 283 9 27 false (.long) := ⟨RX9, TX9, 36, rfl, by decide, zin 766 (by decide +kernel) (by decide +kernel), rfl, by decide +kernel, fun h => absurd h (by decide)⟩
theorem lf_X9_60 : zfl RX9 60 9 28 := ⟨RX9, TX9, 36, rfl, by decide, zin 767 (by decide +kernel) (by decide +kernel)⟩
theorem lp_X9_60 : zpf RX9 60 9 28 true (.array .int) := ⟨RX9, TX9, 36, rfl, by decide, zin 767 (by decide +kernel) (by decide +kernel), rfl, by decide +kernel, fun _ => rfl⟩
theorem lf_X9_63 : zfl RX9 63 9 29 := ⟨RX9, TX9, 36, rfl, by decide, zin 768 (by decide +kernel) (by decide +kernel)⟩
theorem lp_X9_63 : zpf RX9 63 9 29 true (.array .int) := ⟨RX9, TX9, 36, rfl, by decide, zin 768 (by decide +kernel) (by decide +kernel), rfl, by decide +kernel, fun _ => rfl⟩
theorem lf_X9_66 : zfl RX9 66 9 30 := ⟨RX9, TX9, 36, rfl, by decide, zin 769 (by decide +kernel) (by decide +kernel)⟩
theorem lp_X9_66 : zpf RX9 66 9 30 true (.array .int) := ⟨RX9, TX9, 36, rfl, by decide, zin 769 (by decide +kernel) (by decide +kernel), rfl, by decide +kernel, fun _ => rfl⟩
theorem lf_X9_237 : zfl RX9 237 9 31 := ⟨RX9, TX9, 36, rfl, by decide, zin 770 (by decide +kernel) (by decide +kernel)⟩
theorem lp_X9_237 : zpf RX9 237 9 31 false (.int) := ⟨RX9, TX9, 36, rfl, by decide, zin 770 (by decide +kernel) (by decide +kernel), rfl, by decide +kernel, fun h => absurd h (by decide)⟩
theorem lf_X9_272 : zfl RX9 272 9 32 := ⟨RX9, TX9, 36, rfl, by decide, zin 771 (by decide +kernel) (by decide +kernel)⟩
theorem lp_X9_272 : zpf RX9 272 9 32 false (.int) := ⟨RX9, TX9, 36, rfl, by decide, zin 771 (by decide +kernel) (by decide +kernel), rfl, by decide +kernel, fun h => absurd h (by decide)⟩
theorem lf_X9_275 : zfl RX9 275 9 33 := ⟨RX9, TX9, 36, rfl, by decide, zin 772 (by decide +kernel) (by decide +kernel)⟩
theorem lp_X9_275 : zpf RX9 275 9 33 false (.int) := ⟨RX9, TX9, 36, rfl, by decide, zin 772 (by decide +kernel) (by decide +kernel), rfl, by decide +kernel, fun h => absurd h (by decide)⟩
theorem lf_X9_69 : zfl RX9 69 9 34 := ⟨RX9, TX9, 36, rfl, by decide, zin 773 (by decide +kernel) (by decide +kernel)⟩
theorem lp_X9_69 : zpf RX9 69 9 34 true (.array .int) := ⟨RX9, TX9, 36, rfl, by decide, zin 773 (by decide +kernel) (by decide +kernel), rfl, by decide +kernel, fun _ => rfl⟩
theorem lf_X9_72 : zfl RX9 72 9 35 := ⟨RX9, TX9, 36, rfl, by decide, zin 774 (by decide +kernel) (by decide +kernel)⟩
theorem lp_X9_72 : zpf RX9 72 9 35 true (.array .int) := ⟨RX9, TX9, 36, rfl, by decide, zin 774 (by decide +kernel) (by decide +kernel), rfl, by decide +kernel, fun _ => rfl⟩
theorem lm_L_17 : Cond.methodLink RL 17 yX9_write ∈ zU := zin 848 (by decide +kernel) (by decide +kernel)
theorem im_X9_write : Cond.instanceMethod yX9_write ∈ zU := zin 849 (by decide +kernel) (by decide +kernel)
theorem sl_X9_write : Cond.selects RX9 yX9_write yX9_write ∈ zU := zin 850 (by decide +kernel) (by decide +kernel)
def M_X9_write : zM := (yX9_write, cX9_write, 2, some .int)
theorem co_X9_write : Cond.code yX9_write cX9_write 2 (some .int) ∈ zU := zin 851 (by decide +kernel) (by decide +kernel)
theorem lk_X9_87 : Cond.constantLong RX9 87 (255) ∈ zU := zin 852 (by decide +kernel) (by decide +kernel)
theorem lm_X9_81 : Cond.methodLink RX9 81 yX9_in ∈ zU := zin 853 (by decide +kernel) (by decide +kernel)
theorem st_X9_in : Cond.static yX9_in ∈ zU := zin 854 (by decide +kernel) (by decide +kernel)
def M_X9_in : zM := (yX9_in, cX9_in, 6, some .boolean)
theorem co_X9_in : Cond.code yX9_in cX9_in 6 (some .boolean) ∈ zU := zin 855 (by decide +kernel) (by decide +kernel)
theorem lm_L_22 : Cond.methodLink RL 22 yX9_wipe ∈ zU := zin 856 (by decide +kernel) (by decide +kernel)
theorem im_X9_wipe : Cond.instanceMethod yX9_wipe ∈ zU := zin 857 (by decide +kernel) (by decide +kernel)
theorem sl_X9_wipe : Cond.selects RX9 yX9_wipe yX9_wipe ∈ zU := zin 858 (by decide +kernel) (by decide +kernel)
def M_X9_wipe : zM := (yX9_wipe, cX9_wipe, 2, some .int)
theorem co_X9_wipe : Cond.code yX9_wipe cX9_wipe 2 (some .int) ∈ zU := zin 859 (by decide +kernel) (by decide +kernel)
theorem lm_L_26 : Cond.methodLink RL 26 yX9_fault ∈ zU := zin 860 (by decide +kernel) (by decide +kernel)
theorem im_X9_fault : Cond.instanceMethod yX9_fault ∈ zU := zin 861 (by decide +kernel) (by decide +kernel)
theorem sl_X9_fault : Cond.selects RX9 yX9_fault yX9_fault ∈ zU := zin 862 (by decide +kernel) (by decide +kernel)
def M_X9_fault : zM := (yX9_fault, cX9_fault, 1, some .int)
theorem co_X9_fault : Cond.code yX9_fault cX9_fault 1 (some .int) ∈ zU := zin 863 (by decide +kernel) (by decide +kernel)
theorem lm_X9_125 : Cond.methodLink RX9 125 yX9_readPaper ∈ zU := zin 864 (by decide +kernel) (by decide +kernel)
theorem im_X9_readPaper : Cond.instanceMethod yX9_readPaper ∈ zU := zin 866 (by decide +kernel) (by decide +kernel)
def M_X9_readPaper : zM := (yX9_readPaper, cX9_readPaper, 1, some .int)
theorem co_X9_readPaper : Cond.code yX9_readPaper cX9_readPaper 1 (some .int) ∈ zU := zin 867 (by decide +kernel) (by decide +kernel)
theorem lm_X9_119 : Cond.methodLink RX9 119 yX9_readPattern ∈ zU := zin 868 (by decide +kernel) (by decide +kernel)
theorem im_X9_readPattern : Cond.instanceMethod yX9_readPattern ∈ zU := zin 870 (by decide +kernel) (by decide +kernel)
def M_X9_readPattern : zM := (yX9_readPattern, cX9_readPattern, 2, some .boolean)
theorem co_X9_readPattern : Cond.code yX9_readPattern cX9_readPattern 2 (some .boolean) ∈ zU := zin 871 (by decide +kernel) (by decide +kernel)
theorem lm_X9_108 : Cond.methodLink RX9 108 yX9_from ∈ zU := zin 872 (by decide +kernel) (by decide +kernel)
theorem im_X9_from : Cond.instanceMethod yX9_from ∈ zU := zin 874 (by decide +kernel) (by decide +kernel)
def M_X9_from : zM := (yX9_from, cX9_from, 4, some .int)
theorem co_X9_from : Cond.code yX9_from cX9_from 4 (some .int) ∈ zU := zin 875 (by decide +kernel) (by decide +kernel)
theorem lm_X9_115 : Cond.methodLink RX9 115 yX9_readKind ∈ zU := zin 876 (by decide +kernel) (by decide +kernel)
theorem im_X9_readKind : Cond.instanceMethod yX9_readKind ∈ zU := zin 878 (by decide +kernel) (by decide +kernel)
def M_X9_readKind : zM := (yX9_readKind, cX9_readKind, 3, some .int)
theorem co_X9_readKind : Cond.code yX9_readKind cX9_readKind 3 (some .int) ∈ zU := zin 879 (by decide +kernel) (by decide +kernel)
theorem lm_X9_122 : Cond.methodLink RX9 122 yX9_readOneBoy ∈ zU := zin 880 (by decide +kernel) (by decide +kernel)
theorem im_X9_readOneBoy : Cond.instanceMethod yX9_readOneBoy ∈ zU := zin 882 (by decide +kernel) (by decide +kernel)
def M_X9_readOneBoy : zM := (yX9_readOneBoy, cX9_readOneBoy, 3, some .boolean)
theorem co_X9_readOneBoy : Cond.code yX9_readOneBoy cX9_readOneBoy 3 (some .boolean) ∈ zU := zin 883 (by decide +kernel) (by decide +kernel)
theorem lm_X9_104 : Cond.methodLink RX9 104 yX9_hasRoom ∈ zU := zin 884 (by decide +kernel) (by decide +kernel)
theorem im_X9_hasRoom : Cond.instanceMethod yX9_hasRoom ∈ zU := zin 886 (by decide +kernel) (by decide +kernel)
def M_X9_hasRoom : zM := (yX9_hasRoom, cX9_hasRoom, 3, some .boolean)
theorem co_X9_hasRoom : Cond.code yX9_hasRoom cX9_hasRoom 3 (some .boolean) ∈ zU := zin 887 (by decide +kernel) (by decide +kernel)
theorem lm_L_30 : Cond.methodLink RL 30 yX9_paper ∈ zU := zin 888 (by decide +kernel) (by decide +kernel)
theorem im_X9_paper : Cond.instanceMethod yX9_paper ∈ zU := zin 889 (by decide +kernel) (by decide +kernel)
theorem sl_X9_paper : Cond.selects RX9 yX9_paper yX9_paper ∈ zU := zin 890 (by decide +kernel) (by decide +kernel)
def M_X9_paper : zM := (yX9_paper, cX9_paper, 2, some .int)
theorem co_X9_paper : Cond.code yX9_paper cX9_paper 2 (some .int) ∈ zU := zin 891 (by decide +kernel) (by decide +kernel)
theorem lm_L_34 : Cond.methodLink RL 34 yX9_about ∈ zU := zin 892 (by decide +kernel) (by decide +kernel)
theorem im_X9_about : Cond.instanceMethod yX9_about ∈ zU := zin 893 (by decide +kernel) (by decide +kernel)
theorem sl_X9_about : Cond.selects RX9 yX9_about yX9_about ∈ zU := zin 894 (by decide +kernel) (by decide +kernel)
def M_X9_about : zM := (yX9_about, cX9_about, 2, some .int)
theorem co_X9_about : Cond.code yX9_about cX9_about 2 (some .int) ∈ zU := zin 895 (by decide +kernel) (by decide +kernel)
theorem lm_X9_174 : Cond.methodLink RX9 174 yX9_cellsOf ∈ zU := zin 896 (by decide +kernel) (by decide +kernel)
theorem im_X9_cellsOf : Cond.instanceMethod yX9_cellsOf ∈ zU := zin 898 (by decide +kernel) (by decide +kernel)
def M_X9_cellsOf : zM := (yX9_cellsOf, cX9_cellsOf, 4, some .int)
theorem co_X9_cellsOf : Cond.code yX9_cellsOf cX9_cellsOf 4 (some .int) ∈ zU := zin 899 (by decide +kernel) (by decide +kernel)
theorem lm_X9_144 : Cond.methodLink RX9 144 yX9_kindOf ∈ zU := zin 900 (by decide +kernel) (by decide +kernel)
theorem im_X9_kindOf : Cond.instanceMethod yX9_kindOf ∈ zU := zin 902 (by decide +kernel) (by decide +kernel)
def M_X9_kindOf : zM := (yX9_kindOf, cX9_kindOf, 3, some .int)
theorem co_X9_kindOf : Cond.code yX9_kindOf cX9_kindOf 3 (some .int) ∈ zU := zin 903 (by decide +kernel) (by decide +kernel)
theorem lm_X9_134 : Cond.methodLink RX9 134 yX9_has ∈ zU := zin 904 (by decide +kernel) (by decide +kernel)
theorem st_X9_has : Cond.static yX9_has ∈ zU := zin 905 (by decide +kernel) (by decide +kernel)
def M_X9_has : zM := (yX9_has, cX9_has, 2, some .boolean)
theorem co_X9_has : Cond.code yX9_has cX9_has 2 (some .boolean) ∈ zU := zin 906 (by decide +kernel) (by decide +kernel)
theorem lm_X9_166 : Cond.methodLink RX9 166 yX9_homes ∈ zU := zin 907 (by decide +kernel) (by decide +kernel)
theorem im_X9_homes : Cond.instanceMethod yX9_homes ∈ zU := zin 909 (by decide +kernel) (by decide +kernel)
def M_X9_homes : zM := (yX9_homes, cX9_homes, 4, some .int)
theorem co_X9_homes : Cond.code yX9_homes cX9_homes 4 (some .int) ∈ zU := zin 910 (by decide +kernel) (by decide +kernel)
theorem lm_X9_162 : Cond.methodLink RX9 162 yX9_isHome ∈ zU := zin 911 (by decide +kernel) (by decide +kernel)
theorem im_X9_isHome : Cond.instanceMethod yX9_isHome ∈ zU := zin 913 (by decide +kernel) (by decide +kernel)
def M_X9_isHome : zM := (yX9_isHome, cX9_isHome, 3, some .boolean)
theorem co_X9_isHome : Cond.code yX9_isHome cX9_isHome 3 (some .boolean) ∈ zU := zin 914 (by decide +kernel) (by decide +kernel)
theorem lm_L_38 : Cond.methodLink RL 38 yX9_cell ∈ zU := zin 915 (by decide +kernel) (by decide +kernel)
theorem im_X9_cell : Cond.instanceMethod yX9_cell ∈ zU := zin 916 (by decide +kernel) (by decide +kernel)
theorem sl_X9_cell : Cond.selects RX9 yX9_cell yX9_cell ∈ zU := zin 917 (by decide +kernel) (by decide +kernel)
def M_X9_cell : zM := (yX9_cell, cX9_cell, 2, some .int)
theorem co_X9_cell : Cond.code yX9_cell cX9_cell 2 (some .int) ∈ zU := zin 918 (by decide +kernel) (by decide +kernel)
theorem lm_X9_180 : Cond.methodLink RX9 180 yX9_noCell ∈ zU := zin 919 (by decide +kernel) (by decide +kernel)
theorem im_X9_noCell : Cond.instanceMethod yX9_noCell ∈ zU := zin 921 (by decide +kernel) (by decide +kernel)
def M_X9_noCell : zM := (yX9_noCell, cX9_noCell, 2, some .boolean)
theorem co_X9_noCell : Cond.code yX9_noCell cX9_noCell 2 (some .boolean) ∈ zU := zin 922 (by decide +kernel) (by decide +kernel)
theorem lm_L_43 : Cond.methodLink RL 43 yX9_beside ∈ zU := zin 923 (by decide +kernel) (by decide +kernel)
theorem im_X9_beside : Cond.instanceMethod yX9_beside ∈ zU := zin 924 (by decide +kernel) (by decide +kernel)
theorem sl_X9_beside : Cond.selects RX9 yX9_beside yX9_beside ∈ zU := zin 925 (by decide +kernel) (by decide +kernel)
def M_X9_beside : zM := (yX9_beside, cX9_beside, 4, some .int)
theorem co_X9_beside : Cond.code yX9_beside cX9_beside 4 (some .int) ∈ zU := zin 926 (by decide +kernel) (by decide +kernel)
theorem lm_X9_184 : Cond.methodLink RX9 184 yX9_noWay ∈ zU := zin 927 (by decide +kernel) (by decide +kernel)
theorem st_X9_noWay : Cond.static yX9_noWay ∈ zU := zin 928 (by decide +kernel) (by decide +kernel)
def M_X9_noWay : zM := (yX9_noWay, cX9_noWay, 1, some .boolean)
theorem co_X9_noWay : Cond.code yX9_noWay cX9_noWay 1 (some .boolean) ∈ zU := zin 929 (by decide +kernel) (by decide +kernel)
theorem lk_X9_85 : Cond.constantLong RX9 85 (3) ∈ zU := zin 930 (by decide +kernel) (by decide +kernel)
theorem lm_X9_187 : Cond.methodLink RX9 187 yX9_cellBeside ∈ zU := zin 931 (by decide +kernel) (by decide +kernel)
theorem im_X9_cellBeside : Cond.instanceMethod yX9_cellBeside ∈ zU := zin 933 (by decide +kernel) (by decide +kernel)
def M_X9_cellBeside : zM := (yX9_cellBeside, cX9_cellBeside, 4, some .int)
theorem co_X9_cellBeside : Cond.code yX9_cellBeside cX9_cellBeside 4 (some .int) ∈ zU := zin 934 (by decide +kernel) (by decide +kernel)
theorem lm_X9_140 : Cond.methodLink RX9 140 yX9_goWay ∈ zU := zin 935 (by decide +kernel) (by decide +kernel)
theorem im_X9_goWay : Cond.instanceMethod yX9_goWay ∈ zU := zin 937 (by decide +kernel) (by decide +kernel)
def M_X9_goWay : zM := (yX9_goWay, cX9_goWay, 7, none)
theorem co_X9_goWay : Cond.code yX9_goWay cX9_goWay 7 (none) ∈ zU := zin 938 (by decide +kernel) (by decide +kernel)
theorem lm_L_48 : Cond.methodLink RL 48 yX9_boy ∈ zU := zin 939 (by decide +kernel) (by decide +kernel)
theorem im_X9_boy : Cond.instanceMethod yX9_boy ∈ zU := zin 940 (by decide +kernel) (by decide +kernel)
theorem sl_X9_boy : Cond.selects RX9 yX9_boy yX9_boy ∈ zU := zin 941 (by decide +kernel) (by decide +kernel)
def M_X9_boy : zM := (yX9_boy, cX9_boy, 3, some .int)
theorem co_X9_boy : Cond.code yX9_boy cX9_boy 3 (some .int) ∈ zU := zin 942 (by decide +kernel) (by decide +kernel)
theorem lm_X9_191 : Cond.methodLink RX9 191 yX9_noBoy ∈ zU := zin 943 (by decide +kernel) (by decide +kernel)
theorem im_X9_noBoy : Cond.instanceMethod yX9_noBoy ∈ zU := zin 945 (by decide +kernel) (by decide +kernel)
def M_X9_noBoy : zM := (yX9_noBoy, cX9_noBoy, 2, some .boolean)
theorem co_X9_noBoy : Cond.code yX9_noBoy cX9_noBoy 2 (some .boolean) ∈ zU := zin 946 (by decide +kernel) (by decide +kernel)
theorem lm_X9_194 : Cond.methodLink RX9 194 yX9_waysOf ∈ zU := zin 947 (by decide +kernel) (by decide +kernel)
theorem im_X9_waysOf : Cond.instanceMethod yX9_waysOf ∈ zU := zin 949 (by decide +kernel) (by decide +kernel)
def M_X9_waysOf : zM := (yX9_waysOf, cX9_waysOf, 4, some .int)
theorem co_X9_waysOf : Cond.code yX9_waysOf cX9_waysOf 4 (some .int) ∈ zU := zin 950 (by decide +kernel) (by decide +kernel)
theorem lm_X9_159 : Cond.methodLink RX9 159 yX9_canGo ∈ zU := zin 951 (by decide +kernel) (by decide +kernel)
theorem im_X9_canGo : Cond.instanceMethod yX9_canGo ∈ zU := zin 953 (by decide +kernel) (by decide +kernel)
def M_X9_canGo : zM := (yX9_canGo, cX9_canGo, 4, some .boolean)
theorem co_X9_canGo : Cond.code yX9_canGo cX9_canGo 4 (some .boolean) ∈ zU := zin 954 (by decide +kernel) (by decide +kernel)
theorem lm_X9_148 : Cond.methodLink RX9 148 yX9_stand ∈ zU := zin 955 (by decide +kernel) (by decide +kernel)
theorem im_X9_stand : Cond.instanceMethod yX9_stand ∈ zU := zin 957 (by decide +kernel) (by decide +kernel)
def M_X9_stand : zM := (yX9_stand, cX9_stand, 3, none)
theorem co_X9_stand : Cond.code yX9_stand cX9_stand 3 (none) ∈ zU := zin 958 (by decide +kernel) (by decide +kernel)
theorem lm_X9_152 : Cond.methodLink RX9 152 yX9_isThere ∈ zU := zin 959 (by decide +kernel) (by decide +kernel)
theorem im_X9_isThere : Cond.instanceMethod yX9_isThere ∈ zU := zin 961 (by decide +kernel) (by decide +kernel)
def M_X9_isThere : zM := (yX9_isThere, cX9_isThere, 1, some .boolean)
theorem co_X9_isThere : Cond.code yX9_isThere cX9_isThere 1 (some .boolean) ∈ zU := zin 962 (by decide +kernel) (by decide +kernel)
theorem lk_X9_138 : Cond.constantLong RX9 138 (6) ∈ zU := zin 963 (by decide +kernel) (by decide +kernel)
theorem lm_X9_155 : Cond.methodLink RX9 155 yX9_canBe ∈ zU := zin 964 (by decide +kernel) (by decide +kernel)
theorem im_X9_canBe : Cond.instanceMethod yX9_canBe ∈ zU := zin 966 (by decide +kernel) (by decide +kernel)
def M_X9_canBe : zM := (yX9_canBe, cX9_canBe, 5, some .boolean)
theorem co_X9_canBe : Cond.code yX9_canBe cX9_canBe 5 (some .boolean) ∈ zU := zin 967 (by decide +kernel) (by decide +kernel)
theorem lm_L_52 : Cond.methodLink RL 52 yX9_step ∈ zU := zin 968 (by decide +kernel) (by decide +kernel)
theorem im_X9_step : Cond.instanceMethod yX9_step ∈ zU := zin 969 (by decide +kernel) (by decide +kernel)
theorem sl_X9_step : Cond.selects RX9 yX9_step yX9_step ∈ zU := zin 970 (by decide +kernel) (by decide +kernel)
def M_X9_step : zM := (yX9_step, cX9_step, 3, some .int)
theorem co_X9_step : Cond.code yX9_step cX9_step 3 (some .int) ∈ zU := zin 971 (by decide +kernel) (by decide +kernel)
theorem lm_X9_197 : Cond.methodLink RX9 197 yX9_note ∈ zU := zin 972 (by decide +kernel) (by decide +kernel)
theorem im_X9_note : Cond.instanceMethod yX9_note ∈ zU := zin 974 (by decide +kernel) (by decide +kernel)
def M_X9_note : zM := (yX9_note, cX9_note, 2, none)
theorem co_X9_note : Cond.code yX9_note cX9_note 2 (none) ∈ zU := zin 975 (by decide +kernel) (by decide +kernel)
theorem lm_X9_200 : Cond.methodLink RX9 200 yX9_goStep ∈ zU := zin 976 (by decide +kernel) (by decide +kernel)
theorem im_X9_goStep : Cond.instanceMethod yX9_goStep ∈ zU := zin 978 (by decide +kernel) (by decide +kernel)
def M_X9_goStep : zM := (yX9_goStep, cX9_goStep, 5, some .boolean)
theorem co_X9_goStep : Cond.code yX9_goStep cX9_goStep 5 (some .boolean) ∈ zU := zin 979 (by decide +kernel) (by decide +kernel)
theorem lm_L_56 : Cond.methodLink RL 56 yX9_call ∈ zU := zin 980 (by decide +kernel) (by decide +kernel)
theorem im_X9_call : Cond.instanceMethod yX9_call ∈ zU := zin 981 (by decide +kernel) (by decide +kernel)
theorem sl_X9_call : Cond.selects RX9 yX9_call yX9_call ∈ zU := zin 982 (by decide +kernel) (by decide +kernel)
def M_X9_call : zM := (yX9_call, cX9_call, 3, some .int)
theorem co_X9_call : Cond.code yX9_call cX9_call 3 (some .int) ∈ zU := zin 983 (by decide +kernel) (by decide +kernel)
theorem lm_X9_206 : Cond.methodLink RX9 206 yX9_away ∈ zU := zin 984 (by decide +kernel) (by decide +kernel)
theorem im_X9_away : Cond.instanceMethod yX9_away ∈ zU := zin 986 (by decide +kernel) (by decide +kernel)
def M_X9_away : zM := (yX9_away, cX9_away, 2, some .int)
theorem co_X9_away : Cond.code yX9_away cX9_away 2 (some .int) ∈ zU := zin 987 (by decide +kernel) (by decide +kernel)
theorem lm_X9_170 : Cond.methodLink RX9 170 yX9_many ∈ zU := zin 988 (by decide +kernel) (by decide +kernel)
theorem st_X9_many : Cond.static yX9_many ∈ zU := zin 989 (by decide +kernel) (by decide +kernel)
def M_X9_many : zM := (yX9_many, cX9_many, 3, some .int)
theorem co_X9_many : Cond.code yX9_many cX9_many 3 (some .int) ∈ zU := zin 990 (by decide +kernel) (by decide +kernel)
theorem lm_X9_209 : Cond.methodLink RX9 209 yX9_goCall ∈ zU := zin 991 (by decide +kernel) (by decide +kernel)
theorem im_X9_goCall : Cond.instanceMethod yX9_goCall ∈ zU := zin 993 (by decide +kernel) (by decide +kernel)
def M_X9_goCall : zM := (yX9_goCall, cX9_goCall, 4, none)
theorem co_X9_goCall : Cond.code yX9_goCall cX9_goCall 4 (none) ∈ zU := zin 994 (by decide +kernel) (by decide +kernel)
theorem lm_X9_203 : Cond.methodLink RX9 203 yX9_hears ∈ zU := zin 995 (by decide +kernel) (by decide +kernel)
theorem im_X9_hears : Cond.instanceMethod yX9_hears ∈ zU := zin 997 (by decide +kernel) (by decide +kernel)
def M_X9_hears : zM := (yX9_hears, cX9_hears, 6, some .boolean)
theorem co_X9_hears : Cond.code yX9_hears cX9_hears 6 (some .boolean) ∈ zU := zin 998 (by decide +kernel) (by decide +kernel)
theorem lm_L_60 : Cond.methodLink RL 60 yX9_cut ∈ zU := zin 999 (by decide +kernel) (by decide +kernel)
theorem im_X9_cut : Cond.instanceMethod yX9_cut ∈ zU := zin 1000 (by decide +kernel) (by decide +kernel)
theorem sl_X9_cut : Cond.selects RX9 yX9_cut yX9_cut ∈ zU := zin 1001 (by decide +kernel) (by decide +kernel)
def M_X9_cut : zM := (yX9_cut, cX9_cut, 2, some .int)
theorem co_X9_cut : Cond.code yX9_cut cX9_cut 2 (some .int) ∈ zU := zin 1002 (by decide +kernel) (by decide +kernel)
theorem lm_L_64 : Cond.methodLink RL 64 yX9_undo ∈ zU := zin 1003 (by decide +kernel) (by decide +kernel)
theorem im_X9_undo : Cond.instanceMethod yX9_undo ∈ zU := zin 1004 (by decide +kernel) (by decide +kernel)
theorem sl_X9_undo : Cond.selects RX9 yX9_undo yX9_undo ∈ zU := zin 1005 (by decide +kernel) (by decide +kernel)
def M_X9_undo : zM := (yX9_undo, cX9_undo, 2, some .int)
theorem co_X9_undo : Cond.code yX9_undo cX9_undo 2 (some .int) ∈ zU := zin 1006 (by decide +kernel) (by decide +kernel)
theorem lm_L_68 : Cond.methodLink RL 68 yX9_far ∈ zU := zin 1007 (by decide +kernel) (by decide +kernel)
theorem im_X9_far : Cond.instanceMethod yX9_far ∈ zU := zin 1008 (by decide +kernel) (by decide +kernel)
theorem sl_X9_far : Cond.selects RX9 yX9_far yX9_far ∈ zU := zin 1009 (by decide +kernel) (by decide +kernel)
def M_X9_far : zM := (yX9_far, cX9_far, 2, some .int)
theorem co_X9_far : Cond.code yX9_far cX9_far 2 (some .int) ∈ zU := zin 1010 (by decide +kernel) (by decide +kernel)
theorem lm_X9_215 : Cond.methodLink RX9 215 yX9_layFar ∈ zU := zin 1011 (by decide +kernel) (by decide +kernel)
theorem im_X9_layFar : Cond.instanceMethod yX9_layFar ∈ zU := zin 1013 (by decide +kernel) (by decide +kernel)
def M_X9_layFar : zM := (yX9_layFar, cX9_layFar, 9, none)
theorem co_X9_layFar : Cond.code yX9_layFar cX9_layFar 9 (none) ∈ zU := zin 1014 (by decide +kernel) (by decide +kernel)
theorem lm_X9_212 : Cond.methodLink RX9 212 yX9_spotNumber ∈ zU := zin 1015 (by decide +kernel) (by decide +kernel)
theorem im_X9_spotNumber : Cond.instanceMethod yX9_spotNumber ∈ zU := zin 1017 (by decide +kernel) (by decide +kernel)
def M_X9_spotNumber : zM := (yX9_spotNumber, cX9_spotNumber, 1, some .int)
theorem co_X9_spotNumber : Cond.code yX9_spotNumber cX9_spotNumber 1 (some .int) ∈ zU := zin 1018 (by decide +kernel) (by decide +kernel)
theorem lm_L_72 : Cond.methodLink RL 72 yX9_reach ∈ zU := zin 1019 (by decide +kernel) (by decide +kernel)
theorem im_X9_reach : Cond.instanceMethod yX9_reach ∈ zU := zin 1020 (by decide +kernel) (by decide +kernel)
theorem sl_X9_reach : Cond.selects RX9 yX9_reach yX9_reach ∈ zU := zin 1021 (by decide +kernel) (by decide +kernel)
def M_X9_reach : zM := (yX9_reach, cX9_reach, 3, some .int)
theorem co_X9_reach : Cond.code yX9_reach cX9_reach 3 (some .int) ∈ zU := zin 1022 (by decide +kernel) (by decide +kernel)
theorem lk_X9_219 : Cond.constantLong RX9 219 (9) ∈ zU := zin 1023 (by decide +kernel) (by decide +kernel)
theorem lm_X9_221 : Cond.methodLink RX9 221 yX9_reachOf ∈ zU := zin 1024 (by decide +kernel) (by decide +kernel)
theorem im_X9_reachOf : Cond.instanceMethod yX9_reachOf ∈ zU := zin 1026 (by decide +kernel) (by decide +kernel)
def M_X9_reachOf : zM := (yX9_reachOf, cX9_reachOf, 5, some .int)
theorem co_X9_reachOf : Cond.code yX9_reachOf cX9_reachOf 5 (some .int) ∈ zU := zin 1027 (by decide +kernel) (by decide +kernel)
theorem lm_L_76 : Cond.methodLink RL 76 yX9_again ∈ zU := zin 1028 (by decide +kernel) (by decide +kernel)
theorem im_X9_again : Cond.instanceMethod yX9_again ∈ zU := zin 1029 (by decide +kernel) (by decide +kernel)
theorem sl_X9_again : Cond.selects RX9 yX9_again yX9_again ∈ zU := zin 1030 (by decide +kernel) (by decide +kernel)
def M_X9_again : zM := (yX9_again, cX9_again, 5, some .int)
theorem co_X9_again : Cond.code yX9_again cX9_again 5 (some .int) ∈ zU := zin 1031 (by decide +kernel) (by decide +kernel)
theorem lm_L_80 : Cond.methodLink RL 80 yX9_alike ∈ zU := zin 1032 (by decide +kernel) (by decide +kernel)
theorem im_X9_alike : Cond.instanceMethod yX9_alike ∈ zU := zin 1033 (by decide +kernel) (by decide +kernel)
theorem sl_X9_alike : Cond.selects RX9 yX9_alike yX9_alike ∈ zU := zin 1034 (by decide +kernel) (by decide +kernel)
def M_X9_alike : zM := (yX9_alike, cX9_alike, 4, some .int)
theorem co_X9_alike : Cond.code yX9_alike cX9_alike 4 (some .int) ∈ zU := zin 1035 (by decide +kernel) (by decide +kernel)
theorem lm_X9_225 : Cond.methodLink RX9 225 yX9_areAlike ∈ zU := zin 1036 (by decide +kernel) (by decide +kernel)
theorem im_X9_areAlike : Cond.instanceMethod yX9_areAlike ∈ zU := zin 1038 (by decide +kernel) (by decide +kernel)
def M_X9_areAlike : zM := (yX9_areAlike, cX9_areAlike, 5, some .boolean)
theorem co_X9_areAlike : Cond.code yX9_areAlike cX9_areAlike 5 (some .boolean) ∈ zU := zin 1039 (by decide +kernel) (by decide +kernel)
theorem lm_L_84 : Cond.methodLink RL 84 yX9_calls ∈ zU := zin 1040 (by decide +kernel) (by decide +kernel)
theorem im_X9_calls : Cond.instanceMethod yX9_calls ∈ zU := zin 1041 (by decide +kernel) (by decide +kernel)
theorem sl_X9_calls : Cond.selects RX9 yX9_calls yX9_calls ∈ zU := zin 1042 (by decide +kernel) (by decide +kernel)
def M_X9_calls : zM := (yX9_calls, cX9_calls, 3, some .int)
theorem co_X9_calls : Cond.code yX9_calls cX9_calls 3 (some .int) ∈ zU := zin 1043 (by decide +kernel) (by decide +kernel)
theorem lm_X9_231 : Cond.methodLink RX9 231 yX9_fewest ∈ zU := zin 1044 (by decide +kernel) (by decide +kernel)
theorem im_X9_fewest : Cond.instanceMethod yX9_fewest ∈ zU := zin 1046 (by decide +kernel) (by decide +kernel)
def M_X9_fewest : zM := (yX9_fewest, cX9_fewest, 6, some .int)
theorem co_X9_fewest : Cond.code yX9_fewest cX9_fewest 6 (some .int) ∈ zU := zin 1047 (by decide +kernel) (by decide +kernel)
theorem lm_X9_228 : Cond.methodLink RX9 228 yX9_nextOf ∈ zU := zin 1048 (by decide +kernel) (by decide +kernel)
theorem st_X9_nextOf : Cond.static yX9_nextOf ∈ zU := zin 1049 (by decide +kernel) (by decide +kernel)
def M_X9_nextOf : zM := (yX9_nextOf, cX9_nextOf, 3, some .int)
theorem co_X9_nextOf : Cond.code yX9_nextOf cX9_nextOf 3 (some .int) ∈ zU := zin 1050 (by decide +kernel) (by decide +kernel)
theorem lm_L_88 : Cond.methodLink RL 88 yX9_match ∈ zU := zin 1051 (by decide +kernel) (by decide +kernel)
theorem im_X9_match : Cond.instanceMethod yX9_match ∈ zU := zin 1052 (by decide +kernel) (by decide +kernel)
theorem sl_X9_match : Cond.selects RX9 yX9_match yX9_match ∈ zU := zin 1053 (by decide +kernel) (by decide +kernel)
def M_X9_match : zM := (yX9_match, cX9_match, 5, some .int)
theorem co_X9_match : Cond.code yX9_match cX9_match 5 (some .int) ∈ zU := zin 1054 (by decide +kernel) (by decide +kernel)
theorem lm_X9_234 : Cond.methodLink RX9 234 yX9_unlikeBy ∈ zU := zin 1055 (by decide +kernel) (by decide +kernel)
theorem im_X9_unlikeBy : Cond.instanceMethod yX9_unlikeBy ∈ zU := zin 1057 (by decide +kernel) (by decide +kernel)
def M_X9_unlikeBy : zM := (yX9_unlikeBy, cX9_unlikeBy, 4, some .int)
theorem co_X9_unlikeBy : Cond.code yX9_unlikeBy cX9_unlikeBy 4 (some .int) ∈ zU := zin 1058 (by decide +kernel) (by decide +kernel)
theorem lm_L_95 : Cond.methodLink RL 95 yX9_judge ∈ zU := zin 1059 (by decide +kernel) (by decide +kernel)
theorem im_X9_judge : Cond.instanceMethod yX9_judge ∈ zU := zin 1060 (by decide +kernel) (by decide +kernel)
theorem sl_X9_judge : Cond.selects RX9 yX9_judge yX9_judge ∈ zU := zin 1061 (by decide +kernel) (by decide +kernel)
def M_X9_judge : zM := (yX9_judge, cX9_judge, 5, some .int)
theorem co_X9_judge : Cond.code yX9_judge cX9_judge 5 (some .int) ∈ zU := zin 1062 (by decide +kernel) (by decide +kernel)
theorem lk_X9_240 : Cond.constantLong RX9 240 (4) ∈ zU := zin 1063 (by decide +kernel) (by decide +kernel)
theorem lk_X9_242 : Cond.constantLong RX9 242 (1000) ∈ zU := zin 1064 (by decide +kernel) (by decide +kernel)
theorem lm_X9_244 : Cond.methodLink RX9 244 yX9_longPower ∈ zU := zin 1065 (by decide +kernel) (by decide +kernel)
theorem st_X9_longPower : Cond.static yX9_longPower ∈ zU := zin 1066 (by decide +kernel) (by decide +kernel)
def M_X9_longPower : zM := (yX9_longPower, cX9_longPower, 6, some .long)
theorem co_X9_longPower : Cond.code yX9_longPower cX9_longPower 6 (some .long) ∈ zU := zin 1067 (by decide +kernel) (by decide +kernel)
theorem lm_X9_248 : Cond.methodLink RX9 248 yX9_begin ∈ zU := zin 1068 (by decide +kernel) (by decide +kernel)
theorem im_X9_begin : Cond.instanceMethod yX9_begin ∈ zU := zin 1070 (by decide +kernel) (by decide +kernel)
def M_X9_begin : zM := (yX9_begin, cX9_begin, 2, none)
theorem co_X9_begin : Cond.code yX9_begin cX9_begin 2 (none) ∈ zU := zin 1071 (by decide +kernel) (by decide +kernel)
theorem lm_X9_251 : Cond.methodLink RX9 251 yX9_does ∈ zU := zin 1072 (by decide +kernel) (by decide +kernel)
theorem im_X9_does : Cond.instanceMethod yX9_does ∈ zU := zin 1074 (by decide +kernel) (by decide +kernel)
def M_X9_does : zM := (yX9_does, cX9_does, 4, some .boolean)
theorem co_X9_does : Cond.code yX9_does cX9_does 4 (some .boolean) ∈ zU := zin 1075 (by decide +kernel) (by decide +kernel)
theorem lm_L_100 : Cond.methodLink RL 100 yX9_share ∈ zU := zin 1076 (by decide +kernel) (by decide +kernel)
theorem im_X9_share : Cond.instanceMethod yX9_share ∈ zU := zin 1077 (by decide +kernel) (by decide +kernel)
theorem sl_X9_share : Cond.selects RX9 yX9_share yX9_share ∈ zU := zin 1078 (by decide +kernel) (by decide +kernel)
def M_X9_share : zM := (yX9_share, cX9_share, 6, some .int)
theorem co_X9_share : Cond.code yX9_share cX9_share 6 (some .int) ∈ zU := zin 1079 (by decide +kernel) (by decide +kernel)
theorem lm_X9_257 : Cond.methodLink RX9 257 yX9_ways ∈ zU := zin 1080 (by decide +kernel) (by decide +kernel)
theorem st_X9_ways : Cond.static yX9_ways ∈ zU := zin 1081 (by decide +kernel) (by decide +kernel)
def M_X9_ways : zM := (yX9_ways, cX9_ways, 3, some .int)
theorem co_X9_ways : Cond.code yX9_ways cX9_ways 3 (some .int) ∈ zU := zin 1082 (by decide +kernel) (by decide +kernel)
theorem lm_X9_260 : Cond.methodLink RX9 260 yX9_fraction ∈ zU := zin 1083 (by decide +kernel) (by decide +kernel)
theorem st_X9_fraction : Cond.static yX9_fraction ∈ zU := zin 1084 (by decide +kernel) (by decide +kernel)
def M_X9_fraction : zM := (yX9_fraction, cX9_fraction, 4, some .int)
theorem co_X9_fraction : Cond.code yX9_fraction cX9_fraction 4 (some .int) ∈ zU := zin 1085 (by decide +kernel) (by decide +kernel)
theorem lm_X9_254 : Cond.methodLink RX9 254 yX9_divisor ∈ zU := zin 1086 (by decide +kernel) (by decide +kernel)
theorem st_X9_divisor : Cond.static yX9_divisor ∈ zU := zin 1087 (by decide +kernel) (by decide +kernel)
def M_X9_divisor : zM := (yX9_divisor, cX9_divisor, 5, some .int)
theorem co_X9_divisor : Cond.code yX9_divisor cX9_divisor 5 (some .int) ∈ zU := zin 1088 (by decide +kernel) (by decide +kernel)
theorem lm_L_105 : Cond.methodLink RL 105 yX9_see ∈ zU := zin 1089 (by decide +kernel) (by decide +kernel)
theorem im_X9_see : Cond.instanceMethod yX9_see ∈ zU := zin 1090 (by decide +kernel) (by decide +kernel)
theorem sl_X9_see : Cond.selects RX9 yX9_see yX9_see ∈ zU := zin 1091 (by decide +kernel) (by decide +kernel)
def M_X9_see : zM := (yX9_see, cX9_see, 4, some .int)
theorem co_X9_see : Cond.code yX9_see cX9_see 4 (some .int) ∈ zU := zin 1092 (by decide +kernel) (by decide +kernel)
theorem lk_X9_263 : Cond.constantLong RX9 263 (-4) ∈ zU := zin 1093 (by decide +kernel) (by decide +kernel)
theorem lm_L_109 : Cond.methodLink RL 109 yX9_unsee ∈ zU := zin 1094 (by decide +kernel) (by decide +kernel)
theorem im_X9_unsee : Cond.instanceMethod yX9_unsee ∈ zU := zin 1095 (by decide +kernel) (by decide +kernel)
theorem sl_X9_unsee : Cond.selects RX9 yX9_unsee yX9_unsee ∈ zU := zin 1096 (by decide +kernel) (by decide +kernel)
def M_X9_unsee : zM := (yX9_unsee, cX9_unsee, 2, some .int)
theorem co_X9_unsee : Cond.code yX9_unsee cX9_unsee 2 (some .int) ∈ zU := zin 1097 (by decide +kernel) (by decide +kernel)
theorem lm_L_113 : Cond.methodLink RL 113 yX9_stands ∈ zU := zin 1098 (by decide +kernel) (by decide +kernel)
theorem im_X9_stands : Cond.instanceMethod yX9_stands ∈ zU := zin 1099 (by decide +kernel) (by decide +kernel)
theorem sl_X9_stands : Cond.selects RX9 yX9_stands yX9_stands ∈ zU := zin 1100 (by decide +kernel) (by decide +kernel)
def M_X9_stands : zM := (yX9_stands, cX9_stands, 5, some .int)
theorem co_X9_stands : Cond.code yX9_stands cX9_stands 5 (some .int) ∈ zU := zin 1101 (by decide +kernel) (by decide +kernel)
theorem lm_X9_265 : Cond.methodLink RX9 265 yX9_cellFrom ∈ zU := zin 1102 (by decide +kernel) (by decide +kernel)
theorem im_X9_cellFrom : Cond.instanceMethod yX9_cellFrom ∈ zU := zin 1104 (by decide +kernel) (by decide +kernel)
def M_X9_cellFrom : zM := (yX9_cellFrom, cX9_cellFrom, 6, some .int)
theorem co_X9_cellFrom : Cond.code yX9_cellFrom cX9_cellFrom 6 (some .int) ∈ zU := zin 1105 (by decide +kernel) (by decide +kernel)
theorem lm_L_117 : Cond.methodLink RL 117 yX9_rests ∈ zU := zin 1106 (by decide +kernel) (by decide +kernel)
theorem im_X9_rests : Cond.instanceMethod yX9_rests ∈ zU := zin 1107 (by decide +kernel) (by decide +kernel)
theorem sl_X9_rests : Cond.selects RX9 yX9_rests yX9_rests ∈ zU := zin 1108 (by decide +kernel) (by decide +kernel)
def M_X9_rests : zM := (yX9_rests, cX9_rests, 7, some .int)
theorem co_X9_rests : Cond.code yX9_rests cX9_rests 7 (some .int) ∈ zU := zin 1109 (by decide +kernel) (by decide +kernel)
theorem lm_X9_268 : Cond.methodLink RX9 268 yX9_layGains ∈ zU := zin 1110 (by decide +kernel) (by decide +kernel)
theorem im_X9_layGains : Cond.instanceMethod yX9_layGains ∈ zU := zin 1112 (by decide +kernel) (by decide +kernel)
def M_X9_layGains : zM := (yX9_layGains, cX9_layGains, 7, none)
theorem co_X9_layGains : Cond.code yX9_layGains cX9_layGains 7 (none) ∈ zU := zin 1113 (by decide +kernel) (by decide +kernel)
theorem lm_L_121 : Cond.methodLink RL 121 yX9_strays ∈ zU := zin 1114 (by decide +kernel) (by decide +kernel)
theorem im_X9_strays : Cond.instanceMethod yX9_strays ∈ zU := zin 1115 (by decide +kernel) (by decide +kernel)
theorem sl_X9_strays : Cond.selects RX9 yX9_strays yX9_strays ∈ zU := zin 1116 (by decide +kernel) (by decide +kernel)
def M_X9_strays : zM := (yX9_strays, cX9_strays, 7, some .int)
theorem co_X9_strays : Cond.code yX9_strays cX9_strays 7 (some .int) ∈ zU := zin 1117 (by decide +kernel) (by decide +kernel)
theorem lk_X9_278 : Cond.constantLong RX9 278 (5) ∈ zU := zin 1118 (by decide +kernel) (by decide +kernel)
theorem lm_X9_280 : Cond.methodLink RX9 280 yX9_power ∈ zU := zin 1119 (by decide +kernel) (by decide +kernel)
theorem st_X9_power : Cond.static yX9_power ∈ zU := zin 1120 (by decide +kernel) (by decide +kernel)
def M_X9_power : zM := (yX9_power, cX9_power, 4, some .int)
theorem co_X9_power : Cond.code yX9_power cX9_power 4 (some .int) ∈ zU := zin 1121 (by decide +kernel) (by decide +kernel)
theorem lm_L_126 : Cond.methodLink RL 126 yX9_seed ∈ zU := zin 1122 (by decide +kernel) (by decide +kernel)
theorem im_X9_seed : Cond.instanceMethod yX9_seed ∈ zU := zin 1123 (by decide +kernel) (by decide +kernel)
theorem sl_X9_seed : Cond.selects RX9 yX9_seed yX9_seed ∈ zU := zin 1124 (by decide +kernel) (by decide +kernel)
def M_X9_seed : zM := (yX9_seed, cX9_seed, 5, some .long)
theorem co_X9_seed : Cond.code yX9_seed cX9_seed 5 (some .long) ∈ zU := zin 1125 (by decide +kernel) (by decide +kernel)
theorem lm_L_130 : Cond.methodLink RL 130 yX9_nights ∈ zU := zin 1126 (by decide +kernel) (by decide +kernel)
theorem im_X9_nights : Cond.instanceMethod yX9_nights ∈ zU := zin 1127 (by decide +kernel) (by decide +kernel)
theorem sl_X9_nights : Cond.selects RX9 yX9_nights yX9_nights ∈ zU := zin 1128 (by decide +kernel) (by decide +kernel)
def M_X9_nights : zM := (yX9_nights, cX9_nights, 5, some .int)
theorem co_X9_nights : Cond.code yX9_nights cX9_nights 5 (some .int) ∈ zU := zin 1129 (by decide +kernel) (by decide +kernel)
theorem lk_X9_287 : Cond.constantLong RX9 287 (30) ∈ zU := zin 1130 (by decide +kernel) (by decide +kernel)
theorem lk_X9_289 : Cond.constantLong RX9 289 (6364136223846793005) ∈ zU := zin 1131 (by decide +kernel) (by decide +kernel)
theorem lk_X9_291 : Cond.constantLong RX9 291 (1442695040888963407) ∈ zU := zin 1132 (by decide +kernel) (by decide +kernel)
theorem lk_X9_293 : Cond.constantLong RX9 293 (40) ∈ zU := zin 1133 (by decide +kernel) (by decide +kernel)
theorem lm_L_134 : Cond.methodLink RL 134 yX9_keep ∈ zU := zin 1134 (by decide +kernel) (by decide +kernel)
theorem im_X9_keep : Cond.instanceMethod yX9_keep ∈ zU := zin 1135 (by decide +kernel) (by decide +kernel)
theorem sl_X9_keep : Cond.selects RX9 yX9_keep yX9_keep ∈ zU := zin 1136 (by decide +kernel) (by decide +kernel)
def M_X9_keep : zM := (yX9_keep, cX9_keep, 3, some .int)
theorem co_X9_keep : Cond.code yX9_keep cX9_keep 3 (some .int) ∈ zU := zin 1137 (by decide +kernel) (by decide +kernel)
theorem lm_L_138 : Cond.methodLink RL 138 yX9_goOn ∈ zU := zin 1138 (by decide +kernel) (by decide +kernel)
theorem im_X9_goOn : Cond.instanceMethod yX9_goOn ∈ zU := zin 1139 (by decide +kernel) (by decide +kernel)
theorem sl_X9_goOn : Cond.selects RX9 yX9_goOn yX9_goOn ∈ zU := zin 1140 (by decide +kernel) (by decide +kernel)
def M_X9_goOn : zM := (yX9_goOn, cX9_goOn, 3, some .int)
theorem co_X9_goOn : Cond.code yX9_goOn cX9_goOn 3 (some .int) ∈ zU := zin 1141 (by decide +kernel) (by decide +kernel)
theorem lk_L_89 : Cond.constantLong RL 89 (4294967295) ∈ zU := zin 1142 (by decide +kernel) (by decide +kernel)
theorem ac_long : Cond.arrayClass .long ∈ zU := zin 1143 (by decide +kernel) (by decide +kernel)
theorem cal_X8_init : zcal M_X8_init 0 := ⟨co_X8_init, ini_RX8, by decide +kernel, by decide, by decide, by decide +kernel, by decide⟩
theorem cal_X7_init : zcal M_X7_init 0 := ⟨co_X7_init, ini_RX7, by decide +kernel, by decide, by decide, by decide +kernel, by decide⟩
theorem cal_X3_init : zcal M_X3_init 0 := ⟨co_X3_init, ini_RX3, by decide +kernel, by decide, by decide, by decide +kernel, by decide⟩
theorem cal_X3_layOut : zcal M_X3_layOut 0 := ⟨co_X3_layOut, ini_RX3, by decide +kernel, by decide, by decide, by decide +kernel, by decide⟩
theorem cal_X3_layRow : zcal M_X3_layRow 2 := ⟨co_X3_layRow, ini_RX3, by decide +kernel, by decide, by decide, by decide +kernel, by decide⟩
theorem cal_X3_lay : zcal M_X3_lay 5 := ⟨co_X3_lay, ini_RX3, by decide +kernel, by decide, by decide, by decide +kernel, by decide⟩
theorem cal_X3_rowOn : zcal M_X3_rowOn 2 := ⟨co_X3_rowOn, ini_RX3, by decide +kernel, by decide, by decide, by decide +kernel, by decide⟩
theorem cal_X3_layColumn : zcal M_X3_layColumn 2 := ⟨co_X3_layColumn, ini_RX3, by decide +kernel, by decide, by decide, by decide +kernel, by decide⟩
theorem cal_X4_init : zcal M_X4_init 1 := ⟨co_X4_init, ini_RX4, by decide +kernel, by decide, by decide, by decide +kernel, by decide⟩
theorem cal_X0_init : zcal M_X0_init 1 := ⟨co_X0_init, ini_RX0, by decide +kernel, by decide, by decide, by decide +kernel, by decide⟩
theorem cal_X5_init : zcal M_X5_init 0 := ⟨co_X5_init, ini_RX5, by decide +kernel, by decide, by decide, by decide +kernel, by decide⟩
theorem cal_X1_init : zcal M_X1_init 0 := ⟨co_X1_init, ini_RX1, by decide +kernel, by decide, by decide, by decide +kernel, by decide⟩
theorem cal_X6_init : zcal M_X6_init 0 := ⟨co_X6_init, ini_RX6, by decide +kernel, by decide, by decide, by decide +kernel, by decide⟩
theorem cal_X2_init : zcal M_X2_init 0 := ⟨co_X2_init, ini_RX2, by decide +kernel, by decide, by decide, by decide +kernel, by decide⟩
theorem cal_X8_write : zcal M_X8_write 1 := ⟨co_X8_write, ini_RX8, by decide +kernel, by decide, by decide, by decide +kernel, by decide⟩
theorem cal_X7_add : zcal M_X7_add 1 := ⟨co_X7_add, ini_RX7, by decide +kernel, by decide, by decide, by decide +kernel, by decide⟩
theorem cal_X8_wipe : zcal M_X8_wipe 0 := ⟨co_X8_wipe, ini_RX8, by decide +kernel, by decide, by decide, by decide +kernel, by decide⟩
theorem cal_X8_fault : zcal M_X8_fault 0 := ⟨co_X8_fault, ini_RX8, by decide +kernel, by decide, by decide, by decide +kernel, by decide⟩
theorem cal_X7_firstFault : zcal M_X7_firstFault 0 := ⟨co_X7_firstFault, ini_RX7, by decide +kernel, by decide, by decide, by decide +kernel, by decide⟩
theorem cal_X7_fits : zcal M_X7_fits 1 := ⟨co_X7_fits, ini_RX7, by decide +kernel, by decide, by decide, by decide +kernel, by decide⟩
theorem cal_X7_cells : zcal M_X7_cells 0 := ⟨co_X7_cells, ini_RX7, by decide +kernel, by decide, by decide, by decide +kernel, by decide⟩
theorem cal_X7_figure : zcal M_X7_figure 1 := ⟨co_X7_figure, ini_RX7, by decide +kernel, by decide, by decide, by decide +kernel, by decide⟩
theorem cal_X7_kindOf : zcal M_X7_kindOf 1 := ⟨co_X7_kindOf, ini_RX7, by decide +kernel, by decide, by decide, by decide +kernel, by decide⟩
theorem cal_X7_fitsInBoy : zcal M_X7_fitsInBoy 2 := ⟨co_X7_fitsInBoy, ini_RX7, by decide +kernel, by decide, by decide, by decide +kernel, by decide⟩
theorem cal_X7_hasFreeCell : zcal M_X7_hasFreeCell 0 := ⟨co_X7_hasFreeCell, ini_RX7, by decide +kernel, by decide, by decide, by decide +kernel, by decide⟩
theorem cal_X7_isFreeCell : zcal M_X7_isFreeCell 1 := ⟨co_X7_isFreeCell, ini_RX7, by decide +kernel, by decide, by decide, by decide +kernel, by decide⟩
theorem cal_X7_isWhole : zcal M_X7_isWhole 0 := ⟨co_X7_isWhole, ini_RX7, by decide +kernel, by decide, by decide, by decide +kernel, by decide⟩
theorem cal_X8_paper : zcal M_X8_paper 0 := ⟨co_X8_paper, ini_RX8, by decide +kernel, by decide, by decide, by decide +kernel, by decide⟩
theorem cal_X3_readFrom : zcal M_X3_readFrom 1 := ⟨co_X3_readFrom, ini_RX3, by decide +kernel, by decide, by decide, by decide +kernel, by decide⟩
theorem cal_X7_boys : zcal M_X7_boys 0 := ⟨co_X7_boys, ini_RX7, by decide +kernel, by decide, by decide, by decide +kernel, by decide⟩
theorem cal_X7_kindOfCell : zcal M_X7_kindOfCell 1 := ⟨co_X7_kindOfCell, ini_RX7, by decide +kernel, by decide, by decide, by decide +kernel, by decide⟩
theorem cal_X7_homeOfBoy : zcal M_X7_homeOfBoy 1 := ⟨co_X7_homeOfBoy, ini_RX7, by decide +kernel, by decide, by decide, by decide +kernel, by decide⟩
theorem cal_X7_kindOfBoy : zcal M_X7_kindOfBoy 1 := ⟨co_X7_kindOfBoy, ini_RX7, by decide +kernel, by decide, by decide, by decide +kernel, by decide⟩
theorem cal_X4_begin : zcal M_X4_begin 0 := ⟨co_X4_begin, ini_RX4, by decide +kernel, by decide, by decide, by decide +kernel, by decide⟩
theorem cal_X4_homePlace : zcal M_X4_homePlace 1 := ⟨co_X4_homePlace, ini_RX4, by decide +kernel, by decide, by decide, by decide +kernel, by decide⟩
theorem cal_X0_forgetAll : zcal M_X0_forgetAll 0 := ⟨co_X0_forgetAll, ini_RX0, by decide +kernel, by decide, by decide, by decide +kernel, by decide⟩
theorem cal_X8_about : zcal M_X8_about 1 := ⟨co_X8_about, ini_RX8, by decide +kernel, by decide, by decide, by decide +kernel, by decide⟩
theorem cal_X4_cellsOfKind : zcal M_X4_cellsOfKind 1 := ⟨co_X4_cellsOfKind, ini_RX4, by decide +kernel, by decide, by decide, by decide +kernel, by decide⟩
theorem cal_X4_kindAt : zcal M_X4_kindAt 1 := ⟨co_X4_kindAt, ini_RX4, by decide +kernel, by decide, by decide, by decide +kernel, by decide⟩
theorem cal_X4_whoIsHome : zcal M_X4_whoIsHome 0 := ⟨co_X4_whoIsHome, ini_RX4, by decide +kernel, by decide, by decide, by decide +kernel, by decide⟩
theorem cal_X4_isHome : zcal M_X4_isHome 1 := ⟨co_X4_isHome, ini_RX4, by decide +kernel, by decide, by decide, by decide +kernel, by decide⟩
theorem cal_X8_cell : zcal M_X8_cell 1 := ⟨co_X8_cell, ini_RX8, by decide +kernel, by decide, by decide, by decide +kernel, by decide⟩
theorem cal_X3_hasCell : zcal M_X3_hasCell 1 := ⟨co_X3_hasCell, ini_RX3, by decide +kernel, by decide, by decide, by decide +kernel, by decide⟩
theorem cal_X8_beside : zcal M_X8_beside 3 := ⟨co_X8_beside, ini_RX8, by decide +kernel, by decide, by decide, by decide +kernel, by decide⟩
theorem cal_X8_isWay : zcal M_X8_isWay 1 := ⟨co_X8_isWay, ini_RX8, by decide +kernel, by decide, by decide, by decide +kernel, by decide⟩
theorem cal_X3_cellBeside : zcal M_X3_cellBeside 3 := ⟨co_X3_cellBeside, ini_RX3, by decide +kernel, by decide, by decide, by decide +kernel, by decide⟩
theorem cal_X8_boy : zcal M_X8_boy 2 := ⟨co_X8_boy, ini_RX8, by decide +kernel, by decide, by decide, by decide +kernel, by decide⟩
theorem cal_X3_hasBoy : zcal M_X3_hasBoy 1 := ⟨co_X3_hasBoy, ini_RX3, by decide +kernel, by decide, by decide, by decide +kernel, by decide⟩
theorem cal_X8_cellOf : zcal M_X8_cellOf 1 := ⟨co_X8_cellOf, ini_RX8, by decide +kernel, by decide, by decide, by decide +kernel, by decide⟩
theorem cal_X8_widthOf : zcal M_X8_widthOf 1 := ⟨co_X8_widthOf, ini_RX8, by decide +kernel, by decide, by decide, by decide +kernel, by decide⟩
theorem cal_X8_heightOf : zcal M_X8_heightOf 1 := ⟨co_X8_heightOf, ini_RX8, by decide +kernel, by decide, by decide, by decide +kernel, by decide⟩
theorem cal_X4_waysOpen : zcal M_X4_waysOpen 1 := ⟨co_X4_waysOpen, ini_RX4, by decide +kernel, by decide, by decide, by decide +kernel, by decide⟩
theorem cal_X4_placeOn : zcal M_X4_placeOn 3 := ⟨co_X4_placeOn, ini_RX4, by decide +kernel, by decide, by decide, by decide +kernel, by decide⟩
theorem cal_X3_goesStraight : zcal M_X3_goesStraight 1 := ⟨co_X3_goesStraight, ini_RX3, by decide +kernel, by decide, by decide, by decide +kernel, by decide⟩
theorem cal_X3_placeBeside : zcal M_X3_placeBeside 3 := ⟨co_X3_placeBeside, ini_RX3, by decide +kernel, by decide, by decide, by decide +kernel, by decide⟩
theorem cal_X4_canBe : zcal M_X4_canBe 2 := ⟨co_X4_canBe, ini_RX4, by decide +kernel, by decide, by decide, by decide +kernel, by decide⟩
theorem cal_X8_step : zcal M_X8_step 2 := ⟨co_X8_step, ini_RX8, by decide +kernel, by decide, by decide, by decide +kernel, by decide⟩
theorem cal_X0_remember : zcal M_X0_remember 1 := ⟨co_X0_remember, ini_RX0, by decide +kernel, by decide, by decide, by decide +kernel, by decide⟩
theorem cal_X4_become : zcal M_X4_become 1 := ⟨co_X4_become, ini_RX4, by decide +kernel, by decide, by decide, by decide +kernel, by decide⟩
theorem cal_X4_goes : zcal M_X4_goes 2 := ⟨co_X4_goes, ini_RX4, by decide +kernel, by decide, by decide, by decide +kernel, by decide⟩
theorem cal_X8_call : zcal M_X8_call 1 := ⟨co_X8_call, ini_RX8, by decide +kernel, by decide, by decide, by decide +kernel, by decide⟩
theorem cal_X4_bringHome : zcal M_X4_bringHome 1 := ⟨co_X4_bringHome, ini_RX4, by decide +kernel, by decide, by decide, by decide +kernel, by decide⟩
theorem cal_X4_doesHear : zcal M_X4_doesHear 2 := ⟨co_X4_doesHear, ini_RX4, by decide +kernel, by decide, by decide, by decide +kernel, by decide⟩
theorem cal_X8_cut : zcal M_X8_cut 1 := ⟨co_X8_cut, ini_RX8, by decide +kernel, by decide, by decide, by decide +kernel, by decide⟩
theorem cal_X4_cutAway : zcal M_X4_cutAway 1 := ⟨co_X4_cutAway, ini_RX4, by decide +kernel, by decide, by decide, by decide +kernel, by decide⟩
theorem cal_J6_bitCount_0f7a4 : zcal M_J6_bitCount_0f7a4 1 := ⟨co_J6_bitCount_0f7a4, ini_RJ6, by decide +kernel, by decide, by decide, by decide +kernel, by decide⟩
theorem cal_X8_undo : zcal M_X8_undo 0 := ⟨co_X8_undo, ini_RX8, by decide +kernel, by decide, by decide, by decide +kernel, by decide⟩
theorem cal_X0_takeBack : zcal M_X0_takeBack 1 := ⟨co_X0_takeBack, ini_RX0, by decide +kernel, by decide, by decide, by decide +kernel, by decide⟩
theorem cal_X8_far : zcal M_X8_far 1 := ⟨co_X8_far, ini_RX8, by decide +kernel, by decide, by decide, by decide +kernel, by decide⟩
theorem cal_X5_stepsHome : zcal M_X5_stepsHome 2 := ⟨co_X5_stepsHome, ini_RX5, by decide +kernel, by decide, by decide, by decide +kernel, by decide⟩
theorem cal_X5_spread : zcal M_X5_spread 3 := ⟨co_X5_spread, ini_RX5, by decide +kernel, by decide, by decide, by decide +kernel, by decide⟩
theorem cal_X5_clear : zcal M_X5_clear 0 := ⟨co_X5_clear, ini_RX5, by decide +kernel, by decide, by decide, by decide +kernel, by decide⟩
theorem cal_X5_put : zcal M_X5_put 2 := ⟨co_X5_put, ini_RX5, by decide +kernel, by decide, by decide, by decide +kernel, by decide⟩
theorem cal_X8_reach : zcal M_X8_reach 2 := ⟨co_X8_reach, ini_RX8, by decide +kernel, by decide, by decide, by decide +kernel, by decide⟩
theorem cal_X5_cellsWithin : zcal M_X5_cellsWithin 3 := ⟨co_X5_cellsWithin, ini_RX5, by decide +kernel, by decide, by decide, by decide +kernel, by decide⟩
theorem cal_X8_again : zcal M_X8_again 2 := ⟨co_X8_again, ini_RX8, by decide +kernel, by decide, by decide, by decide +kernel, by decide⟩
theorem cal_X8_stepsRound : zcal M_X8_stepsRound 2 := ⟨co_X8_stepsRound, ini_RX8, by decide +kernel, by decide, by decide, by decide +kernel, by decide⟩
theorem cal_X8_alike : zcal M_X8_alike 1 := ⟨co_X8_alike, ini_RX8, by decide +kernel, by decide, by decide, by decide +kernel, by decide⟩
theorem cal_X8_looksLike : zcal M_X8_looksLike 2 := ⟨co_X8_looksLike, ini_RX8, by decide +kernel, by decide, by decide, by decide +kernel, by decide⟩
theorem cal_X8_calls : zcal M_X8_calls 1 := ⟨co_X8_calls, ini_RX8, by decide +kernel, by decide, by decide, by decide +kernel, by decide⟩
theorem cal_X1_cellsToCall : zcal M_X1_cellsToCall 1 := ⟨co_X1_cellsToCall, ini_RX1, by decide +kernel, by decide, by decide, by decide +kernel, by decide⟩
theorem cal_X1_hearers : zcal M_X1_hearers 2 := ⟨co_X1_hearers, ini_RX1, by decide +kernel, by decide, by decide, by decide +kernel, by decide⟩
theorem cal_X1_addCell : zcal M_X1_addCell 2 := ⟨co_X1_addCell, ini_RX1, by decide +kernel, by decide, by decide, by decide +kernel, by decide⟩
theorem cal_X8_match : zcal M_X8_match 1 := ⟨co_X8_match, ini_RX8, by decide +kernel, by decide, by decide, by decide +kernel, by decide⟩
theorem cal_X8_unlikeRows : zcal M_X8_unlikeRows 1 := ⟨co_X8_unlikeRows, ini_RX8, by decide +kernel, by decide, by decide, by decide +kernel, by decide⟩
theorem cal_X8_judge : zcal M_X8_judge 2 := ⟨co_X8_judge, ini_RX8, by decide +kernel, by decide, by decide, by decide +kernel, by decide⟩
theorem cal_X8_holds : zcal M_X8_holds 3 := ⟨co_X8_holds, ini_RX8, by decide +kernel, by decide, by decide, by decide +kernel, by decide⟩
theorem cal_X8_share : zcal M_X8_share 2 := ⟨co_X8_share, ini_RX8, by decide +kernel, by decide, by decide, by decide +kernel, by decide⟩
theorem cal_X5_sixtiethsShared : zcal M_X5_sixtiethsShared 2 := ⟨co_X5_sixtiethsShared, ini_RX5, by decide +kernel, by decide, by decide, by decide +kernel, by decide⟩
theorem cal_X8_told : zcal M_X8_told 3 := ⟨co_X8_told, ini_RX8, by decide +kernel, by decide, by decide, by decide +kernel, by decide⟩
theorem cal_X8_commonDivisor : zcal M_X8_commonDivisor 2 := ⟨co_X8_commonDivisor, ini_RX8, by decide +kernel, by decide, by decide, by decide +kernel, by decide⟩
theorem cal_X8_see : zcal M_X8_see 3 := ⟨co_X8_see, ini_RX8, by decide +kernel, by decide, by decide, by decide +kernel, by decide⟩
theorem cal_X8_inSight : zcal M_X8_inSight 1 := ⟨co_X8_inSight, ini_RX8, by decide +kernel, by decide, by decide, by decide +kernel, by decide⟩
theorem cal_X6_add : zcal M_X6_add 3 := ⟨co_X6_add, ini_RX6, by decide +kernel, by decide, by decide, by decide +kernel, by decide⟩
theorem cal_X8_unsee : zcal M_X8_unsee 0 := ⟨co_X8_unsee, ini_RX8, by decide +kernel, by decide, by decide, by decide +kernel, by decide⟩
theorem cal_X8_stands : zcal M_X8_stands 0 := ⟨co_X8_stands, ini_RX8, by decide +kernel, by decide, by decide, by decide +kernel, by decide⟩
theorem cal_X6_isSoFrom : zcal M_X6_isSoFrom 2 := ⟨co_X6_isSoFrom, ini_RX6, by decide +kernel, by decide, by decide, by decide +kernel, by decide⟩
theorem cal_X6_cellOff : zcal M_X6_cellOff 5 := ⟨co_X6_cellOff, ini_RX6, by decide +kernel, by decide, by decide, by decide +kernel, by decide⟩
theorem cal_X8_rests : zcal M_X8_rests 3 := ⟨co_X8_rests, ini_RX8, by decide +kernel, by decide, by decide, by decide +kernel, by decide⟩
theorem cal_X2_lookAt : zcal M_X2_lookAt 2 := ⟨co_X2_lookAt, ini_RX2, by decide +kernel, by decide, by decide, by decide +kernel, by decide⟩
theorem cal_X8_countOfRests : zcal M_X8_countOfRests 0 := ⟨co_X8_countOfRests, ini_RX8, by decide +kernel, by decide, by decide, by decide +kernel, by decide⟩
theorem cal_X8_isRest : zcal M_X8_isRest 2 := ⟨co_X8_isRest, ini_RX8, by decide +kernel, by decide, by decide, by decide +kernel, by decide⟩
theorem cal_X2_worth : zcal M_X2_worth 3 := ⟨co_X2_worth, ini_RX2, by decide +kernel, by decide, by decide, by decide +kernel, by decide⟩
theorem cal_X8_firstRest : zcal M_X8_firstRest 0 := ⟨co_X8_firstRest, ini_RX8, by decide +kernel, by decide, by decide, by decide +kernel, by decide⟩
theorem cal_X8_strays : zcal M_X8_strays 3 := ⟨co_X8_strays, ini_RX8, by decide +kernel, by decide, by decide, by decide +kernel, by decide⟩
theorem cal_X8_walksHome : zcal M_X8_walksHome 4 := ⟨co_X8_walksHome, ini_RX8, by decide +kernel, by decide, by decide, by decide +kernel, by decide⟩
theorem cal_X8_seed : zcal M_X8_seed 1 := ⟨co_X8_seed, ini_RX8, by decide +kernel, by decide, by decide, by decide +kernel, by decide⟩
theorem cal_X8_nights : zcal M_X8_nights 1 := ⟨co_X8_nights, ini_RX8, by decide +kernel, by decide, by decide, by decide +kernel, by decide⟩
theorem cal_X8_happens : zcal M_X8_happens 1 := ⟨co_X8_happens, ini_RX8, by decide +kernel, by decide, by decide, by decide +kernel, by decide⟩
theorem cal_X4_countNotHome : zcal M_X4_countNotHome 0 := ⟨co_X4_countNotHome, ini_RX4, by decide +kernel, by decide, by decide, by decide +kernel, by decide⟩
theorem cal_X8_keep : zcal M_X8_keep 1 := ⟨co_X8_keep, ini_RX8, by decide +kernel, by decide, by decide, by decide +kernel, by decide⟩
theorem cal_X8_goOn : zcal M_X8_goOn 1 := ⟨co_X8_goOn, ini_RX8, by decide +kernel, by decide, by decide, by decide +kernel, by decide⟩
theorem cal_X9_init : zcal M_X9_init 0 := ⟨co_X9_init, ini_RX9, by decide +kernel, by decide, by decide, by decide +kernel, by decide⟩
theorem cal_X9_write : zcal M_X9_write 1 := ⟨co_X9_write, ini_RX9, by decide +kernel, by decide, by decide, by decide +kernel, by decide⟩
theorem cal_X9_in : zcal M_X9_in 3 := ⟨co_X9_in, ini_RX9, by decide +kernel, by decide, by decide, by decide +kernel, by decide⟩
theorem cal_X9_wipe : zcal M_X9_wipe 0 := ⟨co_X9_wipe, ini_RX9, by decide +kernel, by decide, by decide, by decide +kernel, by decide⟩
theorem cal_X9_fault : zcal M_X9_fault 0 := ⟨co_X9_fault, ini_RX9, by decide +kernel, by decide, by decide, by decide +kernel, by decide⟩
theorem cal_X9_readPaper : zcal M_X9_readPaper 0 := ⟨co_X9_readPaper, ini_RX9, by decide +kernel, by decide, by decide, by decide +kernel, by decide⟩
theorem cal_X9_readPattern : zcal M_X9_readPattern 0 := ⟨co_X9_readPattern, ini_RX9, by decide +kernel, by decide, by decide, by decide +kernel, by decide⟩
theorem cal_X9_from : zcal M_X9_from 3 := ⟨co_X9_from, ini_RX9, by decide +kernel, by decide, by decide, by decide +kernel, by decide⟩
theorem cal_X9_readKind : zcal M_X9_readKind 0 := ⟨co_X9_readKind, ini_RX9, by decide +kernel, by decide, by decide, by decide +kernel, by decide⟩
theorem cal_X9_readOneBoy : zcal M_X9_readOneBoy 0 := ⟨co_X9_readOneBoy, ini_RX9, by decide +kernel, by decide, by decide, by decide +kernel, by decide⟩
theorem cal_X9_hasRoom : zcal M_X9_hasRoom 0 := ⟨co_X9_hasRoom, ini_RX9, by decide +kernel, by decide, by decide, by decide +kernel, by decide⟩
theorem cal_X9_paper : zcal M_X9_paper 0 := ⟨co_X9_paper, ini_RX9, by decide +kernel, by decide, by decide, by decide +kernel, by decide⟩
theorem cal_X9_about : zcal M_X9_about 1 := ⟨co_X9_about, ini_RX9, by decide +kernel, by decide, by decide, by decide +kernel, by decide⟩
theorem cal_X9_cellsOf : zcal M_X9_cellsOf 1 := ⟨co_X9_cellsOf, ini_RX9, by decide +kernel, by decide, by decide, by decide +kernel, by decide⟩
theorem cal_X9_kindOf : zcal M_X9_kindOf 2 := ⟨co_X9_kindOf, ini_RX9, by decide +kernel, by decide, by decide, by decide +kernel, by decide⟩
theorem cal_X9_has : zcal M_X9_has 2 := ⟨co_X9_has, ini_RX9, by decide +kernel, by decide, by decide, by decide +kernel, by decide⟩
theorem cal_X9_homes : zcal M_X9_homes 1 := ⟨co_X9_homes, ini_RX9, by decide +kernel, by decide, by decide, by decide +kernel, by decide⟩
theorem cal_X9_isHome : zcal M_X9_isHome 2 := ⟨co_X9_isHome, ini_RX9, by decide +kernel, by decide, by decide, by decide +kernel, by decide⟩
theorem cal_X9_cell : zcal M_X9_cell 1 := ⟨co_X9_cell, ini_RX9, by decide +kernel, by decide, by decide, by decide +kernel, by decide⟩
theorem cal_X9_noCell : zcal M_X9_noCell 1 := ⟨co_X9_noCell, ini_RX9, by decide +kernel, by decide, by decide, by decide +kernel, by decide⟩
theorem cal_X9_beside : zcal M_X9_beside 3 := ⟨co_X9_beside, ini_RX9, by decide +kernel, by decide, by decide, by decide +kernel, by decide⟩
theorem cal_X9_noWay : zcal M_X9_noWay 1 := ⟨co_X9_noWay, ini_RX9, by decide +kernel, by decide, by decide, by decide +kernel, by decide⟩
theorem cal_X9_cellBeside : zcal M_X9_cellBeside 3 := ⟨co_X9_cellBeside, ini_RX9, by decide +kernel, by decide, by decide, by decide +kernel, by decide⟩
theorem cal_X9_goWay : zcal M_X9_goWay 2 := ⟨co_X9_goWay, ini_RX9, by decide +kernel, by decide, by decide, by decide +kernel, by decide⟩
theorem cal_X9_boy : zcal M_X9_boy 2 := ⟨co_X9_boy, ini_RX9, by decide +kernel, by decide, by decide, by decide +kernel, by decide⟩
theorem cal_X9_noBoy : zcal M_X9_noBoy 1 := ⟨co_X9_noBoy, ini_RX9, by decide +kernel, by decide, by decide, by decide +kernel, by decide⟩
theorem cal_X9_waysOf : zcal M_X9_waysOf 1 := ⟨co_X9_waysOf, ini_RX9, by decide +kernel, by decide, by decide, by decide +kernel, by decide⟩
theorem cal_X9_canGo : zcal M_X9_canGo 3 := ⟨co_X9_canGo, ini_RX9, by decide +kernel, by decide, by decide, by decide +kernel, by decide⟩
theorem cal_X9_stand : zcal M_X9_stand 2 := ⟨co_X9_stand, ini_RX9, by decide +kernel, by decide, by decide, by decide +kernel, by decide⟩
theorem cal_X9_isThere : zcal M_X9_isThere 0 := ⟨co_X9_isThere, ini_RX9, by decide +kernel, by decide, by decide, by decide +kernel, by decide⟩
theorem cal_X9_canBe : zcal M_X9_canBe 3 := ⟨co_X9_canBe, ini_RX9, by decide +kernel, by decide, by decide, by decide +kernel, by decide⟩
theorem cal_X9_step : zcal M_X9_step 2 := ⟨co_X9_step, ini_RX9, by decide +kernel, by decide, by decide, by decide +kernel, by decide⟩
theorem cal_X9_note : zcal M_X9_note 0 := ⟨co_X9_note, ini_RX9, by decide +kernel, by decide, by decide, by decide +kernel, by decide⟩
theorem cal_X9_goStep : zcal M_X9_goStep 3 := ⟨co_X9_goStep, ini_RX9, by decide +kernel, by decide, by decide, by decide +kernel, by decide⟩
theorem cal_X9_call : zcal M_X9_call 1 := ⟨co_X9_call, ini_RX9, by decide +kernel, by decide, by decide, by decide +kernel, by decide⟩
theorem cal_X9_away : zcal M_X9_away 1 := ⟨co_X9_away, ini_RX9, by decide +kernel, by decide, by decide, by decide +kernel, by decide⟩
theorem cal_X9_many : zcal M_X9_many 1 := ⟨co_X9_many, ini_RX9, by decide +kernel, by decide, by decide, by decide +kernel, by decide⟩
theorem cal_X9_goCall : zcal M_X9_goCall 2 := ⟨co_X9_goCall, ini_RX9, by decide +kernel, by decide, by decide, by decide +kernel, by decide⟩
theorem cal_X9_hears : zcal M_X9_hears 3 := ⟨co_X9_hears, ini_RX9, by decide +kernel, by decide, by decide, by decide +kernel, by decide⟩
theorem cal_X9_cut : zcal M_X9_cut 1 := ⟨co_X9_cut, ini_RX9, by decide +kernel, by decide, by decide, by decide +kernel, by decide⟩
theorem cal_X9_undo : zcal M_X9_undo 0 := ⟨co_X9_undo, ini_RX9, by decide +kernel, by decide, by decide, by decide +kernel, by decide⟩
theorem cal_X9_far : zcal M_X9_far 1 := ⟨co_X9_far, ini_RX9, by decide +kernel, by decide, by decide, by decide +kernel, by decide⟩
theorem cal_X9_layFar : zcal M_X9_layFar 1 := ⟨co_X9_layFar, ini_RX9, by decide +kernel, by decide, by decide, by decide +kernel, by decide⟩
theorem cal_X9_spotNumber : zcal M_X9_spotNumber 0 := ⟨co_X9_spotNumber, ini_RX9, by decide +kernel, by decide, by decide, by decide +kernel, by decide⟩
theorem cal_X9_reach : zcal M_X9_reach 2 := ⟨co_X9_reach, ini_RX9, by decide +kernel, by decide, by decide, by decide +kernel, by decide⟩
theorem cal_X9_reachOf : zcal M_X9_reachOf 2 := ⟨co_X9_reachOf, ini_RX9, by decide +kernel, by decide, by decide, by decide +kernel, by decide⟩
theorem cal_X9_again : zcal M_X9_again 2 := ⟨co_X9_again, ini_RX9, by decide +kernel, by decide, by decide, by decide +kernel, by decide⟩
theorem cal_X9_alike : zcal M_X9_alike 1 := ⟨co_X9_alike, ini_RX9, by decide +kernel, by decide, by decide, by decide +kernel, by decide⟩
theorem cal_X9_areAlike : zcal M_X9_areAlike 2 := ⟨co_X9_areAlike, ini_RX9, by decide +kernel, by decide, by decide, by decide +kernel, by decide⟩
theorem cal_X9_calls : zcal M_X9_calls 1 := ⟨co_X9_calls, ini_RX9, by decide +kernel, by decide, by decide, by decide +kernel, by decide⟩
theorem cal_X9_fewest : zcal M_X9_fewest 0 := ⟨co_X9_fewest, ini_RX9, by decide +kernel, by decide, by decide, by decide +kernel, by decide⟩
theorem cal_X9_nextOf : zcal M_X9_nextOf 1 := ⟨co_X9_nextOf, ini_RX9, by decide +kernel, by decide, by decide, by decide +kernel, by decide⟩
theorem cal_X9_match : zcal M_X9_match 1 := ⟨co_X9_match, ini_RX9, by decide +kernel, by decide, by decide, by decide +kernel, by decide⟩
theorem cal_X9_unlikeBy : zcal M_X9_unlikeBy 1 := ⟨co_X9_unlikeBy, ini_RX9, by decide +kernel, by decide, by decide, by decide +kernel, by decide⟩
theorem cal_X9_judge : zcal M_X9_judge 2 := ⟨co_X9_judge, ini_RX9, by decide +kernel, by decide, by decide, by decide +kernel, by decide⟩
theorem cal_X9_longPower : zcal M_X9_longPower 2 := ⟨co_X9_longPower, ini_RX9, by decide +kernel, by decide, by decide, by decide +kernel, by decide⟩
theorem cal_X9_begin : zcal M_X9_begin 0 := ⟨co_X9_begin, ini_RX9, by decide +kernel, by decide, by decide, by decide +kernel, by decide⟩
theorem cal_X9_does : zcal M_X9_does 1 := ⟨co_X9_does, ini_RX9, by decide +kernel, by decide, by decide, by decide +kernel, by decide⟩
theorem cal_X9_share : zcal M_X9_share 2 := ⟨co_X9_share, ini_RX9, by decide +kernel, by decide, by decide, by decide +kernel, by decide⟩
theorem cal_X9_ways : zcal M_X9_ways 1 := ⟨co_X9_ways, ini_RX9, by decide +kernel, by decide, by decide, by decide +kernel, by decide⟩
theorem cal_X9_fraction : zcal M_X9_fraction 3 := ⟨co_X9_fraction, ini_RX9, by decide +kernel, by decide, by decide, by decide +kernel, by decide⟩
theorem cal_X9_divisor : zcal M_X9_divisor 2 := ⟨co_X9_divisor, ini_RX9, by decide +kernel, by decide, by decide, by decide +kernel, by decide⟩
theorem cal_X9_see : zcal M_X9_see 3 := ⟨co_X9_see, ini_RX9, by decide +kernel, by decide, by decide, by decide +kernel, by decide⟩
theorem cal_X9_unsee : zcal M_X9_unsee 0 := ⟨co_X9_unsee, ini_RX9, by decide +kernel, by decide, by decide, by decide +kernel, by decide⟩
theorem cal_X9_stands : zcal M_X9_stands 0 := ⟨co_X9_stands, ini_RX9, by decide +kernel, by decide, by decide, by decide +kernel, by decide⟩
theorem cal_X9_cellFrom : zcal M_X9_cellFrom 3 := ⟨co_X9_cellFrom, ini_RX9, by decide +kernel, by decide, by decide, by decide +kernel, by decide⟩
theorem cal_X9_rests : zcal M_X9_rests 3 := ⟨co_X9_rests, ini_RX9, by decide +kernel, by decide, by decide, by decide +kernel, by decide⟩
theorem cal_X9_layGains : zcal M_X9_layGains 3 := ⟨co_X9_layGains, ini_RX9, by decide +kernel, by decide, by decide, by decide +kernel, by decide⟩
theorem cal_X9_strays : zcal M_X9_strays 3 := ⟨co_X9_strays, ini_RX9, by decide +kernel, by decide, by decide, by decide +kernel, by decide⟩
theorem cal_X9_power : zcal M_X9_power 2 := ⟨co_X9_power, ini_RX9, by decide +kernel, by decide, by decide, by decide +kernel, by decide⟩
theorem cal_X9_seed : zcal M_X9_seed 1 := ⟨co_X9_seed, ini_RX9, by decide +kernel, by decide, by decide, by decide +kernel, by decide⟩
theorem cal_X9_nights : zcal M_X9_nights 1 := ⟨co_X9_nights, ini_RX9, by decide +kernel, by decide, by decide, by decide +kernel, by decide⟩
theorem cal_X9_keep : zcal M_X9_keep 1 := ⟨co_X9_keep, ini_RX9, by decide +kernel, by decide, by decide, by decide +kernel, by decide⟩
theorem cal_X9_goOn : zcal M_X9_goOn 1 := ⟨co_X9_goOn, ini_RX9, by decide +kernel, by decide, by decide, by decide +kernel, by decide⟩
theorem lc_L_7 : zcls RL 7 8 13 [.null, .null, .null, .null, .null, .null, .null, .null, .null, .null, .null, .null, .long 0] := ⟨RX8, TX8, tyX8, rfl, lcl_L_7, ins_RX8, ini_RX8, tyX8_ok, by decide +kernel, fun _ _ => rfl⟩
theorem lc_X8_9 : zcls RX8 9 7 2 [.null, .int 0] := ⟨RX7, TX7, tyX7, rfl, lcl_X8_9, ins_RX7, ini_RX7, tyX7_ok, by decide +kernel, fun _ _ => rfl⟩
theorem lc_X8_16 : zcls RX8 16 3 11 [.int 0, .int 0, .int 0, .int 0, .int 0, .null, .null, .null, .null, .null, .null] := ⟨RX3, TX3, tyX3, rfl, lcl_X8_16, ins_RX3, ini_RX3, tyX3_ok, by decide +kernel, fun _ _ => rfl⟩
theorem lc_X8_23 : zcls RX8 23 4 3 [.null, .null, .int 0] := ⟨RX4, TX4, tyX4, rfl, lcl_X8_23, ins_RX4, ini_RX4, tyX4_ok, by decide +kernel, fun _ _ => rfl⟩
theorem lc_X8_35 : zcls RX8 35 0 3 [.null, .int 0, .int 0] := ⟨RX0, TX0, tyX0, rfl, lcl_X8_35, ins_RX0, ini_RX0, tyX0_ok, by decide +kernel, fun _ _ => rfl⟩
theorem lc_X0_9 : zcls RX0 9 4 3 [.null, .null, .int 0] := ⟨RX4, TX4, tyX4, rfl, lcl_X0_9, ins_RX4, ini_RX4, tyX4_ok, by decide +kernel, fun _ _ => rfl⟩
theorem lc_X8_50 : zcls RX8 50 5 4 [.null, .null, .int 0, .null] := ⟨RX5, TX5, tyX5, rfl, lcl_X8_50, ins_RX5, ini_RX5, tyX5_ok, by decide +kernel, fun _ _ => rfl⟩
theorem lc_X8_57 : zcls RX8 57 1 1 [.null] := ⟨RX1, TX1, tyX1, rfl, lcl_X8_57, ins_RX1, ini_RX1, tyX1_ok, by decide +kernel, fun _ _ => rfl⟩
theorem lc_X8_64 : zcls RX8 64 6 4 [.null, .null, .null, .int 0] := ⟨RX6, TX6, tyX6, rfl, lcl_X8_64, ins_RX6, ini_RX6, tyX6_ok, by decide +kernel, fun _ _ => rfl⟩
theorem lc_X8_71 : zcls RX8 71 2 2 [.null, .null] := ⟨RX2, TX2, tyX2, rfl, lcl_X8_71, ins_RX2, ini_RX2, tyX2_ok, by decide +kernel, fun _ _ => rfl⟩
theorem lc_L_10 : zcls RL 10 9 36 [.int 0, .null, .int 0, .int 0, .int 0, .int 0, .int 0, .null, .int 0, .null, .null, .int 0, .int 0, .int 0, .null, .int 0, .null, .null, .null, .null, .int 0, .null, .null, .int 0, .null, .null, .null, .long 0, .null, .null, .null, .int 0, .int 0, .int 0, .null, .null] := ⟨RX9, TX9, tyX9, rfl, lcl_L_10, ins_RX9, ini_RX9, tyX9_ok, by decide +kernel, fun _ _ => rfl⟩
end
section
theorem dX0_init_0 : decode cX0_init 0 = .ok (.aload_n 0, 1) := by decide +kernel
theorem dX0_init_1 : decode cX0_init 1 = .ok (.invokespecial 3, 3) := by decide +kernel
theorem dX0_init_4 : decode cX0_init 4 = .ok (.aload_n 0, 1) := by decide +kernel
theorem dX0_init_5 : decode cX0_init 5 = .ok (.bipush 14, 2) := by decide +kernel
theorem dX0_init_7 : decode cX0_init 7 = .ok (.anewarray 9, 3) := by decide +kernel
theorem dX0_init_10 : decode cX0_init 10 = .ok (.putfield 11, 3) := by decide +kernel
theorem dX0_init_13 : decode cX0_init 13 = .ok (.iconst 0, 1) := by decide +kernel
theorem dX0_init_14 : decode cX0_init 14 = .ok (.istore_n 2, 1) := by decide +kernel
theorem dX0_init_15 : decode cX0_init 15 = .ok (.iload_n 2, 1) := by decide +kernel
theorem dX0_init_16 : decode cX0_init 16 = .ok (.bipush 14, 2) := by decide +kernel
theorem dX0_init_18 : decode cX0_init 18 = .ok (.if_icmp .ge 23, 3) := by decide +kernel
theorem dX0_init_21 : decode cX0_init 21 = .ok (.aload_n 0, 1) := by decide +kernel
theorem dX0_init_22 : decode cX0_init 22 = .ok (.getfield 11, 3) := by decide +kernel
theorem dX0_init_25 : decode cX0_init 25 = .ok (.iload_n 2, 1) := by decide +kernel
theorem dX0_init_26 : decode cX0_init 26 = .ok (.new 9, 3) := by decide +kernel
theorem dX0_init_29 : decode cX0_init 29 = .ok (.dup, 1) := by decide +kernel
theorem dX0_init_30 : decode cX0_init 30 = .ok (.aload_n 1, 1) := by decide +kernel
theorem dX0_init_31 : decode cX0_init 31 = .ok (.invokespecial 17, 3) := by decide +kernel
theorem dX0_init_34 : decode cX0_init 34 = .ok (.aastore, 1) := by decide +kernel
theorem dX0_init_35 : decode cX0_init 35 = .ok (.iinc 2 1, 3) := by decide +kernel
theorem dX0_init_38 : decode cX0_init 38 = .ok (.goto (-23), 3) := by decide +kernel
theorem dX0_init_41 : decode cX0_init 41 = .ok (.return_, 1) := by decide +kernel
theorem dX0_remember_0 : decode cX0_remember 0 = .ok (.aload_n 0, 1) := by decide +kernel
theorem dX0_remember_1 : decode cX0_remember 1 = .ok (.getfield 11, 3) := by decide +kernel
theorem dX0_remember_4 : decode cX0_remember 4 = .ok (.aload_n 0, 1) := by decide +kernel
theorem dX0_remember_5 : decode cX0_remember 5 = .ok (.getfield 20, 3) := by decide +kernel
theorem dX0_remember_8 : decode cX0_remember 8 = .ok (.aaload, 1) := by decide +kernel
theorem dX0_remember_9 : decode cX0_remember 9 = .ok (.aload_n 1, 1) := by decide +kernel
theorem dX0_remember_10 : decode cX0_remember 10 = .ok (.invokevirtual 24, 3) := by decide +kernel
theorem dX0_remember_13 : decode cX0_remember 13 = .ok (.aload_n 0, 1) := by decide +kernel
theorem dX0_remember_14 : decode cX0_remember 14 = .ok (.aload_n 0, 1) := by decide +kernel
theorem dX0_remember_15 : decode cX0_remember 15 = .ok (.getfield 20, 3) := by decide +kernel
theorem dX0_remember_18 : decode cX0_remember 18 = .ok (.iconst 1, 1) := by decide +kernel
theorem dX0_remember_19 : decode cX0_remember 19 = .ok (.iadd, 1) := by decide +kernel
theorem dX0_remember_20 : decode cX0_remember 20 = .ok (.bipush 14, 2) := by decide +kernel
theorem dX0_remember_22 : decode cX0_remember 22 = .ok (.if_icmp .ge 12, 3) := by decide +kernel
theorem dX0_remember_25 : decode cX0_remember 25 = .ok (.aload_n 0, 1) := by decide +kernel
theorem dX0_remember_26 : decode cX0_remember 26 = .ok (.getfield 20, 3) := by decide +kernel
theorem dX0_remember_29 : decode cX0_remember 29 = .ok (.iconst 1, 1) := by decide +kernel
theorem dX0_remember_30 : decode cX0_remember 30 = .ok (.iadd, 1) := by decide +kernel
theorem dX0_remember_31 : decode cX0_remember 31 = .ok (.goto 4, 3) := by decide +kernel
theorem dX0_remember_34 : decode cX0_remember 34 = .ok (.iconst 0, 1) := by decide +kernel
theorem dX0_remember_35 : decode cX0_remember 35 = .ok (.putfield 20, 3) := by decide +kernel
theorem dX0_remember_38 : decode cX0_remember 38 = .ok (.aload_n 0, 1) := by decide +kernel
theorem dX0_remember_39 : decode cX0_remember 39 = .ok (.aload_n 0, 1) := by decide +kernel
theorem dX0_remember_40 : decode cX0_remember 40 = .ok (.getfield 28, 3) := by decide +kernel
theorem dX0_remember_43 : decode cX0_remember 43 = .ok (.iconst 1, 1) := by decide +kernel
theorem dX0_remember_44 : decode cX0_remember 44 = .ok (.iadd, 1) := by decide +kernel
theorem dX0_remember_45 : decode cX0_remember 45 = .ok (.bipush 14, 2) := by decide +kernel
theorem dX0_remember_47 : decode cX0_remember 47 = .ok (.invokestatic 31, 3) := by decide +kernel
theorem dX0_remember_50 : decode cX0_remember 50 = .ok (.putfield 28, 3) := by decide +kernel
theorem dX0_remember_53 : decode cX0_remember 53 = .ok (.return_, 1) := by decide +kernel
theorem dX0_takeBack_0 : decode cX0_takeBack 0 = .ok (.aload_n 0, 1) := by decide +kernel
theorem dX0_takeBack_1 : decode cX0_takeBack 1 = .ok (.getfield 28, 3) := by decide +kernel
theorem dX0_takeBack_4 : decode cX0_takeBack 4 = .ok (.ifCond .ne 5, 3) := by decide +kernel
theorem dX0_takeBack_7 : decode cX0_takeBack 7 = .ok (.iconst 0, 1) := by decide +kernel
theorem dX0_takeBack_8 : decode cX0_takeBack 8 = .ok (.ireturn, 1) := by decide +kernel
theorem dX0_takeBack_9 : decode cX0_takeBack 9 = .ok (.aload_n 0, 1) := by decide +kernel
theorem dX0_takeBack_10 : decode cX0_takeBack 10 = .ok (.dup, 1) := by decide +kernel
theorem dX0_takeBack_11 : decode cX0_takeBack 11 = .ok (.getfield 28, 3) := by decide +kernel
theorem dX0_takeBack_14 : decode cX0_takeBack 14 = .ok (.iconst 1, 1) := by decide +kernel
theorem dX0_takeBack_15 : decode cX0_takeBack 15 = .ok (.isub, 1) := by decide +kernel
theorem dX0_takeBack_16 : decode cX0_takeBack 16 = .ok (.putfield 28, 3) := by decide +kernel
theorem dX0_takeBack_19 : decode cX0_takeBack 19 = .ok (.aload_n 0, 1) := by decide +kernel
theorem dX0_takeBack_20 : decode cX0_takeBack 20 = .ok (.aload_n 0, 1) := by decide +kernel
theorem dX0_takeBack_21 : decode cX0_takeBack 21 = .ok (.getfield 20, 3) := by decide +kernel
theorem dX0_takeBack_24 : decode cX0_takeBack 24 = .ok (.ifCond .le 12, 3) := by decide +kernel
theorem dX0_takeBack_27 : decode cX0_takeBack 27 = .ok (.aload_n 0, 1) := by decide +kernel
theorem dX0_takeBack_28 : decode cX0_takeBack 28 = .ok (.getfield 20, 3) := by decide +kernel
theorem dX0_takeBack_31 : decode cX0_takeBack 31 = .ok (.iconst 1, 1) := by decide +kernel
theorem dX0_takeBack_32 : decode cX0_takeBack 32 = .ok (.isub, 1) := by decide +kernel
theorem dX0_takeBack_33 : decode cX0_takeBack 33 = .ok (.goto 5, 3) := by decide +kernel
theorem dX0_takeBack_36 : decode cX0_takeBack 36 = .ok (.bipush 13, 2) := by decide +kernel
theorem dX0_takeBack_38 : decode cX0_takeBack 38 = .ok (.putfield 20, 3) := by decide +kernel
theorem dX0_takeBack_41 : decode cX0_takeBack 41 = .ok (.aload_n 1, 1) := by decide +kernel
theorem dX0_takeBack_42 : decode cX0_takeBack 42 = .ok (.aload_n 0, 1) := by decide +kernel
theorem dX0_takeBack_43 : decode cX0_takeBack 43 = .ok (.getfield 11, 3) := by decide +kernel
theorem dX0_takeBack_46 : decode cX0_takeBack 46 = .ok (.aload_n 0, 1) := by decide +kernel
theorem dX0_takeBack_47 : decode cX0_takeBack 47 = .ok (.getfield 20, 3) := by decide +kernel
theorem dX0_takeBack_50 : decode cX0_takeBack 50 = .ok (.aaload, 1) := by decide +kernel
theorem dX0_takeBack_51 : decode cX0_takeBack 51 = .ok (.invokevirtual 24, 3) := by decide +kernel
theorem dX0_takeBack_54 : decode cX0_takeBack 54 = .ok (.iconst 1, 1) := by decide +kernel
theorem dX0_takeBack_55 : decode cX0_takeBack 55 = .ok (.ireturn, 1) := by decide +kernel
theorem dX0_forgetAll_0 : decode cX0_forgetAll 0 = .ok (.aload_n 0, 1) := by decide +kernel
theorem dX0_forgetAll_1 : decode cX0_forgetAll 1 = .ok (.iconst 0, 1) := by decide +kernel
theorem dX0_forgetAll_2 : decode cX0_forgetAll 2 = .ok (.putfield 28, 3) := by decide +kernel
theorem dX0_forgetAll_5 : decode cX0_forgetAll 5 = .ok (.return_, 1) := by decide +kernel
theorem dX1_init_0 : decode cX1_init 0 = .ok (.aload_n 0, 1) := by decide +kernel
theorem dX1_init_1 : decode cX1_init 1 = .ok (.invokespecial 3, 3) := by decide +kernel
theorem dX1_init_4 : decode cX1_init 4 = .ok (.aload_n 0, 1) := by decide +kernel
theorem dX1_init_5 : decode cX1_init 5 = .ok (.bipush 32, 2) := by decide +kernel
theorem dX1_init_7 : decode cX1_init 7 = .ok (.newarray .int, 2) := by decide +kernel
theorem dX1_init_9 : decode cX1_init 9 = .ok (.putfield 11, 3) := by decide +kernel
theorem dX1_init_12 : decode cX1_init 12 = .ok (.return_, 1) := by decide +kernel
theorem dX1_cellsToCall_0 : decode cX1_cellsToCall 0 = .ok (.aload_n 1, 1) := by decide +kernel
theorem dX1_cellsToCall_1 : decode cX1_cellsToCall 1 = .ok (.invokevirtual 15, 3) := by decide +kernel
theorem dX1_cellsToCall_4 : decode cX1_cellsToCall 4 = .ok (.istore_n 2, 1) := by decide +kernel
theorem dX1_cellsToCall_5 : decode cX1_cellsToCall 5 = .ok (.iconst 1, 1) := by decide +kernel
theorem dX1_cellsToCall_6 : decode cX1_cellsToCall 6 = .ok (.aload_n 1, 1) := by decide +kernel
theorem dX1_cellsToCall_7 : decode cX1_cellsToCall 7 = .ok (.getfield 21, 3) := by decide +kernel
theorem dX1_cellsToCall_10 : decode cX1_cellsToCall 10 = .ok (.getfield 25, 3) := by decide +kernel
theorem dX1_cellsToCall_13 : decode cX1_cellsToCall 13 = .ok (.ishl, 1) := by decide +kernel
theorem dX1_cellsToCall_14 : decode cX1_cellsToCall 14 = .ok (.iconst 1, 1) := by decide +kernel
theorem dX1_cellsToCall_15 : decode cX1_cellsToCall 15 = .ok (.isub, 1) := by decide +kernel
theorem dX1_cellsToCall_16 : decode cX1_cellsToCall 16 = .ok (.istore_n 3, 1) := by decide +kernel
theorem dX1_cellsToCall_17 : decode cX1_cellsToCall 17 = .ok (.iconst 0, 1) := by decide +kernel
theorem dX1_cellsToCall_18 : decode cX1_cellsToCall 18 = .ok (.istore 4, 2) := by decide +kernel
theorem dX1_cellsToCall_20 : decode cX1_cellsToCall 20 = .ok (.iload 4, 2) := by decide +kernel
theorem dX1_cellsToCall_22 : decode cX1_cellsToCall 22 = .ok (.bipush 32, 2) := by decide +kernel
theorem dX1_cellsToCall_24 : decode cX1_cellsToCall 24 = .ok (.if_icmp .ge 18, 3) := by decide +kernel
theorem dX1_cellsToCall_27 : decode cX1_cellsToCall 27 = .ok (.aload_n 0, 1) := by decide +kernel
theorem dX1_cellsToCall_28 : decode cX1_cellsToCall 28 = .ok (.getfield 11, 3) := by decide +kernel
theorem dX1_cellsToCall_31 : decode cX1_cellsToCall 31 = .ok (.iload 4, 2) := by decide +kernel
theorem dX1_cellsToCall_33 : decode cX1_cellsToCall 33 = .ok (.ldc 33, 2) := by decide +kernel
theorem dX1_cellsToCall_35 : decode cX1_cellsToCall 35 = .ok (.iastore, 1) := by decide +kernel
theorem dX1_cellsToCall_36 : decode cX1_cellsToCall 36 = .ok (.iinc 4 1, 3) := by decide +kernel
theorem dX1_cellsToCall_39 : decode cX1_cellsToCall 39 = .ok (.goto (-19), 3) := by decide +kernel
theorem dX1_cellsToCall_42 : decode cX1_cellsToCall 42 = .ok (.aload_n 0, 1) := by decide +kernel
theorem dX1_cellsToCall_43 : decode cX1_cellsToCall 43 = .ok (.getfield 11, 3) := by decide +kernel
theorem dX1_cellsToCall_46 : decode cX1_cellsToCall 46 = .ok (.iload_n 2, 1) := by decide +kernel
theorem dX1_cellsToCall_47 : decode cX1_cellsToCall 47 = .ok (.iload_n 3, 1) := by decide +kernel
theorem dX1_cellsToCall_48 : decode cX1_cellsToCall 48 = .ok (.iand, 1) := by decide +kernel
theorem dX1_cellsToCall_49 : decode cX1_cellsToCall 49 = .ok (.iconst 0, 1) := by decide +kernel
theorem dX1_cellsToCall_50 : decode cX1_cellsToCall 50 = .ok (.iastore, 1) := by decide +kernel
theorem dX1_cellsToCall_51 : decode cX1_cellsToCall 51 = .ok (.iconst 0, 1) := by decide +kernel
theorem dX1_cellsToCall_52 : decode cX1_cellsToCall 52 = .ok (.istore 4, 2) := by decide +kernel
theorem dX1_cellsToCall_54 : decode cX1_cellsToCall 54 = .ok (.iload 4, 2) := by decide +kernel
theorem dX1_cellsToCall_56 : decode cX1_cellsToCall 56 = .ok (.aload_n 1, 1) := by decide +kernel
theorem dX1_cellsToCall_57 : decode cX1_cellsToCall 57 = .ok (.getfield 21, 3) := by decide +kernel
theorem dX1_cellsToCall_60 : decode cX1_cellsToCall 60 = .ok (.getfield 34, 3) := by decide +kernel
theorem dX1_cellsToCall_63 : decode cX1_cellsToCall 63 = .ok (.if_icmp .ge 22, 3) := by decide +kernel
theorem dX1_cellsToCall_66 : decode cX1_cellsToCall 66 = .ok (.aload_n 0, 1) := by decide +kernel
theorem dX1_cellsToCall_67 : decode cX1_cellsToCall 67 = .ok (.iload 4, 2) := by decide +kernel
theorem dX1_cellsToCall_69 : decode cX1_cellsToCall 69 = .ok (.aload_n 0, 1) := by decide +kernel
theorem dX1_cellsToCall_70 : decode cX1_cellsToCall 70 = .ok (.aload_n 1, 1) := by decide +kernel
theorem dX1_cellsToCall_71 : decode cX1_cellsToCall 71 = .ok (.iload 4, 2) := by decide +kernel
theorem dX1_cellsToCall_73 : decode cX1_cellsToCall 73 = .ok (.invokevirtual 37, 3) := by decide +kernel
theorem dX1_cellsToCall_76 : decode cX1_cellsToCall 76 = .ok (.invokevirtual 41, 3) := by decide +kernel
theorem dX1_cellsToCall_79 : decode cX1_cellsToCall 79 = .ok (.iinc 4 1, 3) := by decide +kernel
theorem dX1_cellsToCall_82 : decode cX1_cellsToCall 82 = .ok (.goto (-28), 3) := by decide +kernel
theorem dX1_cellsToCall_85 : decode cX1_cellsToCall 85 = .ok (.aload_n 0, 1) := by decide +kernel
theorem dX1_cellsToCall_86 : decode cX1_cellsToCall 86 = .ok (.getfield 11, 3) := by decide +kernel
theorem dX1_cellsToCall_89 : decode cX1_cellsToCall 89 = .ok (.iload_n 3, 1) := by decide +kernel
theorem dX1_cellsToCall_90 : decode cX1_cellsToCall 90 = .ok (.iaload, 1) := by decide +kernel
theorem dX1_cellsToCall_91 : decode cX1_cellsToCall 91 = .ok (.ldc 45, 2) := by decide +kernel
theorem dX1_cellsToCall_93 : decode cX1_cellsToCall 93 = .ok (.iand, 1) := by decide +kernel
theorem dX1_cellsToCall_94 : decode cX1_cellsToCall 94 = .ok (.ireturn, 1) := by decide +kernel
theorem dX1_addCell_0 : decode cX1_addCell 0 = .ok (.iconst 0, 1) := by decide +kernel
theorem dX1_addCell_1 : decode cX1_addCell 1 = .ok (.istore_n 3, 1) := by decide +kernel
theorem dX1_addCell_2 : decode cX1_addCell 2 = .ok (.iload_n 3, 1) := by decide +kernel
theorem dX1_addCell_3 : decode cX1_addCell 3 = .ok (.bipush 32, 2) := by decide +kernel
theorem dX1_addCell_5 : decode cX1_addCell 5 = .ok (.if_icmp .ge 55, 3) := by decide +kernel
theorem dX1_addCell_8 : decode cX1_addCell 8 = .ok (.aload_n 0, 1) := by decide +kernel
theorem dX1_addCell_9 : decode cX1_addCell 9 = .ok (.getfield 11, 3) := by decide +kernel
theorem dX1_addCell_12 : decode cX1_addCell 12 = .ok (.iload_n 3, 1) := by decide +kernel
theorem dX1_addCell_13 : decode cX1_addCell 13 = .ok (.iaload, 1) := by decide +kernel
theorem dX1_addCell_14 : decode cX1_addCell 14 = .ok (.ldc 33, 2) := by decide +kernel
theorem dX1_addCell_16 : decode cX1_addCell 16 = .ok (.if_icmp .eq 38, 3) := by decide +kernel
theorem dX1_addCell_19 : decode cX1_addCell 19 = .ok (.iload_n 3, 1) := by decide +kernel
theorem dX1_addCell_20 : decode cX1_addCell 20 = .ok (.iload_n 2, 1) := by decide +kernel
theorem dX1_addCell_21 : decode cX1_addCell 21 = .ok (.ior, 1) := by decide +kernel
theorem dX1_addCell_22 : decode cX1_addCell 22 = .ok (.istore 4, 2) := by decide +kernel
theorem dX1_addCell_24 : decode cX1_addCell 24 = .ok (.aload_n 0, 1) := by decide +kernel
theorem dX1_addCell_25 : decode cX1_addCell 25 = .ok (.getfield 11, 3) := by decide +kernel
theorem dX1_addCell_28 : decode cX1_addCell 28 = .ok (.iload 4, 2) := by decide +kernel
theorem dX1_addCell_30 : decode cX1_addCell 30 = .ok (.aload_n 0, 1) := by decide +kernel
theorem dX1_addCell_31 : decode cX1_addCell 31 = .ok (.getfield 11, 3) := by decide +kernel
theorem dX1_addCell_34 : decode cX1_addCell 34 = .ok (.iload 4, 2) := by decide +kernel
theorem dX1_addCell_36 : decode cX1_addCell 36 = .ok (.iaload, 1) := by decide +kernel
theorem dX1_addCell_37 : decode cX1_addCell 37 = .ok (.aload_n 0, 1) := by decide +kernel
theorem dX1_addCell_38 : decode cX1_addCell 38 = .ok (.getfield 11, 3) := by decide +kernel
theorem dX1_addCell_41 : decode cX1_addCell 41 = .ok (.iload_n 3, 1) := by decide +kernel
theorem dX1_addCell_42 : decode cX1_addCell 42 = .ok (.iaload, 1) := by decide +kernel
theorem dX1_addCell_43 : decode cX1_addCell 43 = .ok (.ldc 46, 2) := by decide +kernel
theorem dX1_addCell_45 : decode cX1_addCell 45 = .ok (.iadd, 1) := by decide +kernel
theorem dX1_addCell_46 : decode cX1_addCell 46 = .ok (.iconst 1, 1) := by decide +kernel
theorem dX1_addCell_47 : decode cX1_addCell 47 = .ok (.iload_n 1, 1) := by decide +kernel
theorem dX1_addCell_48 : decode cX1_addCell 48 = .ok (.ishl, 1) := by decide +kernel
theorem dX1_addCell_49 : decode cX1_addCell 49 = .ok (.iadd, 1) := by decide +kernel
theorem dX1_addCell_50 : decode cX1_addCell 50 = .ok (.invokestatic 47, 3) := by decide +kernel
theorem dX1_addCell_53 : decode cX1_addCell 53 = .ok (.iastore, 1) := by decide +kernel
theorem dX1_addCell_54 : decode cX1_addCell 54 = .ok (.iinc 3 1, 3) := by decide +kernel
theorem dX1_addCell_57 : decode cX1_addCell 57 = .ok (.goto (-55), 3) := by decide +kernel
theorem dX1_addCell_60 : decode cX1_addCell 60 = .ok (.return_, 1) := by decide +kernel
theorem dX1_hearers_0 : decode cX1_hearers 0 = .ok (.iconst 0, 1) := by decide +kernel
theorem dX1_hearers_1 : decode cX1_hearers 1 = .ok (.istore_n 3, 1) := by decide +kernel
theorem dX1_hearers_2 : decode cX1_hearers 2 = .ok (.iconst 0, 1) := by decide +kernel
theorem dX1_hearers_3 : decode cX1_hearers 3 = .ok (.istore 4, 2) := by decide +kernel
theorem dX1_hearers_5 : decode cX1_hearers 5 = .ok (.iload 4, 2) := by decide +kernel
theorem dX1_hearers_7 : decode cX1_hearers 7 = .ok (.aload_n 1, 1) := by decide +kernel
theorem dX1_hearers_8 : decode cX1_hearers 8 = .ok (.getfield 21, 3) := by decide +kernel
theorem dX1_hearers_11 : decode cX1_hearers 11 = .ok (.getfield 25, 3) := by decide +kernel
theorem dX1_hearers_14 : decode cX1_hearers 14 = .ok (.if_icmp .ge 26, 3) := by decide +kernel
theorem dX1_hearers_17 : decode cX1_hearers 17 = .ok (.aload_n 1, 1) := by decide +kernel
theorem dX1_hearers_18 : decode cX1_hearers 18 = .ok (.iload 4, 2) := by decide +kernel
theorem dX1_hearers_20 : decode cX1_hearers 20 = .ok (.iload_n 2, 1) := by decide +kernel
theorem dX1_hearers_21 : decode cX1_hearers 21 = .ok (.invokevirtual 53, 3) := by decide +kernel
theorem dX1_hearers_24 : decode cX1_hearers 24 = .ok (.ifCond .eq 10, 3) := by decide +kernel
theorem dX1_hearers_27 : decode cX1_hearers 27 = .ok (.iload_n 3, 1) := by decide +kernel
theorem dX1_hearers_28 : decode cX1_hearers 28 = .ok (.iconst 1, 1) := by decide +kernel
theorem dX1_hearers_29 : decode cX1_hearers 29 = .ok (.iload 4, 2) := by decide +kernel
theorem dX1_hearers_31 : decode cX1_hearers 31 = .ok (.ishl, 1) := by decide +kernel
theorem dX1_hearers_32 : decode cX1_hearers 32 = .ok (.ior, 1) := by decide +kernel
theorem dX1_hearers_33 : decode cX1_hearers 33 = .ok (.istore_n 3, 1) := by decide +kernel
theorem dX1_hearers_34 : decode cX1_hearers 34 = .ok (.iinc 4 1, 3) := by decide +kernel
theorem dX1_hearers_37 : decode cX1_hearers 37 = .ok (.goto (-32), 3) := by decide +kernel
theorem dX1_hearers_40 : decode cX1_hearers 40 = .ok (.iload_n 3, 1) := by decide +kernel
theorem dX1_hearers_41 : decode cX1_hearers 41 = .ok (.ireturn, 1) := by decide +kernel
theorem dX2_init_0 : decode cX2_init 0 = .ok (.aload_n 0, 1) := by decide +kernel
theorem dX2_init_1 : decode cX2_init 1 = .ok (.invokespecial 3, 3) := by decide +kernel
theorem dX2_init_4 : decode cX2_init 4 = .ok (.aload_n 0, 1) := by decide +kernel
theorem dX2_init_5 : decode cX2_init 5 = .ok (.iconst 4, 1) := by decide +kernel
theorem dX2_init_6 : decode cX2_init 6 = .ok (.newarray .int, 2) := by decide +kernel
theorem dX2_init_8 : decode cX2_init 8 = .ok (.putfield 9, 3) := by decide +kernel
theorem dX2_init_11 : decode cX2_init 11 = .ok (.aload_n 0, 1) := by decide +kernel
theorem dX2_init_12 : decode cX2_init 12 = .ok (.iconst 4, 1) := by decide +kernel
theorem dX2_init_13 : decode cX2_init 13 = .ok (.newarray .int, 2) := by decide +kernel
theorem dX2_init_15 : decode cX2_init 15 = .ok (.putfield 15, 3) := by decide +kernel
theorem dX2_init_18 : decode cX2_init 18 = .ok (.return_, 1) := by decide +kernel
theorem dX2_lookAt_0 : decode cX2_lookAt 0 = .ok (.aload_n 1, 1) := by decide +kernel
theorem dX2_lookAt_1 : decode cX2_lookAt 1 = .ok (.getfield 18, 3) := by decide +kernel
theorem dX2_lookAt_4 : decode cX2_lookAt 4 = .ok (.iload_n 2, 1) := by decide +kernel
theorem dX2_lookAt_5 : decode cX2_lookAt 5 = .ok (.iaload, 1) := by decide +kernel
theorem dX2_lookAt_6 : decode cX2_lookAt 6 = .ok (.istore_n 3, 1) := by decide +kernel
theorem dX2_lookAt_7 : decode cX2_lookAt 7 = .ok (.iconst 0, 1) := by decide +kernel
theorem dX2_lookAt_8 : decode cX2_lookAt 8 = .ok (.istore 4, 2) := by decide +kernel
theorem dX2_lookAt_10 : decode cX2_lookAt 10 = .ok (.iload 4, 2) := by decide +kernel
theorem dX2_lookAt_12 : decode cX2_lookAt 12 = .ok (.iconst 4, 1) := by decide +kernel
theorem dX2_lookAt_13 : decode cX2_lookAt 13 = .ok (.if_icmp .ge 79, 3) := by decide +kernel
theorem dX2_lookAt_16 : decode cX2_lookAt 16 = .ok (.aload_n 1, 1) := by decide +kernel
theorem dX2_lookAt_17 : decode cX2_lookAt 17 = .ok (.iload_n 2, 1) := by decide +kernel
theorem dX2_lookAt_18 : decode cX2_lookAt 18 = .ok (.iload_n 3, 1) := by decide +kernel
theorem dX2_lookAt_19 : decode cX2_lookAt 19 = .ok (.iload 4, 2) := by decide +kernel
theorem dX2_lookAt_21 : decode cX2_lookAt 21 = .ok (.invokevirtual 23, 3) := by decide +kernel
theorem dX2_lookAt_24 : decode cX2_lookAt 24 = .ok (.istore 5, 2) := by decide +kernel
theorem dX2_lookAt_26 : decode cX2_lookAt 26 = .ok (.iload 5, 2) := by decide +kernel
theorem dX2_lookAt_28 : decode cX2_lookAt 28 = .ok (.iconst (-1), 1) := by decide +kernel
theorem dX2_lookAt_29 : decode cX2_lookAt 29 = .ok (.if_icmp .ne 7, 3) := by decide +kernel
theorem dX2_lookAt_32 : decode cX2_lookAt 32 = .ok (.iload_n 3, 1) := by decide +kernel
theorem dX2_lookAt_33 : decode cX2_lookAt 33 = .ok (.goto 5, 3) := by decide +kernel
theorem dX2_lookAt_36 : decode cX2_lookAt 36 = .ok (.iload 5, 2) := by decide +kernel
theorem dX2_lookAt_38 : decode cX2_lookAt 38 = .ok (.invokestatic 27, 3) := by decide +kernel
theorem dX2_lookAt_41 : decode cX2_lookAt 41 = .ok (.istore 6, 2) := by decide +kernel
theorem dX2_lookAt_43 : decode cX2_lookAt 43 = .ok (.aload_n 0, 1) := by decide +kernel
theorem dX2_lookAt_44 : decode cX2_lookAt 44 = .ok (.getfield 9, 3) := by decide +kernel
theorem dX2_lookAt_47 : decode cX2_lookAt 47 = .ok (.iload 4, 2) := by decide +kernel
theorem dX2_lookAt_49 : decode cX2_lookAt 49 = .ok (.iload 6, 2) := by decide +kernel
theorem dX2_lookAt_51 : decode cX2_lookAt 51 = .ok (.iastore, 1) := by decide +kernel
theorem dX2_lookAt_52 : decode cX2_lookAt 52 = .ok (.aload_n 0, 1) := by decide +kernel
theorem dX2_lookAt_53 : decode cX2_lookAt 53 = .ok (.getfield 15, 3) := by decide +kernel
theorem dX2_lookAt_56 : decode cX2_lookAt 56 = .ok (.iload 4, 2) := by decide +kernel
theorem dX2_lookAt_58 : decode cX2_lookAt 58 = .ok (.iload 5, 2) := by decide +kernel
theorem dX2_lookAt_60 : decode cX2_lookAt 60 = .ok (.iconst (-1), 1) := by decide +kernel
theorem dX2_lookAt_61 : decode cX2_lookAt 61 = .ok (.if_icmp .ne 7, 3) := by decide +kernel
theorem dX2_lookAt_64 : decode cX2_lookAt 64 = .ok (.iconst 0, 1) := by decide +kernel
theorem dX2_lookAt_65 : decode cX2_lookAt 65 = .ok (.goto 4, 3) := by decide +kernel
theorem dX2_lookAt_68 : decode cX2_lookAt 68 = .ok (.iconst 1, 1) := by decide +kernel
theorem dX2_lookAt_69 : decode cX2_lookAt 69 = .ok (.aload_n 1, 1) := by decide +kernel
theorem dX2_lookAt_70 : decode cX2_lookAt 70 = .ok (.iload 6, 2) := by decide +kernel
theorem dX2_lookAt_72 : decode cX2_lookAt 72 = .ok (.invokevirtual 31, 3) := by decide +kernel
theorem dX2_lookAt_75 : decode cX2_lookAt 75 = .ok (.iconst 3, 1) := by decide +kernel
theorem dX2_lookAt_76 : decode cX2_lookAt 76 = .ok (.if_icmp .ne 7, 3) := by decide +kernel
theorem dX2_lookAt_79 : decode cX2_lookAt 79 = .ok (.iconst 1, 1) := by decide +kernel
theorem dX2_lookAt_80 : decode cX2_lookAt 80 = .ok (.goto 4, 3) := by decide +kernel
theorem dX2_lookAt_83 : decode cX2_lookAt 83 = .ok (.iconst 0, 1) := by decide +kernel
theorem dX2_lookAt_84 : decode cX2_lookAt 84 = .ok (.iadd, 1) := by decide +kernel
theorem dX2_lookAt_85 : decode cX2_lookAt 85 = .ok (.iastore, 1) := by decide +kernel
theorem dX2_lookAt_86 : decode cX2_lookAt 86 = .ok (.iinc 4 1, 3) := by decide +kernel
theorem dX2_lookAt_89 : decode cX2_lookAt 89 = .ok (.goto (-79), 3) := by decide +kernel
theorem dX2_lookAt_92 : decode cX2_lookAt 92 = .ok (.return_, 1) := by decide +kernel
theorem dX2_worth_0 : decode cX2_worth 0 = .ok (.aload_n 0, 1) := by decide +kernel
theorem dX2_worth_1 : decode cX2_worth 1 = .ok (.getfield 15, 3) := by decide +kernel
theorem dX2_worth_4 : decode cX2_worth 4 = .ok (.iload_n 1, 1) := by decide +kernel
theorem dX2_worth_5 : decode cX2_worth 5 = .ok (.iaload, 1) := by decide +kernel
theorem dX2_worth_6 : decode cX2_worth 6 = .ok (.aload_n 0, 1) := by decide +kernel
theorem dX2_worth_7 : decode cX2_worth 7 = .ok (.getfield 9, 3) := by decide +kernel
theorem dX2_worth_10 : decode cX2_worth 10 = .ok (.iload_n 1, 1) := by decide +kernel
theorem dX2_worth_11 : decode cX2_worth 11 = .ok (.iaload, 1) := by decide +kernel
theorem dX2_worth_12 : decode cX2_worth 12 = .ok (.aload_n 2, 1) := by decide +kernel
theorem dX2_worth_13 : decode cX2_worth 13 = .ok (.getfield 9, 3) := by decide +kernel
theorem dX2_worth_16 : decode cX2_worth 16 = .ok (.iload_n 3, 1) := by decide +kernel
theorem dX2_worth_17 : decode cX2_worth 17 = .ok (.iaload, 1) := by decide +kernel
theorem dX2_worth_18 : decode cX2_worth 18 = .ok (.if_icmp .ne 7, 3) := by decide +kernel
theorem dX2_worth_21 : decode cX2_worth 21 = .ok (.iconst 3, 1) := by decide +kernel
theorem dX2_worth_22 : decode cX2_worth 22 = .ok (.goto 4, 3) := by decide +kernel
theorem dX2_worth_25 : decode cX2_worth 25 = .ok (.iconst 0, 1) := by decide +kernel
theorem dX2_worth_26 : decode cX2_worth 26 = .ok (.iadd, 1) := by decide +kernel
theorem dX2_worth_27 : decode cX2_worth 27 = .ok (.ireturn, 1) := by decide +kernel
theorem dX3_init_0 : decode cX3_init 0 = .ok (.aload_n 0, 1) := by decide +kernel
theorem dX3_init_1 : decode cX3_init 1 = .ok (.invokespecial 3, 3) := by decide +kernel
theorem dX3_init_4 : decode cX3_init 4 = .ok (.aload_n 0, 1) := by decide +kernel
theorem dX3_init_5 : decode cX3_init 5 = .ok (.iconst 2, 1) := by decide +kernel
theorem dX3_init_6 : decode cX3_init 6 = .ok (.putfield 9, 3) := by decide +kernel
theorem dX3_init_9 : decode cX3_init 9 = .ok (.aload_n 0, 1) := by decide +kernel
theorem dX3_init_10 : decode cX3_init 10 = .ok (.iconst 2, 1) := by decide +kernel
theorem dX3_init_11 : decode cX3_init 11 = .ok (.putfield 15, 3) := by decide +kernel
theorem dX3_init_14 : decode cX3_init 14 = .ok (.aload_n 0, 1) := by decide +kernel
theorem dX3_init_15 : decode cX3_init 15 = .ok (.bipush 20, 2) := by decide +kernel
theorem dX3_init_17 : decode cX3_init 17 = .ok (.newarray .int, 2) := by decide +kernel
theorem dX3_init_19 : decode cX3_init 19 = .ok (.putfield 18, 3) := by decide +kernel
theorem dX3_init_22 : decode cX3_init 22 = .ok (.aload_n 0, 1) := by decide +kernel
theorem dX3_init_23 : decode cX3_init 23 = .ok (.iconst 5, 1) := by decide +kernel
theorem dX3_init_24 : decode cX3_init 24 = .ok (.newarray .int, 2) := by decide +kernel
theorem dX3_init_26 : decode cX3_init 26 = .ok (.putfield 22, 3) := by decide +kernel
theorem dX3_init_29 : decode cX3_init 29 = .ok (.aload_n 0, 1) := by decide +kernel
theorem dX3_init_30 : decode cX3_init 30 = .ok (.iconst 5, 1) := by decide +kernel
theorem dX3_init_31 : decode cX3_init 31 = .ok (.newarray .int, 2) := by decide +kernel
theorem dX3_init_33 : decode cX3_init 33 = .ok (.putfield 25, 3) := by decide +kernel
theorem dX3_init_36 : decode cX3_init 36 = .ok (.aload_n 0, 1) := by decide +kernel
theorem dX3_init_37 : decode cX3_init 37 = .ok (.bipush 80, 2) := by decide +kernel
theorem dX3_init_39 : decode cX3_init 39 = .ok (.newarray .int, 2) := by decide +kernel
theorem dX3_init_41 : decode cX3_init 41 = .ok (.putfield 28, 3) := by decide +kernel
theorem dX3_init_44 : decode cX3_init 44 = .ok (.aload_n 0, 1) := by decide +kernel
theorem dX3_init_45 : decode cX3_init 45 = .ok (.bipush 80, 2) := by decide +kernel
theorem dX3_init_47 : decode cX3_init 47 = .ok (.newarray .int, 2) := by decide +kernel
theorem dX3_init_49 : decode cX3_init 49 = .ok (.putfield 31, 3) := by decide +kernel
theorem dX3_init_52 : decode cX3_init 52 = .ok (.aload_n 0, 1) := by decide +kernel
theorem dX3_init_53 : decode cX3_init 53 = .ok (.bipush 80, 2) := by decide +kernel
theorem dX3_init_55 : decode cX3_init 55 = .ok (.newarray .int, 2) := by decide +kernel
theorem dX3_init_57 : decode cX3_init 57 = .ok (.putfield 34, 3) := by decide +kernel
theorem dX3_init_60 : decode cX3_init 60 = .ok (.aload_n 0, 1) := by decide +kernel
theorem dX3_init_61 : decode cX3_init 61 = .ok (.invokevirtual 37, 3) := by decide +kernel
theorem dX3_init_64 : decode cX3_init 64 = .ok (.return_, 1) := by decide +kernel
theorem dX3_readFrom_0 : decode cX3_readFrom 0 = .ok (.aload_n 0, 1) := by decide +kernel
theorem dX3_readFrom_1 : decode cX3_readFrom 1 = .ok (.aload_n 1, 1) := by decide +kernel
theorem dX3_readFrom_2 : decode cX3_readFrom 2 = .ok (.iconst 1, 1) := by decide +kernel
theorem dX3_readFrom_3 : decode cX3_readFrom 3 = .ok (.invokevirtual 40, 3) := by decide +kernel
theorem dX3_readFrom_6 : decode cX3_readFrom 6 = .ok (.putfield 9, 3) := by decide +kernel
theorem dX3_readFrom_9 : decode cX3_readFrom 9 = .ok (.aload_n 0, 1) := by decide +kernel
theorem dX3_readFrom_10 : decode cX3_readFrom 10 = .ok (.aload_n 1, 1) := by decide +kernel
theorem dX3_readFrom_11 : decode cX3_readFrom 11 = .ok (.iconst 2, 1) := by decide +kernel
theorem dX3_readFrom_12 : decode cX3_readFrom 12 = .ok (.invokevirtual 40, 3) := by decide +kernel
theorem dX3_readFrom_15 : decode cX3_readFrom 15 = .ok (.putfield 15, 3) := by decide +kernel
theorem dX3_readFrom_18 : decode cX3_readFrom 18 = .ok (.aload_n 0, 1) := by decide +kernel
theorem dX3_readFrom_19 : decode cX3_readFrom 19 = .ok (.aload_n 1, 1) := by decide +kernel
theorem dX3_readFrom_20 : decode cX3_readFrom 20 = .ok (.iconst 3, 1) := by decide +kernel
theorem dX3_readFrom_21 : decode cX3_readFrom 21 = .ok (.invokevirtual 40, 3) := by decide +kernel
theorem dX3_readFrom_24 : decode cX3_readFrom 24 = .ok (.putfield 46, 3) := by decide +kernel
theorem dX3_readFrom_27 : decode cX3_readFrom 27 = .ok (.aload_n 0, 1) := by decide +kernel
theorem dX3_readFrom_28 : decode cX3_readFrom 28 = .ok (.aload_n 1, 1) := by decide +kernel
theorem dX3_readFrom_29 : decode cX3_readFrom 29 = .ok (.invokevirtual 49, 3) := by decide +kernel
theorem dX3_readFrom_32 : decode cX3_readFrom 32 = .ok (.iconst 5, 1) := by decide +kernel
theorem dX3_readFrom_33 : decode cX3_readFrom 33 = .ok (.invokestatic 53, 3) := by decide +kernel
theorem dX3_readFrom_36 : decode cX3_readFrom 36 = .ok (.putfield 59, 3) := by decide +kernel
theorem dX3_readFrom_39 : decode cX3_readFrom 39 = .ok (.aload_n 0, 1) := by decide +kernel
theorem dX3_readFrom_40 : decode cX3_readFrom 40 = .ok (.invokevirtual 37, 3) := by decide +kernel
theorem dX3_readFrom_43 : decode cX3_readFrom 43 = .ok (.iconst 0, 1) := by decide +kernel
theorem dX3_readFrom_44 : decode cX3_readFrom 44 = .ok (.istore_n 2, 1) := by decide +kernel
theorem dX3_readFrom_45 : decode cX3_readFrom 45 = .ok (.iload_n 2, 1) := by decide +kernel
theorem dX3_readFrom_46 : decode cX3_readFrom 46 = .ok (.aload_n 0, 1) := by decide +kernel
theorem dX3_readFrom_47 : decode cX3_readFrom 47 = .ok (.getfield 61, 3) := by decide +kernel
theorem dX3_readFrom_50 : decode cX3_readFrom 50 = .ok (.if_icmp .ge 20, 3) := by decide +kernel
theorem dX3_readFrom_53 : decode cX3_readFrom 53 = .ok (.aload_n 0, 1) := by decide +kernel
theorem dX3_readFrom_54 : decode cX3_readFrom 54 = .ok (.getfield 18, 3) := by decide +kernel
theorem dX3_readFrom_57 : decode cX3_readFrom 57 = .ok (.iload_n 2, 1) := by decide +kernel
theorem dX3_readFrom_58 : decode cX3_readFrom 58 = .ok (.aload_n 1, 1) := by decide +kernel
theorem dX3_readFrom_59 : decode cX3_readFrom 59 = .ok (.iload_n 2, 1) := by decide +kernel
theorem dX3_readFrom_60 : decode cX3_readFrom 60 = .ok (.invokevirtual 64, 3) := by decide +kernel
theorem dX3_readFrom_63 : decode cX3_readFrom 63 = .ok (.iastore, 1) := by decide +kernel
theorem dX3_readFrom_64 : decode cX3_readFrom 64 = .ok (.iinc 2 1, 3) := by decide +kernel
theorem dX3_readFrom_67 : decode cX3_readFrom 67 = .ok (.goto (-22), 3) := by decide +kernel
theorem dX3_readFrom_70 : decode cX3_readFrom 70 = .ok (.iconst 0, 1) := by decide +kernel
theorem dX3_readFrom_71 : decode cX3_readFrom 71 = .ok (.istore_n 2, 1) := by decide +kernel
theorem dX3_readFrom_72 : decode cX3_readFrom 72 = .ok (.iload_n 2, 1) := by decide +kernel
theorem dX3_readFrom_73 : decode cX3_readFrom 73 = .ok (.aload_n 0, 1) := by decide +kernel
theorem dX3_readFrom_74 : decode cX3_readFrom 74 = .ok (.getfield 59, 3) := by decide +kernel
theorem dX3_readFrom_77 : decode cX3_readFrom 77 = .ok (.if_icmp .ge 31, 3) := by decide +kernel
theorem dX3_readFrom_80 : decode cX3_readFrom 80 = .ok (.aload_n 0, 1) := by decide +kernel
theorem dX3_readFrom_81 : decode cX3_readFrom 81 = .ok (.getfield 22, 3) := by decide +kernel
theorem dX3_readFrom_84 : decode cX3_readFrom 84 = .ok (.iload_n 2, 1) := by decide +kernel
theorem dX3_readFrom_85 : decode cX3_readFrom 85 = .ok (.aload_n 1, 1) := by decide +kernel
theorem dX3_readFrom_86 : decode cX3_readFrom 86 = .ok (.iload_n 2, 1) := by decide +kernel
theorem dX3_readFrom_87 : decode cX3_readFrom 87 = .ok (.invokevirtual 67, 3) := by decide +kernel
theorem dX3_readFrom_90 : decode cX3_readFrom 90 = .ok (.iastore, 1) := by decide +kernel
theorem dX3_readFrom_91 : decode cX3_readFrom 91 = .ok (.aload_n 0, 1) := by decide +kernel
theorem dX3_readFrom_92 : decode cX3_readFrom 92 = .ok (.getfield 25, 3) := by decide +kernel
theorem dX3_readFrom_95 : decode cX3_readFrom 95 = .ok (.iload_n 2, 1) := by decide +kernel
theorem dX3_readFrom_96 : decode cX3_readFrom 96 = .ok (.aload_n 1, 1) := by decide +kernel
theorem dX3_readFrom_97 : decode cX3_readFrom 97 = .ok (.iload_n 2, 1) := by decide +kernel
theorem dX3_readFrom_98 : decode cX3_readFrom 98 = .ok (.invokevirtual 70, 3) := by decide +kernel
theorem dX3_readFrom_101 : decode cX3_readFrom 101 = .ok (.iastore, 1) := by decide +kernel
theorem dX3_readFrom_102 : decode cX3_readFrom 102 = .ok (.iinc 2 1, 3) := by decide +kernel
theorem dX3_readFrom_105 : decode cX3_readFrom 105 = .ok (.goto (-33), 3) := by decide +kernel
theorem dX3_readFrom_108 : decode cX3_readFrom 108 = .ok (.return_, 1) := by decide +kernel
theorem dX3_layOut_0 : decode cX3_layOut 0 = .ok (.aload_n 0, 1) := by decide +kernel
theorem dX3_layOut_1 : decode cX3_layOut 1 = .ok (.aload_n 0, 1) := by decide +kernel
theorem dX3_layOut_2 : decode cX3_layOut 2 = .ok (.getfield 9, 3) := by decide +kernel
theorem dX3_layOut_5 : decode cX3_layOut 5 = .ok (.aload_n 0, 1) := by decide +kernel
theorem dX3_layOut_6 : decode cX3_layOut 6 = .ok (.getfield 15, 3) := by decide +kernel
theorem dX3_layOut_9 : decode cX3_layOut 9 = .ok (.imul, 1) := by decide +kernel
theorem dX3_layOut_10 : decode cX3_layOut 10 = .ok (.bipush 20, 2) := by decide +kernel
theorem dX3_layOut_12 : decode cX3_layOut 12 = .ok (.invokestatic 53, 3) := by decide +kernel
theorem dX3_layOut_15 : decode cX3_layOut 15 = .ok (.putfield 61, 3) := by decide +kernel
theorem dX3_layOut_18 : decode cX3_layOut 18 = .ok (.iconst 0, 1) := by decide +kernel
theorem dX3_layOut_19 : decode cX3_layOut 19 = .ok (.istore_n 1, 1) := by decide +kernel
theorem dX3_layOut_20 : decode cX3_layOut 20 = .ok (.iload_n 1, 1) := by decide +kernel
theorem dX3_layOut_21 : decode cX3_layOut 21 = .ok (.aload_n 0, 1) := by decide +kernel
theorem dX3_layOut_22 : decode cX3_layOut 22 = .ok (.getfield 15, 3) := by decide +kernel
theorem dX3_layOut_25 : decode cX3_layOut 25 = .ok (.if_icmp .ge 37, 3) := by decide +kernel
theorem dX3_layOut_28 : decode cX3_layOut 28 = .ok (.iconst 0, 1) := by decide +kernel
theorem dX3_layOut_29 : decode cX3_layOut 29 = .ok (.istore_n 2, 1) := by decide +kernel
theorem dX3_layOut_30 : decode cX3_layOut 30 = .ok (.iload_n 2, 1) := by decide +kernel
theorem dX3_layOut_31 : decode cX3_layOut 31 = .ok (.aload_n 0, 1) := by decide +kernel
theorem dX3_layOut_32 : decode cX3_layOut 32 = .ok (.getfield 9, 3) := by decide +kernel
theorem dX3_layOut_35 : decode cX3_layOut 35 = .ok (.if_icmp .ge 21, 3) := by decide +kernel
theorem dX3_layOut_38 : decode cX3_layOut 38 = .ok (.aload_n 0, 1) := by decide +kernel
theorem dX3_layOut_39 : decode cX3_layOut 39 = .ok (.iload_n 1, 1) := by decide +kernel
theorem dX3_layOut_40 : decode cX3_layOut 40 = .ok (.iload_n 2, 1) := by decide +kernel
theorem dX3_layOut_41 : decode cX3_layOut 41 = .ok (.invokevirtual 73, 3) := by decide +kernel
theorem dX3_layOut_44 : decode cX3_layOut 44 = .ok (.aload_n 0, 1) := by decide +kernel
theorem dX3_layOut_45 : decode cX3_layOut 45 = .ok (.iload_n 1, 1) := by decide +kernel
theorem dX3_layOut_46 : decode cX3_layOut 46 = .ok (.iload_n 2, 1) := by decide +kernel
theorem dX3_layOut_47 : decode cX3_layOut 47 = .ok (.invokevirtual 77, 3) := by decide +kernel
theorem dX3_layOut_50 : decode cX3_layOut 50 = .ok (.iinc 2 1, 3) := by decide +kernel
theorem dX3_layOut_53 : decode cX3_layOut 53 = .ok (.goto (-23), 3) := by decide +kernel
theorem dX3_layOut_56 : decode cX3_layOut 56 = .ok (.iinc 1 1, 3) := by decide +kernel
theorem dX3_layOut_59 : decode cX3_layOut 59 = .ok (.goto (-39), 3) := by decide +kernel
theorem dX3_layOut_62 : decode cX3_layOut 62 = .ok (.return_, 1) := by decide +kernel
theorem dX3_layRow_0 : decode cX3_layRow 0 = .ok (.iload_n 1, 1) := by decide +kernel
theorem dX3_layRow_1 : decode cX3_layRow 1 = .ok (.aload_n 0, 1) := by decide +kernel
theorem dX3_layRow_2 : decode cX3_layRow 2 = .ok (.getfield 9, 3) := by decide +kernel
theorem dX3_layRow_5 : decode cX3_layRow 5 = .ok (.imul, 1) := by decide +kernel
theorem dX3_layRow_6 : decode cX3_layRow 6 = .ok (.iload_n 2, 1) := by decide +kernel
theorem dX3_layRow_7 : decode cX3_layRow 7 = .ok (.iadd, 1) := by decide +kernel
theorem dX3_layRow_8 : decode cX3_layRow 8 = .ok (.istore_n 3, 1) := by decide +kernel
theorem dX3_layRow_9 : decode cX3_layRow 9 = .ok (.iload_n 2, 1) := by decide +kernel
theorem dX3_layRow_10 : decode cX3_layRow 10 = .ok (.ifCond .le 19, 3) := by decide +kernel
theorem dX3_layRow_13 : decode cX3_layRow 13 = .ok (.aload_n 0, 1) := by decide +kernel
theorem dX3_layRow_14 : decode cX3_layRow 14 = .ok (.iload_n 3, 1) := by decide +kernel
theorem dX3_layRow_15 : decode cX3_layRow 15 = .ok (.iconst 0, 1) := by decide +kernel
theorem dX3_layRow_16 : decode cX3_layRow 16 = .ok (.iload_n 3, 1) := by decide +kernel
theorem dX3_layRow_17 : decode cX3_layRow 17 = .ok (.iconst 1, 1) := by decide +kernel
theorem dX3_layRow_18 : decode cX3_layRow 18 = .ok (.isub, 1) := by decide +kernel
theorem dX3_layRow_19 : decode cX3_layRow 19 = .ok (.iload_n 3, 1) := by decide +kernel
theorem dX3_layRow_20 : decode cX3_layRow 20 = .ok (.iconst 1, 1) := by decide +kernel
theorem dX3_layRow_21 : decode cX3_layRow 21 = .ok (.isub, 1) := by decide +kernel
theorem dX3_layRow_22 : decode cX3_layRow 22 = .ok (.iconst 0, 1) := by decide +kernel
theorem dX3_layRow_23 : decode cX3_layRow 23 = .ok (.invokevirtual 80, 3) := by decide +kernel
theorem dX3_layRow_26 : decode cX3_layRow 26 = .ok (.goto 44, 3) := by decide +kernel
theorem dX3_layRow_29 : decode cX3_layRow 29 = .ok (.aload_n 0, 1) := by decide +kernel
theorem dX3_layRow_30 : decode cX3_layRow 30 = .ok (.iload_n 3, 1) := by decide +kernel
theorem dX3_layRow_31 : decode cX3_layRow 31 = .ok (.iconst 0, 1) := by decide +kernel
theorem dX3_layRow_32 : decode cX3_layRow 32 = .ok (.aload_n 0, 1) := by decide +kernel
theorem dX3_layRow_33 : decode cX3_layRow 33 = .ok (.iload_n 1, 1) := by decide +kernel
theorem dX3_layRow_34 : decode cX3_layRow 34 = .ok (.aload_n 0, 1) := by decide +kernel
theorem dX3_layRow_35 : decode cX3_layRow 35 = .ok (.getfield 15, 3) := by decide +kernel
theorem dX3_layRow_38 : decode cX3_layRow 38 = .ok (.aload_n 0, 1) := by decide +kernel
theorem dX3_layRow_39 : decode cX3_layRow 39 = .ok (.getfield 46, 3) := by decide +kernel
theorem dX3_layRow_42 : decode cX3_layRow 42 = .ok (.isub, 1) := by decide +kernel
theorem dX3_layRow_43 : decode cX3_layRow 43 = .ok (.invokevirtual 84, 3) := by decide +kernel
theorem dX3_layRow_46 : decode cX3_layRow 46 = .ok (.aload_n 0, 1) := by decide +kernel
theorem dX3_layRow_47 : decode cX3_layRow 47 = .ok (.getfield 9, 3) := by decide +kernel
theorem dX3_layRow_50 : decode cX3_layRow 50 = .ok (.imul, 1) := by decide +kernel
theorem dX3_layRow_51 : decode cX3_layRow 51 = .ok (.aload_n 0, 1) := by decide +kernel
theorem dX3_layRow_52 : decode cX3_layRow 52 = .ok (.getfield 9, 3) := by decide +kernel
theorem dX3_layRow_55 : decode cX3_layRow 55 = .ok (.iadd, 1) := by decide +kernel
theorem dX3_layRow_56 : decode cX3_layRow 56 = .ok (.iconst 1, 1) := by decide +kernel
theorem dX3_layRow_57 : decode cX3_layRow 57 = .ok (.isub, 1) := by decide +kernel
theorem dX3_layRow_58 : decode cX3_layRow 58 = .ok (.iload_n 3, 1) := by decide +kernel
theorem dX3_layRow_59 : decode cX3_layRow 59 = .ok (.aload_n 0, 1) := by decide +kernel
theorem dX3_layRow_60 : decode cX3_layRow 60 = .ok (.getfield 9, 3) := by decide +kernel
theorem dX3_layRow_63 : decode cX3_layRow 63 = .ok (.iadd, 1) := by decide +kernel
theorem dX3_layRow_64 : decode cX3_layRow 64 = .ok (.iconst 1, 1) := by decide +kernel
theorem dX3_layRow_65 : decode cX3_layRow 65 = .ok (.isub, 1) := by decide +kernel
theorem dX3_layRow_66 : decode cX3_layRow 66 = .ok (.iconst (-1), 1) := by decide +kernel
theorem dX3_layRow_67 : decode cX3_layRow 67 = .ok (.invokevirtual 80, 3) := by decide +kernel
theorem dX3_layRow_70 : decode cX3_layRow 70 = .ok (.iload_n 2, 1) := by decide +kernel
theorem dX3_layRow_71 : decode cX3_layRow 71 = .ok (.aload_n 0, 1) := by decide +kernel
theorem dX3_layRow_72 : decode cX3_layRow 72 = .ok (.getfield 9, 3) := by decide +kernel
theorem dX3_layRow_75 : decode cX3_layRow 75 = .ok (.iconst 1, 1) := by decide +kernel
theorem dX3_layRow_76 : decode cX3_layRow 76 = .ok (.isub, 1) := by decide +kernel
theorem dX3_layRow_77 : decode cX3_layRow 77 = .ok (.if_icmp .ge 19, 3) := by decide +kernel
theorem dX3_layRow_80 : decode cX3_layRow 80 = .ok (.aload_n 0, 1) := by decide +kernel
theorem dX3_layRow_81 : decode cX3_layRow 81 = .ok (.iload_n 3, 1) := by decide +kernel
theorem dX3_layRow_82 : decode cX3_layRow 82 = .ok (.iconst 1, 1) := by decide +kernel
theorem dX3_layRow_83 : decode cX3_layRow 83 = .ok (.iload_n 3, 1) := by decide +kernel
theorem dX3_layRow_84 : decode cX3_layRow 84 = .ok (.iconst 1, 1) := by decide +kernel
theorem dX3_layRow_85 : decode cX3_layRow 85 = .ok (.iadd, 1) := by decide +kernel
theorem dX3_layRow_86 : decode cX3_layRow 86 = .ok (.iload_n 3, 1) := by decide +kernel
theorem dX3_layRow_87 : decode cX3_layRow 87 = .ok (.iconst 1, 1) := by decide +kernel
theorem dX3_layRow_88 : decode cX3_layRow 88 = .ok (.iadd, 1) := by decide +kernel
theorem dX3_layRow_89 : decode cX3_layRow 89 = .ok (.iconst 0, 1) := by decide +kernel
theorem dX3_layRow_90 : decode cX3_layRow 90 = .ok (.invokevirtual 80, 3) := by decide +kernel
theorem dX3_layRow_93 : decode cX3_layRow 93 = .ok (.goto 30, 3) := by decide +kernel
theorem dX3_layRow_96 : decode cX3_layRow 96 = .ok (.aload_n 0, 1) := by decide +kernel
theorem dX3_layRow_97 : decode cX3_layRow 97 = .ok (.iload_n 3, 1) := by decide +kernel
theorem dX3_layRow_98 : decode cX3_layRow 98 = .ok (.iconst 1, 1) := by decide +kernel
theorem dX3_layRow_99 : decode cX3_layRow 99 = .ok (.aload_n 0, 1) := by decide +kernel
theorem dX3_layRow_100 : decode cX3_layRow 100 = .ok (.iload_n 1, 1) := by decide +kernel
theorem dX3_layRow_101 : decode cX3_layRow 101 = .ok (.aload_n 0, 1) := by decide +kernel
theorem dX3_layRow_102 : decode cX3_layRow 102 = .ok (.getfield 46, 3) := by decide +kernel
theorem dX3_layRow_105 : decode cX3_layRow 105 = .ok (.invokevirtual 84, 3) := by decide +kernel
theorem dX3_layRow_108 : decode cX3_layRow 108 = .ok (.aload_n 0, 1) := by decide +kernel
theorem dX3_layRow_109 : decode cX3_layRow 109 = .ok (.getfield 9, 3) := by decide +kernel
theorem dX3_layRow_112 : decode cX3_layRow 112 = .ok (.imul, 1) := by decide +kernel
theorem dX3_layRow_113 : decode cX3_layRow 113 = .ok (.iload_n 1, 1) := by decide +kernel
theorem dX3_layRow_114 : decode cX3_layRow 114 = .ok (.aload_n 0, 1) := by decide +kernel
theorem dX3_layRow_115 : decode cX3_layRow 115 = .ok (.getfield 9, 3) := by decide +kernel
theorem dX3_layRow_118 : decode cX3_layRow 118 = .ok (.imul, 1) := by decide +kernel
theorem dX3_layRow_119 : decode cX3_layRow 119 = .ok (.iconst 1, 1) := by decide +kernel
theorem dX3_layRow_120 : decode cX3_layRow 120 = .ok (.invokevirtual 80, 3) := by decide +kernel
theorem dX3_layRow_123 : decode cX3_layRow 123 = .ok (.return_, 1) := by decide +kernel
theorem dX3_layColumn_0 : decode cX3_layColumn 0 = .ok (.iload_n 1, 1) := by decide +kernel
theorem dX3_layColumn_1 : decode cX3_layColumn 1 = .ok (.aload_n 0, 1) := by decide +kernel
theorem dX3_layColumn_2 : decode cX3_layColumn 2 = .ok (.getfield 9, 3) := by decide +kernel
theorem dX3_layColumn_5 : decode cX3_layColumn 5 = .ok (.imul, 1) := by decide +kernel
theorem dX3_layColumn_6 : decode cX3_layColumn 6 = .ok (.iload_n 2, 1) := by decide +kernel
theorem dX3_layColumn_7 : decode cX3_layColumn 7 = .ok (.iadd, 1) := by decide +kernel
theorem dX3_layColumn_8 : decode cX3_layColumn 8 = .ok (.istore_n 3, 1) := by decide +kernel
theorem dX3_layColumn_9 : decode cX3_layColumn 9 = .ok (.aload_n 0, 1) := by decide +kernel
theorem dX3_layColumn_10 : decode cX3_layColumn 10 = .ok (.iload_n 1, 1) := by decide +kernel
theorem dX3_layColumn_11 : decode cX3_layColumn 11 = .ok (.aload_n 0, 1) := by decide +kernel
theorem dX3_layColumn_12 : decode cX3_layColumn 12 = .ok (.getfield 15, 3) := by decide +kernel
theorem dX3_layColumn_15 : decode cX3_layColumn 15 = .ok (.iconst 1, 1) := by decide +kernel
theorem dX3_layColumn_16 : decode cX3_layColumn 16 = .ok (.isub, 1) := by decide +kernel
theorem dX3_layColumn_17 : decode cX3_layColumn 17 = .ok (.invokevirtual 84, 3) := by decide +kernel
theorem dX3_layColumn_20 : decode cX3_layColumn 20 = .ok (.aload_n 0, 1) := by decide +kernel
theorem dX3_layColumn_21 : decode cX3_layColumn 21 = .ok (.getfield 9, 3) := by decide +kernel
theorem dX3_layColumn_24 : decode cX3_layColumn 24 = .ok (.imul, 1) := by decide +kernel
theorem dX3_layColumn_25 : decode cX3_layColumn 25 = .ok (.iload_n 2, 1) := by decide +kernel
theorem dX3_layColumn_26 : decode cX3_layColumn 26 = .ok (.iadd, 1) := by decide +kernel
theorem dX3_layColumn_27 : decode cX3_layColumn 27 = .ok (.istore 4, 2) := by decide +kernel
theorem dX3_layColumn_29 : decode cX3_layColumn 29 = .ok (.aload_n 0, 1) := by decide +kernel
theorem dX3_layColumn_30 : decode cX3_layColumn 30 = .ok (.iload_n 1, 1) := by decide +kernel
theorem dX3_layColumn_31 : decode cX3_layColumn 31 = .ok (.iconst 1, 1) := by decide +kernel
theorem dX3_layColumn_32 : decode cX3_layColumn 32 = .ok (.invokevirtual 84, 3) := by decide +kernel
theorem dX3_layColumn_35 : decode cX3_layColumn 35 = .ok (.aload_n 0, 1) := by decide +kernel
theorem dX3_layColumn_36 : decode cX3_layColumn 36 = .ok (.getfield 9, 3) := by decide +kernel
theorem dX3_layColumn_39 : decode cX3_layColumn 39 = .ok (.imul, 1) := by decide +kernel
theorem dX3_layColumn_40 : decode cX3_layColumn 40 = .ok (.iload_n 2, 1) := by decide +kernel
theorem dX3_layColumn_41 : decode cX3_layColumn 41 = .ok (.iadd, 1) := by decide +kernel
theorem dX3_layColumn_42 : decode cX3_layColumn 42 = .ok (.istore 5, 2) := by decide +kernel
theorem dX3_layColumn_44 : decode cX3_layColumn 44 = .ok (.aload_n 0, 1) := by decide +kernel
theorem dX3_layColumn_45 : decode cX3_layColumn 45 = .ok (.iload_n 3, 1) := by decide +kernel
theorem dX3_layColumn_46 : decode cX3_layColumn 46 = .ok (.iconst 2, 1) := by decide +kernel
theorem dX3_layColumn_47 : decode cX3_layColumn 47 = .ok (.iload 4, 2) := by decide +kernel
theorem dX3_layColumn_49 : decode cX3_layColumn 49 = .ok (.iload 4, 2) := by decide +kernel
theorem dX3_layColumn_51 : decode cX3_layColumn 51 = .ok (.iload_n 1, 1) := by decide +kernel
theorem dX3_layColumn_52 : decode cX3_layColumn 52 = .ok (.ifCond .ne 7, 3) := by decide +kernel
theorem dX3_layColumn_55 : decode cX3_layColumn 55 = .ok (.iconst (-1), 1) := by decide +kernel
theorem dX3_layColumn_56 : decode cX3_layColumn 56 = .ok (.goto 4, 3) := by decide +kernel
theorem dX3_layColumn_59 : decode cX3_layColumn 59 = .ok (.iconst 0, 1) := by decide +kernel
theorem dX3_layColumn_60 : decode cX3_layColumn 60 = .ok (.invokevirtual 80, 3) := by decide +kernel
theorem dX3_layColumn_63 : decode cX3_layColumn 63 = .ok (.aload_n 0, 1) := by decide +kernel
theorem dX3_layColumn_64 : decode cX3_layColumn 64 = .ok (.iload_n 3, 1) := by decide +kernel
theorem dX3_layColumn_65 : decode cX3_layColumn 65 = .ok (.iconst 3, 1) := by decide +kernel
theorem dX3_layColumn_66 : decode cX3_layColumn 66 = .ok (.iload 5, 2) := by decide +kernel
theorem dX3_layColumn_68 : decode cX3_layColumn 68 = .ok (.iload 5, 2) := by decide +kernel
theorem dX3_layColumn_70 : decode cX3_layColumn 70 = .ok (.iload_n 1, 1) := by decide +kernel
theorem dX3_layColumn_71 : decode cX3_layColumn 71 = .ok (.aload_n 0, 1) := by decide +kernel
theorem dX3_layColumn_72 : decode cX3_layColumn 72 = .ok (.getfield 15, 3) := by decide +kernel
theorem dX3_layColumn_75 : decode cX3_layColumn 75 = .ok (.iconst 1, 1) := by decide +kernel
theorem dX3_layColumn_76 : decode cX3_layColumn 76 = .ok (.isub, 1) := by decide +kernel
theorem dX3_layColumn_77 : decode cX3_layColumn 77 = .ok (.if_icmp .ne 7, 3) := by decide +kernel
theorem dX3_layColumn_80 : decode cX3_layColumn 80 = .ok (.iconst 1, 1) := by decide +kernel
theorem dX3_layColumn_81 : decode cX3_layColumn 81 = .ok (.goto 4, 3) := by decide +kernel
theorem dX3_layColumn_84 : decode cX3_layColumn 84 = .ok (.iconst 0, 1) := by decide +kernel
theorem dX3_layColumn_85 : decode cX3_layColumn 85 = .ok (.invokevirtual 80, 3) := by decide +kernel
theorem dX3_layColumn_88 : decode cX3_layColumn 88 = .ok (.return_, 1) := by decide +kernel
theorem dX3_lay_0 : decode cX3_lay 0 = .ok (.iload_n 1, 1) := by decide +kernel
theorem dX3_lay_1 : decode cX3_lay 1 = .ok (.iconst 4, 1) := by decide +kernel
theorem dX3_lay_2 : decode cX3_lay 2 = .ok (.imul, 1) := by decide +kernel
theorem dX3_lay_3 : decode cX3_lay 3 = .ok (.iload_n 2, 1) := by decide +kernel
theorem dX3_lay_4 : decode cX3_lay 4 = .ok (.iadd, 1) := by decide +kernel
theorem dX3_lay_5 : decode cX3_lay 5 = .ok (.istore 6, 2) := by decide +kernel
theorem dX3_lay_7 : decode cX3_lay 7 = .ok (.iload 6, 2) := by decide +kernel
theorem dX3_lay_9 : decode cX3_lay 9 = .ok (.ifCond .lt 10, 3) := by decide +kernel
theorem dX3_lay_12 : decode cX3_lay 12 = .ok (.iload 6, 2) := by decide +kernel
theorem dX3_lay_14 : decode cX3_lay 14 = .ok (.bipush 80, 2) := by decide +kernel
theorem dX3_lay_16 : decode cX3_lay 16 = .ok (.if_icmp .lt 4, 3) := by decide +kernel
theorem dX3_lay_19 : decode cX3_lay 19 = .ok (.return_, 1) := by decide +kernel
theorem dX3_lay_20 : decode cX3_lay 20 = .ok (.aload_n 0, 1) := by decide +kernel
theorem dX3_lay_21 : decode cX3_lay 21 = .ok (.getfield 28, 3) := by decide +kernel
theorem dX3_lay_24 : decode cX3_lay 24 = .ok (.iload 6, 2) := by decide +kernel
theorem dX3_lay_26 : decode cX3_lay 26 = .ok (.iload_n 3, 1) := by decide +kernel
theorem dX3_lay_27 : decode cX3_lay 27 = .ok (.iastore, 1) := by decide +kernel
theorem dX3_lay_28 : decode cX3_lay 28 = .ok (.aload_n 0, 1) := by decide +kernel
theorem dX3_lay_29 : decode cX3_lay 29 = .ok (.getfield 31, 3) := by decide +kernel
theorem dX3_lay_32 : decode cX3_lay 32 = .ok (.iload 6, 2) := by decide +kernel
theorem dX3_lay_34 : decode cX3_lay 34 = .ok (.iload 4, 2) := by decide +kernel
theorem dX3_lay_36 : decode cX3_lay 36 = .ok (.iastore, 1) := by decide +kernel
theorem dX3_lay_37 : decode cX3_lay 37 = .ok (.aload_n 0, 1) := by decide +kernel
theorem dX3_lay_38 : decode cX3_lay 38 = .ok (.getfield 34, 3) := by decide +kernel
theorem dX3_lay_41 : decode cX3_lay 41 = .ok (.iload 6, 2) := by decide +kernel
theorem dX3_lay_43 : decode cX3_lay 43 = .ok (.iload 5, 2) := by decide +kernel
theorem dX3_lay_45 : decode cX3_lay 45 = .ok (.iastore, 1) := by decide +kernel
theorem dX3_lay_46 : decode cX3_lay 46 = .ok (.return_, 1) := by decide +kernel
theorem dX3_rowOn_0 : decode cX3_rowOn 0 = .ok (.iload_n 1, 1) := by decide +kernel
theorem dX3_rowOn_1 : decode cX3_rowOn 1 = .ok (.iload_n 2, 1) := by decide +kernel
theorem dX3_rowOn_2 : decode cX3_rowOn 2 = .ok (.iadd, 1) := by decide +kernel
theorem dX3_rowOn_3 : decode cX3_rowOn 3 = .ok (.istore_n 3, 1) := by decide +kernel
theorem dX3_rowOn_4 : decode cX3_rowOn 4 = .ok (.iload_n 3, 1) := by decide +kernel
theorem dX3_rowOn_5 : decode cX3_rowOn 5 = .ok (.aload_n 0, 1) := by decide +kernel
theorem dX3_rowOn_6 : decode cX3_rowOn 6 = .ok (.getfield 15, 3) := by decide +kernel
theorem dX3_rowOn_9 : decode cX3_rowOn 9 = .ok (.if_icmp .lt 12, 3) := by decide +kernel
theorem dX3_rowOn_12 : decode cX3_rowOn 12 = .ok (.iload_n 3, 1) := by decide +kernel
theorem dX3_rowOn_13 : decode cX3_rowOn 13 = .ok (.aload_n 0, 1) := by decide +kernel
theorem dX3_rowOn_14 : decode cX3_rowOn 14 = .ok (.getfield 15, 3) := by decide +kernel
theorem dX3_rowOn_17 : decode cX3_rowOn 17 = .ok (.isub, 1) := by decide +kernel
theorem dX3_rowOn_18 : decode cX3_rowOn 18 = .ok (.goto 4, 3) := by decide +kernel
theorem dX3_rowOn_21 : decode cX3_rowOn 21 = .ok (.iload_n 3, 1) := by decide +kernel
theorem dX3_rowOn_22 : decode cX3_rowOn 22 = .ok (.ireturn, 1) := by decide +kernel
theorem dX3_hasCell_0 : decode cX3_hasCell 0 = .ok (.iload_n 1, 1) := by decide +kernel
theorem dX3_hasCell_1 : decode cX3_hasCell 1 = .ok (.ifCond .lt 15, 3) := by decide +kernel
theorem dX3_hasCell_4 : decode cX3_hasCell 4 = .ok (.iload_n 1, 1) := by decide +kernel
theorem dX3_hasCell_5 : decode cX3_hasCell 5 = .ok (.aload_n 0, 1) := by decide +kernel
theorem dX3_hasCell_6 : decode cX3_hasCell 6 = .ok (.getfield 61, 3) := by decide +kernel
theorem dX3_hasCell_9 : decode cX3_hasCell 9 = .ok (.if_icmp .ge 7, 3) := by decide +kernel
theorem dX3_hasCell_12 : decode cX3_hasCell 12 = .ok (.iconst 1, 1) := by decide +kernel
theorem dX3_hasCell_13 : decode cX3_hasCell 13 = .ok (.goto 4, 3) := by decide +kernel
theorem dX3_hasCell_16 : decode cX3_hasCell 16 = .ok (.iconst 0, 1) := by decide +kernel
theorem dX3_hasCell_17 : decode cX3_hasCell 17 = .ok (.ireturn, 1) := by decide +kernel
theorem dX3_hasBoy_0 : decode cX3_hasBoy 0 = .ok (.iload_n 1, 1) := by decide +kernel
theorem dX3_hasBoy_1 : decode cX3_hasBoy 1 = .ok (.ifCond .lt 15, 3) := by decide +kernel
theorem dX3_hasBoy_4 : decode cX3_hasBoy 4 = .ok (.iload_n 1, 1) := by decide +kernel
theorem dX3_hasBoy_5 : decode cX3_hasBoy 5 = .ok (.aload_n 0, 1) := by decide +kernel
theorem dX3_hasBoy_6 : decode cX3_hasBoy 6 = .ok (.getfield 59, 3) := by decide +kernel
theorem dX3_hasBoy_9 : decode cX3_hasBoy 9 = .ok (.if_icmp .ge 7, 3) := by decide +kernel
theorem dX3_hasBoy_12 : decode cX3_hasBoy 12 = .ok (.iconst 1, 1) := by decide +kernel
theorem dX3_hasBoy_13 : decode cX3_hasBoy 13 = .ok (.goto 4, 3) := by decide +kernel
theorem dX3_hasBoy_16 : decode cX3_hasBoy 16 = .ok (.iconst 0, 1) := by decide +kernel
theorem dX3_hasBoy_17 : decode cX3_hasBoy 17 = .ok (.ireturn, 1) := by decide +kernel
theorem dX3_goesStraight_0 : decode cX3_goesStraight 0 = .ok (.aload_n 0, 1) := by decide +kernel
theorem dX3_goesStraight_1 : decode cX3_goesStraight 1 = .ok (.getfield 25, 3) := by decide +kernel
theorem dX3_goesStraight_4 : decode cX3_goesStraight 4 = .ok (.iload_n 1, 1) := by decide +kernel
theorem dX3_goesStraight_5 : decode cX3_goesStraight 5 = .ok (.iaload, 1) := by decide +kernel
theorem dX3_goesStraight_6 : decode cX3_goesStraight 6 = .ok (.iconst 3, 1) := by decide +kernel
theorem dX3_goesStraight_7 : decode cX3_goesStraight 7 = .ok (.if_icmp .ne 7, 3) := by decide +kernel
theorem dX3_goesStraight_10 : decode cX3_goesStraight 10 = .ok (.iconst 1, 1) := by decide +kernel
theorem dX3_goesStraight_11 : decode cX3_goesStraight 11 = .ok (.goto 4, 3) := by decide +kernel
theorem dX3_goesStraight_14 : decode cX3_goesStraight 14 = .ok (.iconst 0, 1) := by decide +kernel
theorem dX3_goesStraight_15 : decode cX3_goesStraight 15 = .ok (.ireturn, 1) := by decide +kernel
theorem dX3_cellBeside_0 : decode cX3_cellBeside 0 = .ok (.iload_n 1, 1) := by decide +kernel
theorem dX3_cellBeside_1 : decode cX3_cellBeside 1 = .ok (.iconst 4, 1) := by decide +kernel
theorem dX3_cellBeside_2 : decode cX3_cellBeside 2 = .ok (.imul, 1) := by decide +kernel
theorem dX3_cellBeside_3 : decode cX3_cellBeside 3 = .ok (.iload_n 2, 1) := by decide +kernel
theorem dX3_cellBeside_4 : decode cX3_cellBeside 4 = .ok (.iadd, 1) := by decide +kernel
theorem dX3_cellBeside_5 : decode cX3_cellBeside 5 = .ok (.istore 4, 2) := by decide +kernel
theorem dX3_cellBeside_7 : decode cX3_cellBeside 7 = .ok (.iload_n 3, 1) := by decide +kernel
theorem dX3_cellBeside_8 : decode cX3_cellBeside 8 = .ok (.ifCond .eq 13, 3) := by decide +kernel
theorem dX3_cellBeside_11 : decode cX3_cellBeside 11 = .ok (.aload_n 0, 1) := by decide +kernel
theorem dX3_cellBeside_12 : decode cX3_cellBeside 12 = .ok (.getfield 31, 3) := by decide +kernel
theorem dX3_cellBeside_15 : decode cX3_cellBeside 15 = .ok (.iload 4, 2) := by decide +kernel
theorem dX3_cellBeside_17 : decode cX3_cellBeside 17 = .ok (.iaload, 1) := by decide +kernel
theorem dX3_cellBeside_18 : decode cX3_cellBeside 18 = .ok (.goto 10, 3) := by decide +kernel
theorem dX3_cellBeside_21 : decode cX3_cellBeside 21 = .ok (.aload_n 0, 1) := by decide +kernel
theorem dX3_cellBeside_22 : decode cX3_cellBeside 22 = .ok (.getfield 28, 3) := by decide +kernel
theorem dX3_cellBeside_25 : decode cX3_cellBeside 25 = .ok (.iload 4, 2) := by decide +kernel
theorem dX3_cellBeside_27 : decode cX3_cellBeside 27 = .ok (.iaload, 1) := by decide +kernel
theorem dX3_cellBeside_28 : decode cX3_cellBeside 28 = .ok (.ireturn, 1) := by decide +kernel
theorem dX3_placeBeside_0 : decode cX3_placeBeside 0 = .ok (.iload_n 1, 1) := by decide +kernel
theorem dX3_placeBeside_1 : decode cX3_placeBeside 1 = .ok (.invokestatic 87, 3) := by decide +kernel
theorem dX3_placeBeside_4 : decode cX3_placeBeside 4 = .ok (.istore 4, 2) := by decide +kernel
theorem dX3_placeBeside_6 : decode cX3_placeBeside 6 = .ok (.aload_n 0, 1) := by decide +kernel
theorem dX3_placeBeside_7 : decode cX3_placeBeside 7 = .ok (.getfield 34, 3) := by decide +kernel
theorem dX3_placeBeside_10 : decode cX3_placeBeside 10 = .ok (.iload 4, 2) := by decide +kernel
theorem dX3_placeBeside_12 : decode cX3_placeBeside 12 = .ok (.iconst 4, 1) := by decide +kernel
theorem dX3_placeBeside_13 : decode cX3_placeBeside 13 = .ok (.imul, 1) := by decide +kernel
theorem dX3_placeBeside_14 : decode cX3_placeBeside 14 = .ok (.iload_n 2, 1) := by decide +kernel
theorem dX3_placeBeside_15 : decode cX3_placeBeside 15 = .ok (.iadd, 1) := by decide +kernel
theorem dX3_placeBeside_16 : decode cX3_placeBeside 16 = .ok (.iaload, 1) := by decide +kernel
theorem dX3_placeBeside_17 : decode cX3_placeBeside 17 = .ok (.istore 5, 2) := by decide +kernel
theorem dX3_placeBeside_19 : decode cX3_placeBeside 19 = .ok (.iload_n 2, 1) := by decide +kernel
theorem dX3_placeBeside_20 : decode cX3_placeBeside 20 = .ok (.ifCond .eq 8, 3) := by decide +kernel
theorem dX3_placeBeside_23 : decode cX3_placeBeside 23 = .ok (.iload_n 2, 1) := by decide +kernel
theorem dX3_placeBeside_24 : decode cX3_placeBeside 24 = .ok (.iconst 1, 1) := by decide +kernel
theorem dX3_placeBeside_25 : decode cX3_placeBeside 25 = .ok (.if_icmp .ne 7, 3) := by decide +kernel
theorem dX3_placeBeside_28 : decode cX3_placeBeside 28 = .ok (.iconst 1, 1) := by decide +kernel
theorem dX3_placeBeside_29 : decode cX3_placeBeside 29 = .ok (.goto 4, 3) := by decide +kernel
theorem dX3_placeBeside_32 : decode cX3_placeBeside 32 = .ok (.iconst 0, 1) := by decide +kernel
theorem dX3_placeBeside_33 : decode cX3_placeBeside 33 = .ok (.istore 6, 2) := by decide +kernel
theorem dX3_placeBeside_35 : decode cX3_placeBeside 35 = .ok (.iload 6, 2) := by decide +kernel
theorem dX3_placeBeside_37 : decode cX3_placeBeside 37 = .ok (.ifCond .eq 10, 3) := by decide +kernel
theorem dX3_placeBeside_40 : decode cX3_placeBeside 40 = .ok (.iload_n 1, 1) := by decide +kernel
theorem dX3_placeBeside_41 : decode cX3_placeBeside 41 = .ok (.invokestatic 90, 3) := by decide +kernel
theorem dX3_placeBeside_44 : decode cX3_placeBeside 44 = .ok (.goto 7, 3) := by decide +kernel
theorem dX3_placeBeside_47 : decode cX3_placeBeside 47 = .ok (.iload_n 1, 1) := by decide +kernel
theorem dX3_placeBeside_48 : decode cX3_placeBeside 48 = .ok (.invokestatic 93, 3) := by decide +kernel
theorem dX3_placeBeside_51 : decode cX3_placeBeside 51 = .ok (.iload 5, 2) := by decide +kernel
theorem dX3_placeBeside_53 : decode cX3_placeBeside 53 = .ok (.iadd, 1) := by decide +kernel
theorem dX3_placeBeside_54 : decode cX3_placeBeside 54 = .ok (.istore 7, 2) := by decide +kernel
theorem dX3_placeBeside_56 : decode cX3_placeBeside 56 = .ok (.iload 7, 2) := by decide +kernel
theorem dX3_placeBeside_58 : decode cX3_placeBeside 58 = .ok (.ifCond .lt 10, 3) := by decide +kernel
theorem dX3_placeBeside_61 : decode cX3_placeBeside 61 = .ok (.iload 7, 2) := by decide +kernel
theorem dX3_placeBeside_63 : decode cX3_placeBeside 63 = .ok (.bipush 7, 2) := by decide +kernel
theorem dX3_placeBeside_65 : decode cX3_placeBeside 65 = .ok (.if_icmp .lt 5, 3) := by decide +kernel
theorem dX3_placeBeside_68 : decode cX3_placeBeside 68 = .ok (.iconst (-1), 1) := by decide +kernel
theorem dX3_placeBeside_69 : decode cX3_placeBeside 69 = .ok (.ireturn, 1) := by decide +kernel
theorem dX3_placeBeside_70 : decode cX3_placeBeside 70 = .ok (.iload_n 1, 1) := by decide +kernel
theorem dX3_placeBeside_71 : decode cX3_placeBeside 71 = .ok (.iload 5, 2) := by decide +kernel
theorem dX3_placeBeside_73 : decode cX3_placeBeside 73 = .ok (.iload 6, 2) := by decide +kernel
theorem dX3_placeBeside_75 : decode cX3_placeBeside 75 = .ok (.ifCond .eq 8, 3) := by decide +kernel
theorem dX3_placeBeside_78 : decode cX3_placeBeside 78 = .ok (.bipush 20, 2) := by decide +kernel
theorem dX3_placeBeside_80 : decode cX3_placeBeside 80 = .ok (.goto 6, 3) := by decide +kernel
theorem dX3_placeBeside_83 : decode cX3_placeBeside 83 = .ok (.sipush 140, 3) := by decide +kernel
theorem dX3_placeBeside_86 : decode cX3_placeBeside 86 = .ok (.imul, 1) := by decide +kernel
theorem dX3_placeBeside_87 : decode cX3_placeBeside 87 = .ok (.iadd, 1) := by decide +kernel
theorem dX3_placeBeside_88 : decode cX3_placeBeside 88 = .ok (.istore 8, 2) := by decide +kernel
theorem dX3_placeBeside_90 : decode cX3_placeBeside 90 = .ok (.iload 8, 2) := by decide +kernel
theorem dX3_placeBeside_92 : decode cX3_placeBeside 92 = .ok (.iload 4, 2) := by decide +kernel
theorem dX3_placeBeside_94 : decode cX3_placeBeside 94 = .ok (.isub, 1) := by decide +kernel
theorem dX3_placeBeside_95 : decode cX3_placeBeside 95 = .ok (.aload_n 0, 1) := by decide +kernel
theorem dX3_placeBeside_96 : decode cX3_placeBeside 96 = .ok (.iload 4, 2) := by decide +kernel
theorem dX3_placeBeside_98 : decode cX3_placeBeside 98 = .ok (.iload_n 2, 1) := by decide +kernel
theorem dX3_placeBeside_99 : decode cX3_placeBeside 99 = .ok (.iload_n 3, 1) := by decide +kernel
theorem dX3_placeBeside_100 : decode cX3_placeBeside 100 = .ok (.invokevirtual 96, 3) := by decide +kernel
theorem dX3_placeBeside_103 : decode cX3_placeBeside 103 = .ok (.iadd, 1) := by decide +kernel
theorem dX3_placeBeside_104 : decode cX3_placeBeside 104 = .ok (.ireturn, 1) := by decide +kernel
theorem dX4_init_0 : decode cX4_init 0 = .ok (.aload_n 0, 1) := by decide +kernel
theorem dX4_init_1 : decode cX4_init 1 = .ok (.invokespecial 3, 3) := by decide +kernel
theorem dX4_init_4 : decode cX4_init 4 = .ok (.aload_n 0, 1) := by decide +kernel
theorem dX4_init_5 : decode cX4_init 5 = .ok (.iconst 5, 1) := by decide +kernel
theorem dX4_init_6 : decode cX4_init 6 = .ok (.newarray .int, 2) := by decide +kernel
theorem dX4_init_8 : decode cX4_init 8 = .ok (.putfield 9, 3) := by decide +kernel
theorem dX4_init_11 : decode cX4_init 11 = .ok (.aload_n 0, 1) := by decide +kernel
theorem dX4_init_12 : decode cX4_init 12 = .ok (.aload_n 1, 1) := by decide +kernel
theorem dX4_init_13 : decode cX4_init 13 = .ok (.putfield 15, 3) := by decide +kernel
theorem dX4_init_16 : decode cX4_init 16 = .ok (.return_, 1) := by decide +kernel
theorem dX4_begin_0 : decode cX4_begin 0 = .ok (.aload_n 0, 1) := by decide +kernel
theorem dX4_begin_1 : decode cX4_begin 1 = .ok (.iconst 0, 1) := by decide +kernel
theorem dX4_begin_2 : decode cX4_begin 2 = .ok (.putfield 19, 3) := by decide +kernel
theorem dX4_begin_5 : decode cX4_begin 5 = .ok (.iconst 0, 1) := by decide +kernel
theorem dX4_begin_6 : decode cX4_begin 6 = .ok (.istore_n 1, 1) := by decide +kernel
theorem dX4_begin_7 : decode cX4_begin 7 = .ok (.iload_n 1, 1) := by decide +kernel
theorem dX4_begin_8 : decode cX4_begin 8 = .ok (.aload_n 0, 1) := by decide +kernel
theorem dX4_begin_9 : decode cX4_begin 9 = .ok (.getfield 15, 3) := by decide +kernel
theorem dX4_begin_12 : decode cX4_begin 12 = .ok (.getfield 23, 3) := by decide +kernel
theorem dX4_begin_15 : decode cX4_begin 15 = .ok (.if_icmp .ge 20, 3) := by decide +kernel
theorem dX4_begin_18 : decode cX4_begin 18 = .ok (.aload_n 0, 1) := by decide +kernel
theorem dX4_begin_19 : decode cX4_begin 19 = .ok (.getfield 9, 3) := by decide +kernel
theorem dX4_begin_22 : decode cX4_begin 22 = .ok (.iload_n 1, 1) := by decide +kernel
theorem dX4_begin_23 : decode cX4_begin 23 = .ok (.aload_n 0, 1) := by decide +kernel
theorem dX4_begin_24 : decode cX4_begin 24 = .ok (.iload_n 1, 1) := by decide +kernel
theorem dX4_begin_25 : decode cX4_begin 25 = .ok (.invokevirtual 28, 3) := by decide +kernel
theorem dX4_begin_28 : decode cX4_begin 28 = .ok (.iastore, 1) := by decide +kernel
theorem dX4_begin_29 : decode cX4_begin 29 = .ok (.iinc 1 1, 3) := by decide +kernel
theorem dX4_begin_32 : decode cX4_begin 32 = .ok (.goto (-25), 3) := by decide +kernel
theorem dX4_begin_35 : decode cX4_begin 35 = .ok (.return_, 1) := by decide +kernel
theorem dX4_become_0 : decode cX4_become 0 = .ok (.aload_n 0, 1) := by decide +kernel
theorem dX4_become_1 : decode cX4_become 1 = .ok (.aload_n 1, 1) := by decide +kernel
theorem dX4_become_2 : decode cX4_become 2 = .ok (.getfield 19, 3) := by decide +kernel
theorem dX4_become_5 : decode cX4_become 5 = .ok (.putfield 19, 3) := by decide +kernel
theorem dX4_become_8 : decode cX4_become 8 = .ok (.aload_n 1, 1) := by decide +kernel
theorem dX4_become_9 : decode cX4_become 9 = .ok (.getfield 9, 3) := by decide +kernel
theorem dX4_become_12 : decode cX4_become 12 = .ok (.iconst 0, 1) := by decide +kernel
theorem dX4_become_13 : decode cX4_become 13 = .ok (.aload_n 0, 1) := by decide +kernel
theorem dX4_become_14 : decode cX4_become 14 = .ok (.getfield 9, 3) := by decide +kernel
theorem dX4_become_17 : decode cX4_become 17 = .ok (.iconst 0, 1) := by decide +kernel
theorem dX4_become_18 : decode cX4_become 18 = .ok (.iconst 5, 1) := by decide +kernel
theorem dX4_become_19 : decode cX4_become 19 = .ok (.invokestatic 32, 3) := by decide +kernel
theorem dX4_become_22 : decode cX4_become 22 = .ok (.return_, 1) := by decide +kernel
theorem dX4_kindAt_0 : decode cX4_kindAt 0 = .ok (.aload_n 0, 1) := by decide +kernel
theorem dX4_kindAt_1 : decode cX4_kindAt 1 = .ok (.getfield 19, 3) := by decide +kernel
theorem dX4_kindAt_4 : decode cX4_kindAt 4 = .ok (.iload_n 1, 1) := by decide +kernel
theorem dX4_kindAt_5 : decode cX4_kindAt 5 = .ok (.ishr, 1) := by decide +kernel
theorem dX4_kindAt_6 : decode cX4_kindAt 6 = .ok (.iconst 1, 1) := by decide +kernel
theorem dX4_kindAt_7 : decode cX4_kindAt 7 = .ok (.iand, 1) := by decide +kernel
theorem dX4_kindAt_8 : decode cX4_kindAt 8 = .ok (.ifCond .eq 7, 3) := by decide +kernel
theorem dX4_kindAt_11 : decode cX4_kindAt 11 = .ok (.iconst 0, 1) := by decide +kernel
theorem dX4_kindAt_12 : decode cX4_kindAt 12 = .ok (.goto 12, 3) := by decide +kernel
theorem dX4_kindAt_15 : decode cX4_kindAt 15 = .ok (.aload_n 0, 1) := by decide +kernel
theorem dX4_kindAt_16 : decode cX4_kindAt 16 = .ok (.getfield 15, 3) := by decide +kernel
theorem dX4_kindAt_19 : decode cX4_kindAt 19 = .ok (.getfield 38, 3) := by decide +kernel
theorem dX4_kindAt_22 : decode cX4_kindAt 22 = .ok (.iload_n 1, 1) := by decide +kernel
theorem dX4_kindAt_23 : decode cX4_kindAt 23 = .ok (.iaload, 1) := by decide +kernel
theorem dX4_kindAt_24 : decode cX4_kindAt 24 = .ok (.ireturn, 1) := by decide +kernel
theorem dX4_cellsOfKind_0 : decode cX4_cellsOfKind 0 = .ok (.iconst 0, 1) := by decide +kernel
theorem dX4_cellsOfKind_1 : decode cX4_cellsOfKind 1 = .ok (.istore_n 2, 1) := by decide +kernel
theorem dX4_cellsOfKind_2 : decode cX4_cellsOfKind 2 = .ok (.iconst 0, 1) := by decide +kernel
theorem dX4_cellsOfKind_3 : decode cX4_cellsOfKind 3 = .ok (.istore_n 3, 1) := by decide +kernel
theorem dX4_cellsOfKind_4 : decode cX4_cellsOfKind 4 = .ok (.iload_n 3, 1) := by decide +kernel
theorem dX4_cellsOfKind_5 : decode cX4_cellsOfKind 5 = .ok (.aload_n 0, 1) := by decide +kernel
theorem dX4_cellsOfKind_6 : decode cX4_cellsOfKind 6 = .ok (.getfield 15, 3) := by decide +kernel
theorem dX4_cellsOfKind_9 : decode cX4_cellsOfKind 9 = .ok (.getfield 41, 3) := by decide +kernel
theorem dX4_cellsOfKind_12 : decode cX4_cellsOfKind 12 = .ok (.if_icmp .ge 24, 3) := by decide +kernel
theorem dX4_cellsOfKind_15 : decode cX4_cellsOfKind 15 = .ok (.aload_n 0, 1) := by decide +kernel
theorem dX4_cellsOfKind_16 : decode cX4_cellsOfKind 16 = .ok (.iload_n 3, 1) := by decide +kernel
theorem dX4_cellsOfKind_17 : decode cX4_cellsOfKind 17 = .ok (.invokevirtual 44, 3) := by decide +kernel
theorem dX4_cellsOfKind_20 : decode cX4_cellsOfKind 20 = .ok (.iload_n 1, 1) := by decide +kernel
theorem dX4_cellsOfKind_21 : decode cX4_cellsOfKind 21 = .ok (.if_icmp .ne 9, 3) := by decide +kernel
theorem dX4_cellsOfKind_24 : decode cX4_cellsOfKind 24 = .ok (.iload_n 2, 1) := by decide +kernel
theorem dX4_cellsOfKind_25 : decode cX4_cellsOfKind 25 = .ok (.iconst 1, 1) := by decide +kernel
theorem dX4_cellsOfKind_26 : decode cX4_cellsOfKind 26 = .ok (.iload_n 3, 1) := by decide +kernel
theorem dX4_cellsOfKind_27 : decode cX4_cellsOfKind 27 = .ok (.ishl, 1) := by decide +kernel
theorem dX4_cellsOfKind_28 : decode cX4_cellsOfKind 28 = .ok (.ior, 1) := by decide +kernel
theorem dX4_cellsOfKind_29 : decode cX4_cellsOfKind 29 = .ok (.istore_n 2, 1) := by decide +kernel
theorem dX4_cellsOfKind_30 : decode cX4_cellsOfKind 30 = .ok (.iinc 3 1, 3) := by decide +kernel
theorem dX4_cellsOfKind_33 : decode cX4_cellsOfKind 33 = .ok (.goto (-29), 3) := by decide +kernel
theorem dX4_cellsOfKind_36 : decode cX4_cellsOfKind 36 = .ok (.iload_n 2, 1) := by decide +kernel
theorem dX4_cellsOfKind_37 : decode cX4_cellsOfKind 37 = .ok (.ireturn, 1) := by decide +kernel
theorem dX4_cutAway_0 : decode cX4_cutAway 0 = .ok (.aload_n 0, 1) := by decide +kernel
theorem dX4_cutAway_1 : decode cX4_cutAway 1 = .ok (.dup, 1) := by decide +kernel
theorem dX4_cutAway_2 : decode cX4_cutAway 2 = .ok (.getfield 19, 3) := by decide +kernel
theorem dX4_cutAway_5 : decode cX4_cutAway 5 = .ok (.iconst 1, 1) := by decide +kernel
theorem dX4_cutAway_6 : decode cX4_cutAway 6 = .ok (.iload_n 1, 1) := by decide +kernel
theorem dX4_cutAway_7 : decode cX4_cutAway 7 = .ok (.ishl, 1) := by decide +kernel
theorem dX4_cutAway_8 : decode cX4_cutAway 8 = .ok (.ior, 1) := by decide +kernel
theorem dX4_cutAway_9 : decode cX4_cutAway 9 = .ok (.putfield 19, 3) := by decide +kernel
theorem dX4_cutAway_12 : decode cX4_cutAway 12 = .ok (.return_, 1) := by decide +kernel
theorem dX4_canBe_0 : decode cX4_canBe 0 = .ok (.aload_n 0, 1) := by decide +kernel
theorem dX4_canBe_1 : decode cX4_canBe 1 = .ok (.iload_n 2, 1) := by decide +kernel
theorem dX4_canBe_2 : decode cX4_canBe 2 = .ok (.invokevirtual 44, 3) := by decide +kernel
theorem dX4_canBe_5 : decode cX4_canBe 5 = .ok (.istore_n 3, 1) := by decide +kernel
theorem dX4_canBe_6 : decode cX4_canBe 6 = .ok (.aload_n 0, 1) := by decide +kernel
theorem dX4_canBe_7 : decode cX4_canBe 7 = .ok (.getfield 15, 3) := by decide +kernel
theorem dX4_canBe_10 : decode cX4_canBe 10 = .ok (.getfield 47, 3) := by decide +kernel
theorem dX4_canBe_13 : decode cX4_canBe 13 = .ok (.iload_n 1, 1) := by decide +kernel
theorem dX4_canBe_14 : decode cX4_canBe 14 = .ok (.iaload, 1) := by decide +kernel
theorem dX4_canBe_15 : decode cX4_canBe 15 = .ok (.lookupswitch 43 #[(1, 25), (2, 27)], 25) := by decide +kernel
theorem dX4_canBe_40 : decode cX4_canBe 40 = .ok (.iconst 1, 1) := by decide +kernel
theorem dX4_canBe_41 : decode cX4_canBe 41 = .ok (.ireturn, 1) := by decide +kernel
theorem dX4_canBe_42 : decode cX4_canBe 42 = .ok (.iload_n 3, 1) := by decide +kernel
theorem dX4_canBe_43 : decode cX4_canBe 43 = .ok (.iconst 1, 1) := by decide +kernel
theorem dX4_canBe_44 : decode cX4_canBe 44 = .ok (.if_icmp .eq 12, 3) := by decide +kernel
theorem dX4_canBe_47 : decode cX4_canBe 47 = .ok (.iload_n 3, 1) := by decide +kernel
theorem dX4_canBe_48 : decode cX4_canBe 48 = .ok (.iconst 2, 1) := by decide +kernel
theorem dX4_canBe_49 : decode cX4_canBe 49 = .ok (.if_icmp .eq 7, 3) := by decide +kernel
theorem dX4_canBe_52 : decode cX4_canBe 52 = .ok (.iconst 1, 1) := by decide +kernel
theorem dX4_canBe_53 : decode cX4_canBe 53 = .ok (.goto 4, 3) := by decide +kernel
theorem dX4_canBe_56 : decode cX4_canBe 56 = .ok (.iconst 0, 1) := by decide +kernel
theorem dX4_canBe_57 : decode cX4_canBe 57 = .ok (.ireturn, 1) := by decide +kernel
theorem dX4_canBe_58 : decode cX4_canBe 58 = .ok (.iload_n 3, 1) := by decide +kernel
theorem dX4_canBe_59 : decode cX4_canBe 59 = .ok (.iconst 1, 1) := by decide +kernel
theorem dX4_canBe_60 : decode cX4_canBe 60 = .ok (.if_icmp .eq 7, 3) := by decide +kernel
theorem dX4_canBe_63 : decode cX4_canBe 63 = .ok (.iconst 1, 1) := by decide +kernel
theorem dX4_canBe_64 : decode cX4_canBe 64 = .ok (.goto 4, 3) := by decide +kernel
theorem dX4_canBe_67 : decode cX4_canBe 67 = .ok (.iconst 0, 1) := by decide +kernel
theorem dX4_canBe_68 : decode cX4_canBe 68 = .ok (.ireturn, 1) := by decide +kernel
theorem dX4_placeOn_0 : decode cX4_placeOn 0 = .ok (.aload_n 0, 1) := by decide +kernel
theorem dX4_placeOn_1 : decode cX4_placeOn 1 = .ok (.getfield 15, 3) := by decide +kernel
theorem dX4_placeOn_4 : decode cX4_placeOn 4 = .ok (.iload_n 2, 1) := by decide +kernel
theorem dX4_placeOn_5 : decode cX4_placeOn 5 = .ok (.iload_n 3, 1) := by decide +kernel
theorem dX4_placeOn_6 : decode cX4_placeOn 6 = .ok (.aload_n 0, 1) := by decide +kernel
theorem dX4_placeOn_7 : decode cX4_placeOn 7 = .ok (.getfield 15, 3) := by decide +kernel
theorem dX4_placeOn_10 : decode cX4_placeOn 10 = .ok (.iload_n 1, 1) := by decide +kernel
theorem dX4_placeOn_11 : decode cX4_placeOn 11 = .ok (.invokevirtual 50, 3) := by decide +kernel
theorem dX4_placeOn_14 : decode cX4_placeOn 14 = .ok (.invokevirtual 54, 3) := by decide +kernel
theorem dX4_placeOn_17 : decode cX4_placeOn 17 = .ok (.istore 4, 2) := by decide +kernel
theorem dX4_placeOn_19 : decode cX4_placeOn 19 = .ok (.iload 4, 2) := by decide +kernel
theorem dX4_placeOn_21 : decode cX4_placeOn 21 = .ok (.iconst (-1), 1) := by decide +kernel
theorem dX4_placeOn_22 : decode cX4_placeOn 22 = .ok (.if_icmp .eq 21, 3) := by decide +kernel
theorem dX4_placeOn_25 : decode cX4_placeOn 25 = .ok (.aload_n 0, 1) := by decide +kernel
theorem dX4_placeOn_26 : decode cX4_placeOn 26 = .ok (.iload_n 1, 1) := by decide +kernel
theorem dX4_placeOn_27 : decode cX4_placeOn 27 = .ok (.iload 4, 2) := by decide +kernel
theorem dX4_placeOn_29 : decode cX4_placeOn 29 = .ok (.invokestatic 58, 3) := by decide +kernel
theorem dX4_placeOn_32 : decode cX4_placeOn 32 = .ok (.invokevirtual 61, 3) := by decide +kernel
theorem dX4_placeOn_35 : decode cX4_placeOn 35 = .ok (.ifCond .eq 8, 3) := by decide +kernel
theorem dX4_placeOn_38 : decode cX4_placeOn 38 = .ok (.iload 4, 2) := by decide +kernel
theorem dX4_placeOn_40 : decode cX4_placeOn 40 = .ok (.goto 4, 3) := by decide +kernel
theorem dX4_placeOn_43 : decode cX4_placeOn 43 = .ok (.iconst (-1), 1) := by decide +kernel
theorem dX4_placeOn_44 : decode cX4_placeOn 44 = .ok (.ireturn, 1) := by decide +kernel
theorem dX4_goes_0 : decode cX4_goes 0 = .ok (.aload_n 0, 1) := by decide +kernel
theorem dX4_goes_1 : decode cX4_goes 1 = .ok (.iload_n 1, 1) := by decide +kernel
theorem dX4_goes_2 : decode cX4_goes 2 = .ok (.aload_n 0, 1) := by decide +kernel
theorem dX4_goes_3 : decode cX4_goes 3 = .ok (.getfield 9, 3) := by decide +kernel
theorem dX4_goes_6 : decode cX4_goes 6 = .ok (.iload_n 1, 1) := by decide +kernel
theorem dX4_goes_7 : decode cX4_goes 7 = .ok (.iaload, 1) := by decide +kernel
theorem dX4_goes_8 : decode cX4_goes 8 = .ok (.iload_n 2, 1) := by decide +kernel
theorem dX4_goes_9 : decode cX4_goes 9 = .ok (.invokevirtual 65, 3) := by decide +kernel
theorem dX4_goes_12 : decode cX4_goes 12 = .ok (.istore_n 3, 1) := by decide +kernel
theorem dX4_goes_13 : decode cX4_goes 13 = .ok (.iload_n 3, 1) := by decide +kernel
theorem dX4_goes_14 : decode cX4_goes 14 = .ok (.iconst (-1), 1) := by decide +kernel
theorem dX4_goes_15 : decode cX4_goes 15 = .ok (.if_icmp .ne 5, 3) := by decide +kernel
theorem dX4_goes_18 : decode cX4_goes 18 = .ok (.iconst 0, 1) := by decide +kernel
theorem dX4_goes_19 : decode cX4_goes 19 = .ok (.ireturn, 1) := by decide +kernel
theorem dX4_goes_20 : decode cX4_goes 20 = .ok (.aload_n 0, 1) := by decide +kernel
theorem dX4_goes_21 : decode cX4_goes 21 = .ok (.getfield 9, 3) := by decide +kernel
theorem dX4_goes_24 : decode cX4_goes 24 = .ok (.iload_n 1, 1) := by decide +kernel
theorem dX4_goes_25 : decode cX4_goes 25 = .ok (.iload_n 3, 1) := by decide +kernel
theorem dX4_goes_26 : decode cX4_goes 26 = .ok (.iastore, 1) := by decide +kernel
theorem dX4_goes_27 : decode cX4_goes 27 = .ok (.iconst 1, 1) := by decide +kernel
theorem dX4_goes_28 : decode cX4_goes 28 = .ok (.ireturn, 1) := by decide +kernel
theorem dX4_waysOpen_0 : decode cX4_waysOpen 0 = .ok (.iconst 0, 1) := by decide +kernel
theorem dX4_waysOpen_1 : decode cX4_waysOpen 1 = .ok (.istore_n 2, 1) := by decide +kernel
theorem dX4_waysOpen_2 : decode cX4_waysOpen 2 = .ok (.iconst 0, 1) := by decide +kernel
theorem dX4_waysOpen_3 : decode cX4_waysOpen 3 = .ok (.istore_n 3, 1) := by decide +kernel
theorem dX4_waysOpen_4 : decode cX4_waysOpen 4 = .ok (.iload_n 3, 1) := by decide +kernel
theorem dX4_waysOpen_5 : decode cX4_waysOpen 5 = .ok (.iconst 4, 1) := by decide +kernel
theorem dX4_waysOpen_6 : decode cX4_waysOpen 6 = .ok (.if_icmp .ge 31, 3) := by decide +kernel
theorem dX4_waysOpen_9 : decode cX4_waysOpen 9 = .ok (.aload_n 0, 1) := by decide +kernel
theorem dX4_waysOpen_10 : decode cX4_waysOpen 10 = .ok (.iload_n 1, 1) := by decide +kernel
theorem dX4_waysOpen_11 : decode cX4_waysOpen 11 = .ok (.aload_n 0, 1) := by decide +kernel
theorem dX4_waysOpen_12 : decode cX4_waysOpen 12 = .ok (.getfield 9, 3) := by decide +kernel
theorem dX4_waysOpen_15 : decode cX4_waysOpen 15 = .ok (.iload_n 1, 1) := by decide +kernel
theorem dX4_waysOpen_16 : decode cX4_waysOpen 16 = .ok (.iaload, 1) := by decide +kernel
theorem dX4_waysOpen_17 : decode cX4_waysOpen 17 = .ok (.iload_n 3, 1) := by decide +kernel
theorem dX4_waysOpen_18 : decode cX4_waysOpen 18 = .ok (.invokevirtual 65, 3) := by decide +kernel
theorem dX4_waysOpen_21 : decode cX4_waysOpen 21 = .ok (.iconst (-1), 1) := by decide +kernel
theorem dX4_waysOpen_22 : decode cX4_waysOpen 22 = .ok (.if_icmp .eq 9, 3) := by decide +kernel
theorem dX4_waysOpen_25 : decode cX4_waysOpen 25 = .ok (.iload_n 2, 1) := by decide +kernel
theorem dX4_waysOpen_26 : decode cX4_waysOpen 26 = .ok (.iconst 1, 1) := by decide +kernel
theorem dX4_waysOpen_27 : decode cX4_waysOpen 27 = .ok (.iload_n 3, 1) := by decide +kernel
theorem dX4_waysOpen_28 : decode cX4_waysOpen 28 = .ok (.ishl, 1) := by decide +kernel
theorem dX4_waysOpen_29 : decode cX4_waysOpen 29 = .ok (.ior, 1) := by decide +kernel
theorem dX4_waysOpen_30 : decode cX4_waysOpen 30 = .ok (.istore_n 2, 1) := by decide +kernel
theorem dX4_waysOpen_31 : decode cX4_waysOpen 31 = .ok (.iinc 3 1, 3) := by decide +kernel
theorem dX4_waysOpen_34 : decode cX4_waysOpen 34 = .ok (.goto (-30), 3) := by decide +kernel
theorem dX4_waysOpen_37 : decode cX4_waysOpen 37 = .ok (.iload_n 2, 1) := by decide +kernel
theorem dX4_waysOpen_38 : decode cX4_waysOpen 38 = .ok (.ireturn, 1) := by decide +kernel
theorem dX4_homePlace_0 : decode cX4_homePlace 0 = .ok (.sipush 480, 3) := by decide +kernel
theorem dX4_homePlace_3 : decode cX4_homePlace 3 = .ok (.aload_n 0, 1) := by decide +kernel
theorem dX4_homePlace_4 : decode cX4_homePlace 4 = .ok (.getfield 15, 3) := by decide +kernel
theorem dX4_homePlace_7 : decode cX4_homePlace 7 = .ok (.getfield 69, 3) := by decide +kernel
theorem dX4_homePlace_10 : decode cX4_homePlace 10 = .ok (.iload_n 1, 1) := by decide +kernel
theorem dX4_homePlace_11 : decode cX4_homePlace 11 = .ok (.iaload, 1) := by decide +kernel
theorem dX4_homePlace_12 : decode cX4_homePlace 12 = .ok (.iadd, 1) := by decide +kernel
theorem dX4_homePlace_13 : decode cX4_homePlace 13 = .ok (.ireturn, 1) := by decide +kernel
theorem dX4_isHome_0 : decode cX4_isHome 0 = .ok (.aload_n 0, 1) := by decide +kernel
theorem dX4_isHome_1 : decode cX4_isHome 1 = .ok (.getfield 9, 3) := by decide +kernel
theorem dX4_isHome_4 : decode cX4_isHome 4 = .ok (.iload_n 1, 1) := by decide +kernel
theorem dX4_isHome_5 : decode cX4_isHome 5 = .ok (.iaload, 1) := by decide +kernel
theorem dX4_isHome_6 : decode cX4_isHome 6 = .ok (.aload_n 0, 1) := by decide +kernel
theorem dX4_isHome_7 : decode cX4_isHome 7 = .ok (.iload_n 1, 1) := by decide +kernel
theorem dX4_isHome_8 : decode cX4_isHome 8 = .ok (.invokevirtual 28, 3) := by decide +kernel
theorem dX4_isHome_11 : decode cX4_isHome 11 = .ok (.if_icmp .ne 7, 3) := by decide +kernel
theorem dX4_isHome_14 : decode cX4_isHome 14 = .ok (.iconst 1, 1) := by decide +kernel
theorem dX4_isHome_15 : decode cX4_isHome 15 = .ok (.goto 4, 3) := by decide +kernel
theorem dX4_isHome_18 : decode cX4_isHome 18 = .ok (.iconst 0, 1) := by decide +kernel
theorem dX4_isHome_19 : decode cX4_isHome 19 = .ok (.ireturn, 1) := by decide +kernel
theorem dX4_whoIsHome_0 : decode cX4_whoIsHome 0 = .ok (.iconst 0, 1) := by decide +kernel
theorem dX4_whoIsHome_1 : decode cX4_whoIsHome 1 = .ok (.istore_n 1, 1) := by decide +kernel
theorem dX4_whoIsHome_2 : decode cX4_whoIsHome 2 = .ok (.iconst 0, 1) := by decide +kernel
theorem dX4_whoIsHome_3 : decode cX4_whoIsHome 3 = .ok (.istore_n 2, 1) := by decide +kernel
theorem dX4_whoIsHome_4 : decode cX4_whoIsHome 4 = .ok (.iload_n 2, 1) := by decide +kernel
theorem dX4_whoIsHome_5 : decode cX4_whoIsHome 5 = .ok (.aload_n 0, 1) := by decide +kernel
theorem dX4_whoIsHome_6 : decode cX4_whoIsHome 6 = .ok (.getfield 15, 3) := by decide +kernel
theorem dX4_whoIsHome_9 : decode cX4_whoIsHome 9 = .ok (.getfield 23, 3) := by decide +kernel
theorem dX4_whoIsHome_12 : decode cX4_whoIsHome 12 = .ok (.if_icmp .ge 23, 3) := by decide +kernel
theorem dX4_whoIsHome_15 : decode cX4_whoIsHome 15 = .ok (.aload_n 0, 1) := by decide +kernel
theorem dX4_whoIsHome_16 : decode cX4_whoIsHome 16 = .ok (.iload_n 2, 1) := by decide +kernel
theorem dX4_whoIsHome_17 : decode cX4_whoIsHome 17 = .ok (.invokevirtual 72, 3) := by decide +kernel
theorem dX4_whoIsHome_20 : decode cX4_whoIsHome 20 = .ok (.ifCond .eq 9, 3) := by decide +kernel
theorem dX4_whoIsHome_23 : decode cX4_whoIsHome 23 = .ok (.iload_n 1, 1) := by decide +kernel
theorem dX4_whoIsHome_24 : decode cX4_whoIsHome 24 = .ok (.iconst 1, 1) := by decide +kernel
theorem dX4_whoIsHome_25 : decode cX4_whoIsHome 25 = .ok (.iload_n 2, 1) := by decide +kernel
theorem dX4_whoIsHome_26 : decode cX4_whoIsHome 26 = .ok (.ishl, 1) := by decide +kernel
theorem dX4_whoIsHome_27 : decode cX4_whoIsHome 27 = .ok (.ior, 1) := by decide +kernel
theorem dX4_whoIsHome_28 : decode cX4_whoIsHome 28 = .ok (.istore_n 1, 1) := by decide +kernel
theorem dX4_whoIsHome_29 : decode cX4_whoIsHome 29 = .ok (.iinc 2 1, 3) := by decide +kernel
theorem dX4_whoIsHome_32 : decode cX4_whoIsHome 32 = .ok (.goto (-28), 3) := by decide +kernel
theorem dX4_whoIsHome_35 : decode cX4_whoIsHome 35 = .ok (.iload_n 1, 1) := by decide +kernel
theorem dX4_whoIsHome_36 : decode cX4_whoIsHome 36 = .ok (.ireturn, 1) := by decide +kernel
theorem dX4_countNotHome_0 : decode cX4_countNotHome 0 = .ok (.aload_n 0, 1) := by decide +kernel
theorem dX4_countNotHome_1 : decode cX4_countNotHome 1 = .ok (.getfield 15, 3) := by decide +kernel
theorem dX4_countNotHome_4 : decode cX4_countNotHome 4 = .ok (.getfield 23, 3) := by decide +kernel
theorem dX4_countNotHome_7 : decode cX4_countNotHome 7 = .ok (.aload_n 0, 1) := by decide +kernel
theorem dX4_countNotHome_8 : decode cX4_countNotHome 8 = .ok (.invokevirtual 75, 3) := by decide +kernel
theorem dX4_countNotHome_11 : decode cX4_countNotHome 11 = .ok (.invokestatic 79, 3) := by decide +kernel
theorem dX4_countNotHome_14 : decode cX4_countNotHome 14 = .ok (.isub, 1) := by decide +kernel
theorem dX4_countNotHome_15 : decode cX4_countNotHome 15 = .ok (.ireturn, 1) := by decide +kernel
theorem dX4_doesHear_0 : decode cX4_doesHear 0 = .ok (.aload_n 0, 1) := by decide +kernel
theorem dX4_doesHear_1 : decode cX4_doesHear 1 = .ok (.getfield 9, 3) := by decide +kernel
theorem dX4_doesHear_4 : decode cX4_doesHear 4 = .ok (.iload_n 1, 1) := by decide +kernel
theorem dX4_doesHear_5 : decode cX4_doesHear 5 = .ok (.iaload, 1) := by decide +kernel
theorem dX4_doesHear_6 : decode cX4_doesHear 6 = .ok (.invokestatic 58, 3) := by decide +kernel
theorem dX4_doesHear_9 : decode cX4_doesHear 9 = .ok (.istore_n 3, 1) := by decide +kernel
theorem dX4_doesHear_10 : decode cX4_doesHear 10 = .ok (.iload_n 3, 1) := by decide +kernel
theorem dX4_doesHear_11 : decode cX4_doesHear 11 = .ok (.iload_n 2, 1) := by decide +kernel
theorem dX4_doesHear_12 : decode cX4_doesHear 12 = .ok (.if_icmp .ne 5, 3) := by decide +kernel
theorem dX4_doesHear_15 : decode cX4_doesHear 15 = .ok (.iconst 1, 1) := by decide +kernel
theorem dX4_doesHear_16 : decode cX4_doesHear 16 = .ok (.ireturn, 1) := by decide +kernel
theorem dX4_doesHear_17 : decode cX4_doesHear 17 = .ok (.aload_n 0, 1) := by decide +kernel
theorem dX4_doesHear_18 : decode cX4_doesHear 18 = .ok (.getfield 15, 3) := by decide +kernel
theorem dX4_doesHear_21 : decode cX4_doesHear 21 = .ok (.iload_n 1, 1) := by decide +kernel
theorem dX4_doesHear_22 : decode cX4_doesHear 22 = .ok (.invokevirtual 50, 3) := by decide +kernel
theorem dX4_doesHear_25 : decode cX4_doesHear 25 = .ok (.istore 4, 2) := by decide +kernel
theorem dX4_doesHear_27 : decode cX4_doesHear 27 = .ok (.iconst 0, 1) := by decide +kernel
theorem dX4_doesHear_28 : decode cX4_doesHear 28 = .ok (.istore 5, 2) := by decide +kernel
theorem dX4_doesHear_30 : decode cX4_doesHear 30 = .ok (.iload 5, 2) := by decide +kernel
theorem dX4_doesHear_32 : decode cX4_doesHear 32 = .ok (.iconst 4, 1) := by decide +kernel
theorem dX4_doesHear_33 : decode cX4_doesHear 33 = .ok (.if_icmp .ge 27, 3) := by decide +kernel
theorem dX4_doesHear_36 : decode cX4_doesHear 36 = .ok (.aload_n 0, 1) := by decide +kernel
theorem dX4_doesHear_37 : decode cX4_doesHear 37 = .ok (.getfield 15, 3) := by decide +kernel
theorem dX4_doesHear_40 : decode cX4_doesHear 40 = .ok (.iload_n 3, 1) := by decide +kernel
theorem dX4_doesHear_41 : decode cX4_doesHear 41 = .ok (.iload 5, 2) := by decide +kernel
theorem dX4_doesHear_43 : decode cX4_doesHear 43 = .ok (.iload 4, 2) := by decide +kernel
theorem dX4_doesHear_45 : decode cX4_doesHear 45 = .ok (.invokevirtual 84, 3) := by decide +kernel
theorem dX4_doesHear_48 : decode cX4_doesHear 48 = .ok (.iload_n 2, 1) := by decide +kernel
theorem dX4_doesHear_49 : decode cX4_doesHear 49 = .ok (.if_icmp .ne 5, 3) := by decide +kernel
theorem dX4_doesHear_52 : decode cX4_doesHear 52 = .ok (.iconst 1, 1) := by decide +kernel
theorem dX4_doesHear_53 : decode cX4_doesHear 53 = .ok (.ireturn, 1) := by decide +kernel
theorem dX4_doesHear_54 : decode cX4_doesHear 54 = .ok (.iinc 5 1, 3) := by decide +kernel
theorem dX4_doesHear_57 : decode cX4_doesHear 57 = .ok (.goto (-27), 3) := by decide +kernel
theorem dX4_doesHear_60 : decode cX4_doesHear 60 = .ok (.iconst 0, 1) := by decide +kernel
theorem dX4_doesHear_61 : decode cX4_doesHear 61 = .ok (.ireturn, 1) := by decide +kernel
theorem dX4_bringHome_0 : decode cX4_bringHome 0 = .ok (.iconst 0, 1) := by decide +kernel
theorem dX4_bringHome_1 : decode cX4_bringHome 1 = .ok (.istore_n 2, 1) := by decide +kernel
theorem dX4_bringHome_2 : decode cX4_bringHome 2 = .ok (.iconst 0, 1) := by decide +kernel
theorem dX4_bringHome_3 : decode cX4_bringHome 3 = .ok (.istore_n 3, 1) := by decide +kernel
theorem dX4_bringHome_4 : decode cX4_bringHome 4 = .ok (.iload_n 3, 1) := by decide +kernel
theorem dX4_bringHome_5 : decode cX4_bringHome 5 = .ok (.aload_n 0, 1) := by decide +kernel
theorem dX4_bringHome_6 : decode cX4_bringHome 6 = .ok (.getfield 15, 3) := by decide +kernel
theorem dX4_bringHome_9 : decode cX4_bringHome 9 = .ok (.getfield 23, 3) := by decide +kernel
theorem dX4_bringHome_12 : decode cX4_bringHome 12 = .ok (.if_icmp .ge 40, 3) := by decide +kernel
theorem dX4_bringHome_15 : decode cX4_bringHome 15 = .ok (.aload_n 0, 1) := by decide +kernel
theorem dX4_bringHome_16 : decode cX4_bringHome 16 = .ok (.iload_n 3, 1) := by decide +kernel
theorem dX4_bringHome_17 : decode cX4_bringHome 17 = .ok (.invokevirtual 72, 3) := by decide +kernel
theorem dX4_bringHome_20 : decode cX4_bringHome 20 = .ok (.ifCond .ne 26, 3) := by decide +kernel
theorem dX4_bringHome_23 : decode cX4_bringHome 23 = .ok (.aload_n 0, 1) := by decide +kernel
theorem dX4_bringHome_24 : decode cX4_bringHome 24 = .ok (.iload_n 3, 1) := by decide +kernel
theorem dX4_bringHome_25 : decode cX4_bringHome 25 = .ok (.iload_n 1, 1) := by decide +kernel
theorem dX4_bringHome_26 : decode cX4_bringHome 26 = .ok (.invokevirtual 87, 3) := by decide +kernel
theorem dX4_bringHome_29 : decode cX4_bringHome 29 = .ok (.ifCond .eq 17, 3) := by decide +kernel
theorem dX4_bringHome_32 : decode cX4_bringHome 32 = .ok (.aload_n 0, 1) := by decide +kernel
theorem dX4_bringHome_33 : decode cX4_bringHome 33 = .ok (.getfield 9, 3) := by decide +kernel
theorem dX4_bringHome_36 : decode cX4_bringHome 36 = .ok (.iload_n 3, 1) := by decide +kernel
theorem dX4_bringHome_37 : decode cX4_bringHome 37 = .ok (.aload_n 0, 1) := by decide +kernel
theorem dX4_bringHome_38 : decode cX4_bringHome 38 = .ok (.iload_n 3, 1) := by decide +kernel
theorem dX4_bringHome_39 : decode cX4_bringHome 39 = .ok (.invokevirtual 28, 3) := by decide +kernel
theorem dX4_bringHome_42 : decode cX4_bringHome 42 = .ok (.iastore, 1) := by decide +kernel
theorem dX4_bringHome_43 : decode cX4_bringHome 43 = .ok (.iinc 2 1, 3) := by decide +kernel
theorem dX4_bringHome_46 : decode cX4_bringHome 46 = .ok (.iinc 3 1, 3) := by decide +kernel
theorem dX4_bringHome_49 : decode cX4_bringHome 49 = .ok (.goto (-45), 3) := by decide +kernel
theorem dX4_bringHome_52 : decode cX4_bringHome 52 = .ok (.iload_n 2, 1) := by decide +kernel
theorem dX4_bringHome_53 : decode cX4_bringHome 53 = .ok (.ireturn, 1) := by decide +kernel
theorem dX5_init_0 : decode cX5_init 0 = .ok (.aload_n 0, 1) := by decide +kernel
theorem dX5_init_1 : decode cX5_init 1 = .ok (.invokespecial 3, 3) := by decide +kernel
theorem dX5_init_4 : decode cX5_init 4 = .ok (.aload_n 0, 1) := by decide +kernel
theorem dX5_init_5 : decode cX5_init 5 = .ok (.sipush 980, 3) := by decide +kernel
theorem dX5_init_8 : decode cX5_init 8 = .ok (.newarray .int, 2) := by decide +kernel
theorem dX5_init_10 : decode cX5_init 10 = .ok (.putfield 9, 3) := by decide +kernel
theorem dX5_init_13 : decode cX5_init 13 = .ok (.aload_n 0, 1) := by decide +kernel
theorem dX5_init_14 : decode cX5_init 14 = .ok (.sipush 980, 3) := by decide +kernel
theorem dX5_init_17 : decode cX5_init 17 = .ok (.newarray .int, 2) := by decide +kernel
theorem dX5_init_19 : decode cX5_init 19 = .ok (.putfield 15, 3) := by decide +kernel
theorem dX5_init_22 : decode cX5_init 22 = .ok (.aload_n 0, 1) := by decide +kernel
theorem dX5_init_23 : decode cX5_init 23 = .ok (.iconst 5, 1) := by decide +kernel
theorem dX5_init_24 : decode cX5_init 24 = .ok (.newarray .int, 2) := by decide +kernel
theorem dX5_init_26 : decode cX5_init 26 = .ok (.putfield 18, 3) := by decide +kernel
theorem dX5_init_29 : decode cX5_init 29 = .ok (.return_, 1) := by decide +kernel
theorem dX5_spread_0 : decode cX5_spread 0 = .ok (.aload_n 0, 1) := by decide +kernel
theorem dX5_spread_1 : decode cX5_spread 1 = .ok (.invokevirtual 21, 3) := by decide +kernel
theorem dX5_spread_4 : decode cX5_spread 4 = .ok (.aload_n 0, 1) := by decide +kernel
theorem dX5_spread_5 : decode cX5_spread 5 = .ok (.aload_n 1, 1) := by decide +kernel
theorem dX5_spread_6 : decode cX5_spread 6 = .ok (.getfield 24, 3) := by decide +kernel
theorem dX5_spread_9 : decode cX5_spread 9 = .ok (.iload_n 2, 1) := by decide +kernel
theorem dX5_spread_10 : decode cX5_spread 10 = .ok (.iaload, 1) := by decide +kernel
theorem dX5_spread_11 : decode cX5_spread 11 = .ok (.iconst 1, 1) := by decide +kernel
theorem dX5_spread_12 : decode cX5_spread 12 = .ok (.invokevirtual 29, 3) := by decide +kernel
theorem dX5_spread_15 : decode cX5_spread 15 = .ok (.iconst 0, 1) := by decide +kernel
theorem dX5_spread_16 : decode cX5_spread 16 = .ok (.istore 4, 2) := by decide +kernel
theorem dX5_spread_18 : decode cX5_spread 18 = .ok (.iload 4, 2) := by decide +kernel
theorem dX5_spread_20 : decode cX5_spread 20 = .ok (.aload_n 0, 1) := by decide +kernel
theorem dX5_spread_21 : decode cX5_spread 21 = .ok (.getfield 33, 3) := by decide +kernel
theorem dX5_spread_24 : decode cX5_spread 24 = .ok (.if_icmp .ge 94, 3) := by decide +kernel
theorem dX5_spread_27 : decode cX5_spread 27 = .ok (.iload 4, 2) := by decide +kernel
theorem dX5_spread_29 : decode cX5_spread 29 = .ok (.sipush 980, 3) := by decide +kernel
theorem dX5_spread_32 : decode cX5_spread 32 = .ok (.if_icmp .ge 86, 3) := by decide +kernel
theorem dX5_spread_35 : decode cX5_spread 35 = .ok (.aload_n 0, 1) := by decide +kernel
theorem dX5_spread_36 : decode cX5_spread 36 = .ok (.getfield 15, 3) := by decide +kernel
theorem dX5_spread_39 : decode cX5_spread 39 = .ok (.iload 4, 2) := by decide +kernel
theorem dX5_spread_41 : decode cX5_spread 41 = .ok (.iaload, 1) := by decide +kernel
theorem dX5_spread_42 : decode cX5_spread 42 = .ok (.istore 5, 2) := by decide +kernel
theorem dX5_spread_44 : decode cX5_spread 44 = .ok (.aload_n 0, 1) := by decide +kernel
theorem dX5_spread_45 : decode cX5_spread 45 = .ok (.getfield 9, 3) := by decide +kernel
theorem dX5_spread_48 : decode cX5_spread 48 = .ok (.iload 5, 2) := by decide +kernel
theorem dX5_spread_50 : decode cX5_spread 50 = .ok (.iaload, 1) := by decide +kernel
theorem dX5_spread_51 : decode cX5_spread 51 = .ok (.istore 6, 2) := by decide +kernel
theorem dX5_spread_53 : decode cX5_spread 53 = .ok (.iload 6, 2) := by decide +kernel
theorem dX5_spread_55 : decode cX5_spread 55 = .ok (.iload_n 3, 1) := by decide +kernel
theorem dX5_spread_56 : decode cX5_spread 56 = .ok (.if_icmp .le 4, 3) := by decide +kernel
theorem dX5_spread_59 : decode cX5_spread 59 = .ok (.return_, 1) := by decide +kernel
theorem dX5_spread_60 : decode cX5_spread 60 = .ok (.iconst 0, 1) := by decide +kernel
theorem dX5_spread_61 : decode cX5_spread 61 = .ok (.istore 7, 2) := by decide +kernel
theorem dX5_spread_63 : decode cX5_spread 63 = .ok (.iload 7, 2) := by decide +kernel
theorem dX5_spread_65 : decode cX5_spread 65 = .ok (.iconst 4, 1) := by decide +kernel
theorem dX5_spread_66 : decode cX5_spread 66 = .ok (.if_icmp .ge 46, 3) := by decide +kernel
theorem dX5_spread_69 : decode cX5_spread 69 = .ok (.aload_n 1, 1) := by decide +kernel
theorem dX5_spread_70 : decode cX5_spread 70 = .ok (.iload_n 2, 1) := by decide +kernel
theorem dX5_spread_71 : decode cX5_spread 71 = .ok (.iload 5, 2) := by decide +kernel
theorem dX5_spread_73 : decode cX5_spread 73 = .ok (.iload 7, 2) := by decide +kernel
theorem dX5_spread_75 : decode cX5_spread 75 = .ok (.invokevirtual 37, 3) := by decide +kernel
theorem dX5_spread_78 : decode cX5_spread 78 = .ok (.istore 8, 2) := by decide +kernel
theorem dX5_spread_80 : decode cX5_spread 80 = .ok (.iload 8, 2) := by decide +kernel
theorem dX5_spread_82 : decode cX5_spread 82 = .ok (.iconst (-1), 1) := by decide +kernel
theorem dX5_spread_83 : decode cX5_spread 83 = .ok (.if_icmp .eq 23, 3) := by decide +kernel
theorem dX5_spread_86 : decode cX5_spread 86 = .ok (.aload_n 0, 1) := by decide +kernel
theorem dX5_spread_87 : decode cX5_spread 87 = .ok (.getfield 9, 3) := by decide +kernel
theorem dX5_spread_90 : decode cX5_spread 90 = .ok (.iload 8, 2) := by decide +kernel
theorem dX5_spread_92 : decode cX5_spread 92 = .ok (.iaload, 1) := by decide +kernel
theorem dX5_spread_93 : decode cX5_spread 93 = .ok (.ifCond .ne 13, 3) := by decide +kernel
theorem dX5_spread_96 : decode cX5_spread 96 = .ok (.aload_n 0, 1) := by decide +kernel
theorem dX5_spread_97 : decode cX5_spread 97 = .ok (.iload 8, 2) := by decide +kernel
theorem dX5_spread_99 : decode cX5_spread 99 = .ok (.iload 6, 2) := by decide +kernel
theorem dX5_spread_101 : decode cX5_spread 101 = .ok (.iconst 1, 1) := by decide +kernel
theorem dX5_spread_102 : decode cX5_spread 102 = .ok (.iadd, 1) := by decide +kernel
theorem dX5_spread_103 : decode cX5_spread 103 = .ok (.invokevirtual 29, 3) := by decide +kernel
theorem dX5_spread_106 : decode cX5_spread 106 = .ok (.iinc 7 1, 3) := by decide +kernel
theorem dX5_spread_109 : decode cX5_spread 109 = .ok (.goto (-46), 3) := by decide +kernel
theorem dX5_spread_112 : decode cX5_spread 112 = .ok (.iinc 4 1, 3) := by decide +kernel
theorem dX5_spread_115 : decode cX5_spread 115 = .ok (.goto (-97), 3) := by decide +kernel
theorem dX5_spread_118 : decode cX5_spread 118 = .ok (.return_, 1) := by decide +kernel
theorem dX5_clear_0 : decode cX5_clear 0 = .ok (.iconst 0, 1) := by decide +kernel
theorem dX5_clear_1 : decode cX5_clear 1 = .ok (.istore_n 1, 1) := by decide +kernel
theorem dX5_clear_2 : decode cX5_clear 2 = .ok (.iload_n 1, 1) := by decide +kernel
theorem dX5_clear_3 : decode cX5_clear 3 = .ok (.aload_n 0, 1) := by decide +kernel
theorem dX5_clear_4 : decode cX5_clear 4 = .ok (.getfield 33, 3) := by decide +kernel
theorem dX5_clear_7 : decode cX5_clear 7 = .ok (.if_icmp .ge 28, 3) := by decide +kernel
theorem dX5_clear_10 : decode cX5_clear 10 = .ok (.iload_n 1, 1) := by decide +kernel
theorem dX5_clear_11 : decode cX5_clear 11 = .ok (.sipush 980, 3) := by decide +kernel
theorem dX5_clear_14 : decode cX5_clear 14 = .ok (.if_icmp .ge 21, 3) := by decide +kernel
theorem dX5_clear_17 : decode cX5_clear 17 = .ok (.aload_n 0, 1) := by decide +kernel
theorem dX5_clear_18 : decode cX5_clear 18 = .ok (.getfield 9, 3) := by decide +kernel
theorem dX5_clear_21 : decode cX5_clear 21 = .ok (.aload_n 0, 1) := by decide +kernel
theorem dX5_clear_22 : decode cX5_clear 22 = .ok (.getfield 15, 3) := by decide +kernel
theorem dX5_clear_25 : decode cX5_clear 25 = .ok (.iload_n 1, 1) := by decide +kernel
theorem dX5_clear_26 : decode cX5_clear 26 = .ok (.iaload, 1) := by decide +kernel
theorem dX5_clear_27 : decode cX5_clear 27 = .ok (.iconst 0, 1) := by decide +kernel
theorem dX5_clear_28 : decode cX5_clear 28 = .ok (.iastore, 1) := by decide +kernel
theorem dX5_clear_29 : decode cX5_clear 29 = .ok (.iinc 1 1, 3) := by decide +kernel
theorem dX5_clear_32 : decode cX5_clear 32 = .ok (.goto (-30), 3) := by decide +kernel
theorem dX5_clear_35 : decode cX5_clear 35 = .ok (.aload_n 0, 1) := by decide +kernel
theorem dX5_clear_36 : decode cX5_clear 36 = .ok (.iconst 0, 1) := by decide +kernel
theorem dX5_clear_37 : decode cX5_clear 37 = .ok (.putfield 33, 3) := by decide +kernel
theorem dX5_clear_40 : decode cX5_clear 40 = .ok (.return_, 1) := by decide +kernel
theorem dX5_put_0 : decode cX5_put 0 = .ok (.aload_n 0, 1) := by decide +kernel
theorem dX5_put_1 : decode cX5_put 1 = .ok (.getfield 33, 3) := by decide +kernel
theorem dX5_put_4 : decode cX5_put 4 = .ok (.sipush 980, 3) := by decide +kernel
theorem dX5_put_7 : decode cX5_put 7 = .ok (.if_icmp .ge 30, 3) := by decide +kernel
theorem dX5_put_10 : decode cX5_put 10 = .ok (.aload_n 0, 1) := by decide +kernel
theorem dX5_put_11 : decode cX5_put 11 = .ok (.getfield 15, 3) := by decide +kernel
theorem dX5_put_14 : decode cX5_put 14 = .ok (.aload_n 0, 1) := by decide +kernel
theorem dX5_put_15 : decode cX5_put 15 = .ok (.getfield 33, 3) := by decide +kernel
theorem dX5_put_18 : decode cX5_put 18 = .ok (.iload_n 1, 1) := by decide +kernel
theorem dX5_put_19 : decode cX5_put 19 = .ok (.iastore, 1) := by decide +kernel
theorem dX5_put_20 : decode cX5_put 20 = .ok (.aload_n 0, 1) := by decide +kernel
theorem dX5_put_21 : decode cX5_put 21 = .ok (.dup, 1) := by decide +kernel
theorem dX5_put_22 : decode cX5_put 22 = .ok (.getfield 33, 3) := by decide +kernel
theorem dX5_put_25 : decode cX5_put 25 = .ok (.iconst 1, 1) := by decide +kernel
theorem dX5_put_26 : decode cX5_put 26 = .ok (.iadd, 1) := by decide +kernel
theorem dX5_put_27 : decode cX5_put 27 = .ok (.putfield 33, 3) := by decide +kernel
theorem dX5_put_30 : decode cX5_put 30 = .ok (.aload_n 0, 1) := by decide +kernel
theorem dX5_put_31 : decode cX5_put 31 = .ok (.getfield 9, 3) := by decide +kernel
theorem dX5_put_34 : decode cX5_put 34 = .ok (.iload_n 1, 1) := by decide +kernel
theorem dX5_put_35 : decode cX5_put 35 = .ok (.iload_n 2, 1) := by decide +kernel
theorem dX5_put_36 : decode cX5_put 36 = .ok (.iastore, 1) := by decide +kernel
theorem dX5_put_37 : decode cX5_put 37 = .ok (.return_, 1) := by decide +kernel
theorem dX5_stepsHome_0 : decode cX5_stepsHome 0 = .ok (.aload_n 0, 1) := by decide +kernel
theorem dX5_stepsHome_1 : decode cX5_stepsHome 1 = .ok (.aload_n 1, 1) := by decide +kernel
theorem dX5_stepsHome_2 : decode cX5_stepsHome 2 = .ok (.iload_n 2, 1) := by decide +kernel
theorem dX5_stepsHome_3 : decode cX5_stepsHome 3 = .ok (.sipush 980, 3) := by decide +kernel
theorem dX5_stepsHome_6 : decode cX5_stepsHome 6 = .ok (.invokevirtual 41, 3) := by decide +kernel
theorem dX5_stepsHome_9 : decode cX5_stepsHome 9 = .ok (.aload_n 0, 1) := by decide +kernel
theorem dX5_stepsHome_10 : decode cX5_stepsHome 10 = .ok (.getfield 9, 3) := by decide +kernel
theorem dX5_stepsHome_13 : decode cX5_stepsHome 13 = .ok (.aload_n 1, 1) := by decide +kernel
theorem dX5_stepsHome_14 : decode cX5_stepsHome 14 = .ok (.iload_n 2, 1) := by decide +kernel
theorem dX5_stepsHome_15 : decode cX5_stepsHome 15 = .ok (.invokevirtual 45, 3) := by decide +kernel
theorem dX5_stepsHome_18 : decode cX5_stepsHome 18 = .ok (.iaload, 1) := by decide +kernel
end
section
theorem dX5_stepsHome_19 : decode cX5_stepsHome 19 = .ok (.istore_n 3, 1) := by decide +kernel
theorem dX5_stepsHome_20 : decode cX5_stepsHome 20 = .ok (.iload_n 3, 1) := by decide +kernel
theorem dX5_stepsHome_21 : decode cX5_stepsHome 21 = .ok (.ifCond .ne 8, 3) := by decide +kernel
theorem dX5_stepsHome_24 : decode cX5_stepsHome 24 = .ok (.bipush (-9), 2) := by decide +kernel
theorem dX5_stepsHome_26 : decode cX5_stepsHome 26 = .ok (.goto 6, 3) := by decide +kernel
theorem dX5_stepsHome_29 : decode cX5_stepsHome 29 = .ok (.iload_n 3, 1) := by decide +kernel
theorem dX5_stepsHome_30 : decode cX5_stepsHome 30 = .ok (.iconst 1, 1) := by decide +kernel
theorem dX5_stepsHome_31 : decode cX5_stepsHome 31 = .ok (.isub, 1) := by decide +kernel
theorem dX5_stepsHome_32 : decode cX5_stepsHome 32 = .ok (.ireturn, 1) := by decide +kernel
theorem dX5_cellsWithin_0 : decode cX5_cellsWithin 0 = .ok (.aload_n 0, 1) := by decide +kernel
theorem dX5_cellsWithin_1 : decode cX5_cellsWithin 1 = .ok (.aload_n 1, 1) := by decide +kernel
theorem dX5_cellsWithin_2 : decode cX5_cellsWithin 2 = .ok (.iload_n 2, 1) := by decide +kernel
theorem dX5_cellsWithin_3 : decode cX5_cellsWithin 3 = .ok (.iload_n 3, 1) := by decide +kernel
theorem dX5_cellsWithin_4 : decode cX5_cellsWithin 4 = .ok (.invokevirtual 41, 3) := by decide +kernel
theorem dX5_cellsWithin_7 : decode cX5_cellsWithin 7 = .ok (.iconst 0, 1) := by decide +kernel
theorem dX5_cellsWithin_8 : decode cX5_cellsWithin 8 = .ok (.istore 4, 2) := by decide +kernel
theorem dX5_cellsWithin_10 : decode cX5_cellsWithin 10 = .ok (.iconst 0, 1) := by decide +kernel
theorem dX5_cellsWithin_11 : decode cX5_cellsWithin 11 = .ok (.istore 5, 2) := by decide +kernel
theorem dX5_cellsWithin_13 : decode cX5_cellsWithin 13 = .ok (.iload 5, 2) := by decide +kernel
theorem dX5_cellsWithin_15 : decode cX5_cellsWithin 15 = .ok (.aload_n 0, 1) := by decide +kernel
theorem dX5_cellsWithin_16 : decode cX5_cellsWithin 16 = .ok (.getfield 33, 3) := by decide +kernel
theorem dX5_cellsWithin_19 : decode cX5_cellsWithin 19 = .ok (.if_icmp .ge 34, 3) := by decide +kernel
theorem dX5_cellsWithin_22 : decode cX5_cellsWithin 22 = .ok (.iload 5, 2) := by decide +kernel
theorem dX5_cellsWithin_24 : decode cX5_cellsWithin 24 = .ok (.sipush 980, 3) := by decide +kernel
theorem dX5_cellsWithin_27 : decode cX5_cellsWithin 27 = .ok (.if_icmp .ge 26, 3) := by decide +kernel
theorem dX5_cellsWithin_30 : decode cX5_cellsWithin 30 = .ok (.iload 4, 2) := by decide +kernel
theorem dX5_cellsWithin_32 : decode cX5_cellsWithin 32 = .ok (.iconst 1, 1) := by decide +kernel
theorem dX5_cellsWithin_33 : decode cX5_cellsWithin 33 = .ok (.aload_n 0, 1) := by decide +kernel
theorem dX5_cellsWithin_34 : decode cX5_cellsWithin 34 = .ok (.getfield 15, 3) := by decide +kernel
theorem dX5_cellsWithin_37 : decode cX5_cellsWithin 37 = .ok (.iload 5, 2) := by decide +kernel
theorem dX5_cellsWithin_39 : decode cX5_cellsWithin 39 = .ok (.iaload, 1) := by decide +kernel
theorem dX5_cellsWithin_40 : decode cX5_cellsWithin 40 = .ok (.invokestatic 49, 3) := by decide +kernel
theorem dX5_cellsWithin_43 : decode cX5_cellsWithin 43 = .ok (.ishl, 1) := by decide +kernel
theorem dX5_cellsWithin_44 : decode cX5_cellsWithin 44 = .ok (.ior, 1) := by decide +kernel
theorem dX5_cellsWithin_45 : decode cX5_cellsWithin 45 = .ok (.istore 4, 2) := by decide +kernel
theorem dX5_cellsWithin_47 : decode cX5_cellsWithin 47 = .ok (.iinc 5 1, 3) := by decide +kernel
theorem dX5_cellsWithin_50 : decode cX5_cellsWithin 50 = .ok (.goto (-37), 3) := by decide +kernel
theorem dX5_cellsWithin_53 : decode cX5_cellsWithin 53 = .ok (.iload 4, 2) := by decide +kernel
theorem dX5_cellsWithin_55 : decode cX5_cellsWithin 55 = .ok (.ireturn, 1) := by decide +kernel
theorem dX5_sixtiethsShared_0 : decode cX5_sixtiethsShared 0 = .ok (.aload_n 1, 1) := by decide +kernel
theorem dX5_sixtiethsShared_1 : decode cX5_sixtiethsShared 1 = .ok (.getfield 52, 3) := by decide +kernel
theorem dX5_sixtiethsShared_4 : decode cX5_sixtiethsShared 4 = .ok (.getfield 56, 3) := by decide +kernel
theorem dX5_sixtiethsShared_7 : decode cX5_sixtiethsShared 7 = .ok (.istore_n 3, 1) := by decide +kernel
theorem dX5_sixtiethsShared_8 : decode cX5_sixtiethsShared 8 = .ok (.iconst 0, 1) := by decide +kernel
theorem dX5_sixtiethsShared_9 : decode cX5_sixtiethsShared 9 = .ok (.istore 4, 2) := by decide +kernel
theorem dX5_sixtiethsShared_11 : decode cX5_sixtiethsShared 11 = .ok (.iload 4, 2) := by decide +kernel
theorem dX5_sixtiethsShared_13 : decode cX5_sixtiethsShared 13 = .ok (.iload_n 3, 1) := by decide +kernel
theorem dX5_sixtiethsShared_14 : decode cX5_sixtiethsShared 14 = .ok (.if_icmp .ge 24, 3) := by decide +kernel
theorem dX5_sixtiethsShared_17 : decode cX5_sixtiethsShared 17 = .ok (.aload_n 0, 1) := by decide +kernel
theorem dX5_sixtiethsShared_18 : decode cX5_sixtiethsShared 18 = .ok (.getfield 18, 3) := by decide +kernel
theorem dX5_sixtiethsShared_21 : decode cX5_sixtiethsShared 21 = .ok (.iload 4, 2) := by decide +kernel
theorem dX5_sixtiethsShared_23 : decode cX5_sixtiethsShared 23 = .ok (.aload_n 0, 1) := by decide +kernel
theorem dX5_sixtiethsShared_24 : decode cX5_sixtiethsShared 24 = .ok (.aload_n 1, 1) := by decide +kernel
theorem dX5_sixtiethsShared_25 : decode cX5_sixtiethsShared 25 = .ok (.iload 4, 2) := by decide +kernel
theorem dX5_sixtiethsShared_27 : decode cX5_sixtiethsShared 27 = .ok (.iconst 2, 1) := by decide +kernel
theorem dX5_sixtiethsShared_28 : decode cX5_sixtiethsShared 28 = .ok (.invokevirtual 61, 3) := by decide +kernel
theorem dX5_sixtiethsShared_31 : decode cX5_sixtiethsShared 31 = .ok (.iastore, 1) := by decide +kernel
theorem dX5_sixtiethsShared_32 : decode cX5_sixtiethsShared 32 = .ok (.iinc 4 1, 3) := by decide +kernel
theorem dX5_sixtiethsShared_35 : decode cX5_sixtiethsShared 35 = .ok (.goto (-24), 3) := by decide +kernel
theorem dX5_sixtiethsShared_38 : decode cX5_sixtiethsShared 38 = .ok (.iconst 0, 1) := by decide +kernel
theorem dX5_sixtiethsShared_39 : decode cX5_sixtiethsShared 39 = .ok (.istore 4, 2) := by decide +kernel
theorem dX5_sixtiethsShared_41 : decode cX5_sixtiethsShared 41 = .ok (.iconst 0, 1) := by decide +kernel
theorem dX5_sixtiethsShared_42 : decode cX5_sixtiethsShared 42 = .ok (.istore 5, 2) := by decide +kernel
theorem dX5_sixtiethsShared_44 : decode cX5_sixtiethsShared 44 = .ok (.iload 5, 2) := by decide +kernel
theorem dX5_sixtiethsShared_46 : decode cX5_sixtiethsShared 46 = .ok (.bipush 20, 2) := by decide +kernel
theorem dX5_sixtiethsShared_48 : decode cX5_sixtiethsShared 48 = .ok (.if_icmp .ge 73, 3) := by decide +kernel
theorem dX5_sixtiethsShared_51 : decode cX5_sixtiethsShared 51 = .ok (.iconst 0, 1) := by decide +kernel
theorem dX5_sixtiethsShared_52 : decode cX5_sixtiethsShared 52 = .ok (.istore 6, 2) := by decide +kernel
theorem dX5_sixtiethsShared_54 : decode cX5_sixtiethsShared 54 = .ok (.iconst 0, 1) := by decide +kernel
theorem dX5_sixtiethsShared_55 : decode cX5_sixtiethsShared 55 = .ok (.istore 7, 2) := by decide +kernel
theorem dX5_sixtiethsShared_57 : decode cX5_sixtiethsShared 57 = .ok (.iload 7, 2) := by decide +kernel
theorem dX5_sixtiethsShared_59 : decode cX5_sixtiethsShared 59 = .ok (.iload_n 3, 1) := by decide +kernel
theorem dX5_sixtiethsShared_60 : decode cX5_sixtiethsShared 60 = .ok (.if_icmp .ge 26, 3) := by decide +kernel
theorem dX5_sixtiethsShared_63 : decode cX5_sixtiethsShared 63 = .ok (.iload 6, 2) := by decide +kernel
theorem dX5_sixtiethsShared_65 : decode cX5_sixtiethsShared 65 = .ok (.aload_n 0, 1) := by decide +kernel
theorem dX5_sixtiethsShared_66 : decode cX5_sixtiethsShared 66 = .ok (.getfield 18, 3) := by decide +kernel
theorem dX5_sixtiethsShared_69 : decode cX5_sixtiethsShared 69 = .ok (.iload 7, 2) := by decide +kernel
theorem dX5_sixtiethsShared_71 : decode cX5_sixtiethsShared 71 = .ok (.iaload, 1) := by decide +kernel
theorem dX5_sixtiethsShared_72 : decode cX5_sixtiethsShared 72 = .ok (.iload 5, 2) := by decide +kernel
theorem dX5_sixtiethsShared_74 : decode cX5_sixtiethsShared 74 = .ok (.ishr, 1) := by decide +kernel
theorem dX5_sixtiethsShared_75 : decode cX5_sixtiethsShared 75 = .ok (.iconst 1, 1) := by decide +kernel
theorem dX5_sixtiethsShared_76 : decode cX5_sixtiethsShared 76 = .ok (.iand, 1) := by decide +kernel
theorem dX5_sixtiethsShared_77 : decode cX5_sixtiethsShared 77 = .ok (.iadd, 1) := by decide +kernel
theorem dX5_sixtiethsShared_78 : decode cX5_sixtiethsShared 78 = .ok (.istore 6, 2) := by decide +kernel
theorem dX5_sixtiethsShared_80 : decode cX5_sixtiethsShared 80 = .ok (.iinc 7 1, 3) := by decide +kernel
theorem dX5_sixtiethsShared_83 : decode cX5_sixtiethsShared 83 = .ok (.goto (-26), 3) := by decide +kernel
theorem dX5_sixtiethsShared_86 : decode cX5_sixtiethsShared 86 = .ok (.iload 6, 2) := by decide +kernel
theorem dX5_sixtiethsShared_88 : decode cX5_sixtiethsShared 88 = .ok (.ifCond .le 27, 3) := by decide +kernel
theorem dX5_sixtiethsShared_91 : decode cX5_sixtiethsShared 91 = .ok (.aload_n 0, 1) := by decide +kernel
theorem dX5_sixtiethsShared_92 : decode cX5_sixtiethsShared 92 = .ok (.getfield 18, 3) := by decide +kernel
theorem dX5_sixtiethsShared_95 : decode cX5_sixtiethsShared 95 = .ok (.iload_n 2, 1) := by decide +kernel
theorem dX5_sixtiethsShared_96 : decode cX5_sixtiethsShared 96 = .ok (.iaload, 1) := by decide +kernel
theorem dX5_sixtiethsShared_97 : decode cX5_sixtiethsShared 97 = .ok (.iload 5, 2) := by decide +kernel
theorem dX5_sixtiethsShared_99 : decode cX5_sixtiethsShared 99 = .ok (.ishr, 1) := by decide +kernel
theorem dX5_sixtiethsShared_100 : decode cX5_sixtiethsShared 100 = .ok (.iconst 1, 1) := by decide +kernel
theorem dX5_sixtiethsShared_101 : decode cX5_sixtiethsShared 101 = .ok (.iand, 1) := by decide +kernel
theorem dX5_sixtiethsShared_102 : decode cX5_sixtiethsShared 102 = .ok (.ifCond .eq 13, 3) := by decide +kernel
theorem dX5_sixtiethsShared_105 : decode cX5_sixtiethsShared 105 = .ok (.iload 4, 2) := by decide +kernel
theorem dX5_sixtiethsShared_107 : decode cX5_sixtiethsShared 107 = .ok (.bipush 60, 2) := by decide +kernel
theorem dX5_sixtiethsShared_109 : decode cX5_sixtiethsShared 109 = .ok (.iload 6, 2) := by decide +kernel
theorem dX5_sixtiethsShared_111 : decode cX5_sixtiethsShared 111 = .ok (.idiv, 1) := by decide +kernel
theorem dX5_sixtiethsShared_112 : decode cX5_sixtiethsShared 112 = .ok (.iadd, 1) := by decide +kernel
theorem dX5_sixtiethsShared_113 : decode cX5_sixtiethsShared 113 = .ok (.istore 4, 2) := by decide +kernel
theorem dX5_sixtiethsShared_115 : decode cX5_sixtiethsShared 115 = .ok (.iinc 5 1, 3) := by decide +kernel
theorem dX5_sixtiethsShared_118 : decode cX5_sixtiethsShared 118 = .ok (.goto (-74), 3) := by decide +kernel
theorem dX5_sixtiethsShared_121 : decode cX5_sixtiethsShared 121 = .ok (.iload 4, 2) := by decide +kernel
theorem dX5_sixtiethsShared_123 : decode cX5_sixtiethsShared 123 = .ok (.ireturn, 1) := by decide +kernel
theorem dX6_init_0 : decode cX6_init 0 = .ok (.aload_n 0, 1) := by decide +kernel
theorem dX6_init_1 : decode cX6_init 1 = .ok (.invokespecial 3, 3) := by decide +kernel
theorem dX6_init_4 : decode cX6_init 4 = .ok (.aload_n 0, 1) := by decide +kernel
theorem dX6_init_5 : decode cX6_init 5 = .ok (.bipush 6, 2) := by decide +kernel
theorem dX6_init_7 : decode cX6_init 7 = .ok (.newarray .int, 2) := by decide +kernel
theorem dX6_init_9 : decode cX6_init 9 = .ok (.putfield 9, 3) := by decide +kernel
theorem dX6_init_12 : decode cX6_init 12 = .ok (.aload_n 0, 1) := by decide +kernel
theorem dX6_init_13 : decode cX6_init 13 = .ok (.bipush 6, 2) := by decide +kernel
theorem dX6_init_15 : decode cX6_init 15 = .ok (.newarray .int, 2) := by decide +kernel
theorem dX6_init_17 : decode cX6_init 17 = .ok (.putfield 15, 3) := by decide +kernel
theorem dX6_init_20 : decode cX6_init 20 = .ok (.aload_n 0, 1) := by decide +kernel
theorem dX6_init_21 : decode cX6_init 21 = .ok (.bipush 6, 2) := by decide +kernel
theorem dX6_init_23 : decode cX6_init 23 = .ok (.newarray .int, 2) := by decide +kernel
theorem dX6_init_25 : decode cX6_init 25 = .ok (.putfield 18, 3) := by decide +kernel
theorem dX6_init_28 : decode cX6_init 28 = .ok (.return_, 1) := by decide +kernel
theorem dX6_add_0 : decode cX6_add 0 = .ok (.aload_n 0, 1) := by decide +kernel
theorem dX6_add_1 : decode cX6_add 1 = .ok (.getfield 21, 3) := by decide +kernel
theorem dX6_add_4 : decode cX6_add 4 = .ok (.bipush 6, 2) := by decide +kernel
theorem dX6_add_6 : decode cX6_add 6 = .ok (.if_icmp .lt 5, 3) := by decide +kernel
theorem dX6_add_9 : decode cX6_add 9 = .ok (.iconst 0, 1) := by decide +kernel
theorem dX6_add_10 : decode cX6_add 10 = .ok (.ireturn, 1) := by decide +kernel
theorem dX6_add_11 : decode cX6_add 11 = .ok (.aload_n 0, 1) := by decide +kernel
theorem dX6_add_12 : decode cX6_add 12 = .ok (.getfield 9, 3) := by decide +kernel
theorem dX6_add_15 : decode cX6_add 15 = .ok (.aload_n 0, 1) := by decide +kernel
theorem dX6_add_16 : decode cX6_add 16 = .ok (.getfield 21, 3) := by decide +kernel
theorem dX6_add_19 : decode cX6_add 19 = .ok (.iload_n 1, 1) := by decide +kernel
theorem dX6_add_20 : decode cX6_add 20 = .ok (.iastore, 1) := by decide +kernel
theorem dX6_add_21 : decode cX6_add 21 = .ok (.aload_n 0, 1) := by decide +kernel
theorem dX6_add_22 : decode cX6_add 22 = .ok (.getfield 15, 3) := by decide +kernel
theorem dX6_add_25 : decode cX6_add 25 = .ok (.aload_n 0, 1) := by decide +kernel
theorem dX6_add_26 : decode cX6_add 26 = .ok (.getfield 21, 3) := by decide +kernel
theorem dX6_add_29 : decode cX6_add 29 = .ok (.iload_n 2, 1) := by decide +kernel
theorem dX6_add_30 : decode cX6_add 30 = .ok (.iastore, 1) := by decide +kernel
theorem dX6_add_31 : decode cX6_add 31 = .ok (.aload_n 0, 1) := by decide +kernel
theorem dX6_add_32 : decode cX6_add 32 = .ok (.getfield 18, 3) := by decide +kernel
theorem dX6_add_35 : decode cX6_add 35 = .ok (.aload_n 0, 1) := by decide +kernel
theorem dX6_add_36 : decode cX6_add 36 = .ok (.getfield 21, 3) := by decide +kernel
theorem dX6_add_39 : decode cX6_add 39 = .ok (.iload_n 3, 1) := by decide +kernel
theorem dX6_add_40 : decode cX6_add 40 = .ok (.iastore, 1) := by decide +kernel
theorem dX6_add_41 : decode cX6_add 41 = .ok (.aload_n 0, 1) := by decide +kernel
theorem dX6_add_42 : decode cX6_add 42 = .ok (.dup, 1) := by decide +kernel
theorem dX6_add_43 : decode cX6_add 43 = .ok (.getfield 21, 3) := by decide +kernel
theorem dX6_add_46 : decode cX6_add 46 = .ok (.iconst 1, 1) := by decide +kernel
theorem dX6_add_47 : decode cX6_add 47 = .ok (.iadd, 1) := by decide +kernel
theorem dX6_add_48 : decode cX6_add 48 = .ok (.putfield 21, 3) := by decide +kernel
theorem dX6_add_51 : decode cX6_add 51 = .ok (.iconst 1, 1) := by decide +kernel
theorem dX6_add_52 : decode cX6_add 52 = .ok (.ireturn, 1) := by decide +kernel
theorem dX6_isSoFrom_0 : decode cX6_isSoFrom 0 = .ok (.iconst 0, 1) := by decide +kernel
theorem dX6_isSoFrom_1 : decode cX6_isSoFrom 1 = .ok (.istore_n 3, 1) := by decide +kernel
theorem dX6_isSoFrom_2 : decode cX6_isSoFrom 2 = .ok (.iload_n 3, 1) := by decide +kernel
theorem dX6_isSoFrom_3 : decode cX6_isSoFrom 3 = .ok (.aload_n 0, 1) := by decide +kernel
theorem dX6_isSoFrom_4 : decode cX6_isSoFrom 4 = .ok (.getfield 21, 3) := by decide +kernel
theorem dX6_isSoFrom_7 : decode cX6_isSoFrom 7 = .ok (.if_icmp .ge 69, 3) := by decide +kernel
theorem dX6_isSoFrom_10 : decode cX6_isSoFrom 10 = .ok (.iload_n 3, 1) := by decide +kernel
theorem dX6_isSoFrom_11 : decode cX6_isSoFrom 11 = .ok (.bipush 6, 2) := by decide +kernel
theorem dX6_isSoFrom_13 : decode cX6_isSoFrom 13 = .ok (.if_icmp .ge 63, 3) := by decide +kernel
theorem dX6_isSoFrom_16 : decode cX6_isSoFrom 16 = .ok (.aload_n 1, 1) := by decide +kernel
theorem dX6_isSoFrom_17 : decode cX6_isSoFrom 17 = .ok (.getfield 25, 3) := by decide +kernel
theorem dX6_isSoFrom_20 : decode cX6_isSoFrom 20 = .ok (.iload_n 2, 1) := by decide +kernel
theorem dX6_isSoFrom_21 : decode cX6_isSoFrom 21 = .ok (.aload_n 0, 1) := by decide +kernel
theorem dX6_isSoFrom_22 : decode cX6_isSoFrom 22 = .ok (.getfield 9, 3) := by decide +kernel
theorem dX6_isSoFrom_25 : decode cX6_isSoFrom 25 = .ok (.iload_n 3, 1) := by decide +kernel
theorem dX6_isSoFrom_26 : decode cX6_isSoFrom 26 = .ok (.iaload, 1) := by decide +kernel
theorem dX6_isSoFrom_27 : decode cX6_isSoFrom 27 = .ok (.iconst 1, 1) := by decide +kernel
theorem dX6_isSoFrom_28 : decode cX6_isSoFrom 28 = .ok (.iconst 0, 1) := by decide +kernel
theorem dX6_isSoFrom_29 : decode cX6_isSoFrom 29 = .ok (.invokestatic 31, 3) := by decide +kernel
theorem dX6_isSoFrom_32 : decode cX6_isSoFrom 32 = .ok (.istore 4, 2) := by decide +kernel
theorem dX6_isSoFrom_34 : decode cX6_isSoFrom 34 = .ok (.aload_n 1, 1) := by decide +kernel
theorem dX6_isSoFrom_35 : decode cX6_isSoFrom 35 = .ok (.getfield 25, 3) := by decide +kernel
theorem dX6_isSoFrom_38 : decode cX6_isSoFrom 38 = .ok (.iload 4, 2) := by decide +kernel
theorem dX6_isSoFrom_40 : decode cX6_isSoFrom 40 = .ok (.aload_n 0, 1) := by decide +kernel
theorem dX6_isSoFrom_41 : decode cX6_isSoFrom 41 = .ok (.getfield 15, 3) := by decide +kernel
theorem dX6_isSoFrom_44 : decode cX6_isSoFrom 44 = .ok (.iload_n 3, 1) := by decide +kernel
theorem dX6_isSoFrom_45 : decode cX6_isSoFrom 45 = .ok (.iaload, 1) := by decide +kernel
theorem dX6_isSoFrom_46 : decode cX6_isSoFrom 46 = .ok (.iconst 3, 1) := by decide +kernel
theorem dX6_isSoFrom_47 : decode cX6_isSoFrom 47 = .ok (.iconst 2, 1) := by decide +kernel
theorem dX6_isSoFrom_48 : decode cX6_isSoFrom 48 = .ok (.invokestatic 31, 3) := by decide +kernel
theorem dX6_isSoFrom_51 : decode cX6_isSoFrom 51 = .ok (.istore 5, 2) := by decide +kernel
theorem dX6_isSoFrom_53 : decode cX6_isSoFrom 53 = .ok (.aload_n 1, 1) := by decide +kernel
theorem dX6_isSoFrom_54 : decode cX6_isSoFrom 54 = .ok (.iload 5, 2) := by decide +kernel
theorem dX6_isSoFrom_56 : decode cX6_isSoFrom 56 = .ok (.invokevirtual 35, 3) := by decide +kernel
theorem dX6_isSoFrom_59 : decode cX6_isSoFrom 59 = .ok (.aload_n 0, 1) := by decide +kernel
theorem dX6_isSoFrom_60 : decode cX6_isSoFrom 60 = .ok (.getfield 18, 3) := by decide +kernel
theorem dX6_isSoFrom_63 : decode cX6_isSoFrom 63 = .ok (.iload_n 3, 1) := by decide +kernel
theorem dX6_isSoFrom_64 : decode cX6_isSoFrom 64 = .ok (.iaload, 1) := by decide +kernel
theorem dX6_isSoFrom_65 : decode cX6_isSoFrom 65 = .ok (.if_icmp .eq 5, 3) := by decide +kernel
theorem dX6_isSoFrom_68 : decode cX6_isSoFrom 68 = .ok (.iconst 0, 1) := by decide +kernel
theorem dX6_isSoFrom_69 : decode cX6_isSoFrom 69 = .ok (.ireturn, 1) := by decide +kernel
theorem dX6_isSoFrom_70 : decode cX6_isSoFrom 70 = .ok (.iinc 3 1, 3) := by decide +kernel
theorem dX6_isSoFrom_73 : decode cX6_isSoFrom 73 = .ok (.goto (-71), 3) := by decide +kernel
theorem dX6_isSoFrom_76 : decode cX6_isSoFrom 76 = .ok (.iconst 1, 1) := by decide +kernel
theorem dX6_isSoFrom_77 : decode cX6_isSoFrom 77 = .ok (.ireturn, 1) := by decide +kernel
theorem dX6_cellOff_0 : decode cX6_cellOff 0 = .ok (.iload_n 1, 1) := by decide +kernel
theorem dX6_cellOff_1 : decode cX6_cellOff 1 = .ok (.istore 5, 2) := by decide +kernel
theorem dX6_cellOff_3 : decode cX6_cellOff 3 = .ok (.iload_n 2, 1) := by decide +kernel
theorem dX6_cellOff_4 : decode cX6_cellOff 4 = .ok (.invokestatic 39, 3) := by decide +kernel
theorem dX6_cellOff_7 : decode cX6_cellOff 7 = .ok (.istore 6, 2) := by decide +kernel
theorem dX6_cellOff_9 : decode cX6_cellOff 9 = .ok (.iconst 0, 1) := by decide +kernel
theorem dX6_cellOff_10 : decode cX6_cellOff 10 = .ok (.istore 7, 2) := by decide +kernel
theorem dX6_cellOff_12 : decode cX6_cellOff 12 = .ok (.iload 7, 2) := by decide +kernel
theorem dX6_cellOff_14 : decode cX6_cellOff 14 = .ok (.iload 6, 2) := by decide +kernel
theorem dX6_cellOff_16 : decode cX6_cellOff 16 = .ok (.if_icmp .ge 34, 3) := by decide +kernel
theorem dX6_cellOff_19 : decode cX6_cellOff 19 = .ok (.iload 7, 2) := by decide +kernel
theorem dX6_cellOff_21 : decode cX6_cellOff 21 = .ok (.iconst 4, 1) := by decide +kernel
theorem dX6_cellOff_22 : decode cX6_cellOff 22 = .ok (.if_icmp .ge 28, 3) := by decide +kernel
theorem dX6_cellOff_25 : decode cX6_cellOff 25 = .ok (.aload_n 0, 1) := by decide +kernel
theorem dX6_cellOff_26 : decode cX6_cellOff 26 = .ok (.iload 5, 2) := by decide +kernel
theorem dX6_cellOff_28 : decode cX6_cellOff 28 = .ok (.iload_n 2, 1) := by decide +kernel
theorem dX6_cellOff_29 : decode cX6_cellOff 29 = .ok (.ifCond .ge 8, 3) := by decide +kernel
theorem dX6_cellOff_32 : decode cX6_cellOff 32 = .ok (.iload 4, 2) := by decide +kernel
theorem dX6_cellOff_34 : decode cX6_cellOff 34 = .ok (.goto 4, 3) := by decide +kernel
theorem dX6_cellOff_37 : decode cX6_cellOff 37 = .ok (.iload_n 3, 1) := by decide +kernel
theorem dX6_cellOff_38 : decode cX6_cellOff 38 = .ok (.iconst 0, 1) := by decide +kernel
theorem dX6_cellOff_39 : decode cX6_cellOff 39 = .ok (.invokevirtual 44, 3) := by decide +kernel
theorem dX6_cellOff_42 : decode cX6_cellOff 42 = .ok (.istore 5, 2) := by decide +kernel
theorem dX6_cellOff_44 : decode cX6_cellOff 44 = .ok (.iinc 7 1, 3) := by decide +kernel
theorem dX6_cellOff_47 : decode cX6_cellOff 47 = .ok (.goto (-35), 3) := by decide +kernel
theorem dX6_cellOff_50 : decode cX6_cellOff 50 = .ok (.iload 5, 2) := by decide +kernel
theorem dX6_cellOff_52 : decode cX6_cellOff 52 = .ok (.ireturn, 1) := by decide +kernel
theorem dX7_init_0 : decode cX7_init 0 = .ok (.aload_n 0, 1) := by decide +kernel
theorem dX7_init_1 : decode cX7_init 1 = .ok (.invokespecial 3, 3) := by decide +kernel
theorem dX7_init_4 : decode cX7_init 4 = .ok (.aload_n 0, 1) := by decide +kernel
theorem dX7_init_5 : decode cX7_init 5 = .ok (.bipush 48, 2) := by decide +kernel
theorem dX7_init_7 : decode cX7_init 7 = .ok (.newarray .int, 2) := by decide +kernel
theorem dX7_init_9 : decode cX7_init 9 = .ok (.putfield 9, 3) := by decide +kernel
theorem dX7_init_12 : decode cX7_init 12 = .ok (.return_, 1) := by decide +kernel
theorem dX7_add_0 : decode cX7_add 0 = .ok (.aload_n 0, 1) := by decide +kernel
theorem dX7_add_1 : decode cX7_add 1 = .ok (.getfield 15, 3) := by decide +kernel
theorem dX7_add_4 : decode cX7_add 4 = .ok (.bipush 48, 2) := by decide +kernel
theorem dX7_add_6 : decode cX7_add 6 = .ok (.if_icmp .lt 5, 3) := by decide +kernel
theorem dX7_add_9 : decode cX7_add 9 = .ok (.iconst 0, 1) := by decide +kernel
theorem dX7_add_10 : decode cX7_add 10 = .ok (.ireturn, 1) := by decide +kernel
theorem dX7_add_11 : decode cX7_add 11 = .ok (.aload_n 0, 1) := by decide +kernel
theorem dX7_add_12 : decode cX7_add 12 = .ok (.getfield 9, 3) := by decide +kernel
theorem dX7_add_15 : decode cX7_add 15 = .ok (.aload_n 0, 1) := by decide +kernel
theorem dX7_add_16 : decode cX7_add 16 = .ok (.getfield 15, 3) := by decide +kernel
theorem dX7_add_19 : decode cX7_add 19 = .ok (.iload_n 1, 1) := by decide +kernel
theorem dX7_add_20 : decode cX7_add 20 = .ok (.iastore, 1) := by decide +kernel
theorem dX7_add_21 : decode cX7_add 21 = .ok (.aload_n 0, 1) := by decide +kernel
theorem dX7_add_22 : decode cX7_add 22 = .ok (.dup, 1) := by decide +kernel
theorem dX7_add_23 : decode cX7_add 23 = .ok (.getfield 15, 3) := by decide +kernel
theorem dX7_add_26 : decode cX7_add 26 = .ok (.iconst 1, 1) := by decide +kernel
theorem dX7_add_27 : decode cX7_add 27 = .ok (.iadd, 1) := by decide +kernel
theorem dX7_add_28 : decode cX7_add 28 = .ok (.putfield 15, 3) := by decide +kernel
theorem dX7_add_31 : decode cX7_add 31 = .ok (.iconst 1, 1) := by decide +kernel
theorem dX7_add_32 : decode cX7_add 32 = .ok (.ireturn, 1) := by decide +kernel
theorem dX7_firstFault_0 : decode cX7_firstFault 0 = .ok (.iconst 0, 1) := by decide +kernel
theorem dX7_firstFault_1 : decode cX7_firstFault 1 = .ok (.istore_n 1, 1) := by decide +kernel
theorem dX7_firstFault_2 : decode cX7_firstFault 2 = .ok (.iload_n 1, 1) := by decide +kernel
theorem dX7_firstFault_3 : decode cX7_firstFault 3 = .ok (.aload_n 0, 1) := by decide +kernel
theorem dX7_firstFault_4 : decode cX7_firstFault 4 = .ok (.getfield 15, 3) := by decide +kernel
theorem dX7_firstFault_7 : decode cX7_firstFault 7 = .ok (.if_icmp .ge 25, 3) := by decide +kernel
theorem dX7_firstFault_10 : decode cX7_firstFault 10 = .ok (.iload_n 1, 1) := by decide +kernel
theorem dX7_firstFault_11 : decode cX7_firstFault 11 = .ok (.bipush 48, 2) := by decide +kernel
theorem dX7_firstFault_13 : decode cX7_firstFault 13 = .ok (.if_icmp .ge 19, 3) := by decide +kernel
theorem dX7_firstFault_16 : decode cX7_firstFault 16 = .ok (.aload_n 0, 1) := by decide +kernel
theorem dX7_firstFault_17 : decode cX7_firstFault 17 = .ok (.iload_n 1, 1) := by decide +kernel
theorem dX7_firstFault_18 : decode cX7_firstFault 18 = .ok (.invokevirtual 19, 3) := by decide +kernel
theorem dX7_firstFault_21 : decode cX7_firstFault 21 = .ok (.ifCond .ne 5, 3) := by decide +kernel
theorem dX7_firstFault_24 : decode cX7_firstFault 24 = .ok (.iload_n 1, 1) := by decide +kernel
theorem dX7_firstFault_25 : decode cX7_firstFault 25 = .ok (.ireturn, 1) := by decide +kernel
theorem dX7_firstFault_26 : decode cX7_firstFault 26 = .ok (.iinc 1 1, 3) := by decide +kernel
theorem dX7_firstFault_29 : decode cX7_firstFault 29 = .ok (.goto (-27), 3) := by decide +kernel
theorem dX7_firstFault_32 : decode cX7_firstFault 32 = .ok (.aload_n 0, 1) := by decide +kernel
theorem dX7_firstFault_33 : decode cX7_firstFault 33 = .ok (.invokevirtual 23, 3) := by decide +kernel
theorem dX7_firstFault_36 : decode cX7_firstFault 36 = .ok (.ifCond .eq 8, 3) := by decide +kernel
theorem dX7_firstFault_39 : decode cX7_firstFault 39 = .ok (.bipush (-9), 2) := by decide +kernel
theorem dX7_firstFault_41 : decode cX7_firstFault 41 = .ok (.goto 7, 3) := by decide +kernel
theorem dX7_firstFault_44 : decode cX7_firstFault 44 = .ok (.aload_n 0, 1) := by decide +kernel
theorem dX7_firstFault_45 : decode cX7_firstFault 45 = .ok (.getfield 15, 3) := by decide +kernel
theorem dX7_firstFault_48 : decode cX7_firstFault 48 = .ok (.ireturn, 1) := by decide +kernel
theorem dX7_fits_0 : decode cX7_fits 0 = .ok (.aload_n 0, 1) := by decide +kernel
theorem dX7_fits_1 : decode cX7_fits 1 = .ok (.getfield 9, 3) := by decide +kernel
theorem dX7_fits_4 : decode cX7_fits 4 = .ok (.iload_n 1, 1) := by decide +kernel
theorem dX7_fits_5 : decode cX7_fits 5 = .ok (.iaload, 1) := by decide +kernel
theorem dX7_fits_6 : decode cX7_fits 6 = .ok (.istore_n 2, 1) := by decide +kernel
theorem dX7_fits_7 : decode cX7_fits 7 = .ok (.iload_n 1, 1) := by decide +kernel
theorem dX7_fits_8 : decode cX7_fits 8 = .ok (.tableswitch 102 0 3 #[32, 44, 62, 80], 32) := by decide +kernel
theorem dX7_fits_40 : decode cX7_fits 40 = .ok (.iload_n 2, 1) := by decide +kernel
theorem dX7_fits_41 : decode cX7_fits 41 = .ok (.bipush 87, 2) := by decide +kernel
theorem dX7_fits_43 : decode cX7_fits 43 = .ok (.if_icmp .ne 7, 3) := by decide +kernel
theorem dX7_fits_46 : decode cX7_fits 46 = .ok (.iconst 1, 1) := by decide +kernel
theorem dX7_fits_47 : decode cX7_fits 47 = .ok (.goto 4, 3) := by decide +kernel
theorem dX7_fits_50 : decode cX7_fits 50 = .ok (.iconst 0, 1) := by decide +kernel
theorem dX7_fits_51 : decode cX7_fits 51 = .ok (.ireturn, 1) := by decide +kernel
theorem dX7_fits_52 : decode cX7_fits 52 = .ok (.iload_n 2, 1) := by decide +kernel
theorem dX7_fits_53 : decode cX7_fits 53 = .ok (.bipush 50, 2) := by decide +kernel
theorem dX7_fits_55 : decode cX7_fits 55 = .ok (.if_icmp .lt 13, 3) := by decide +kernel
theorem dX7_fits_58 : decode cX7_fits 58 = .ok (.iload_n 2, 1) := by decide +kernel
theorem dX7_fits_59 : decode cX7_fits 59 = .ok (.bipush 53, 2) := by decide +kernel
theorem dX7_fits_61 : decode cX7_fits 61 = .ok (.if_icmp .gt 7, 3) := by decide +kernel
theorem dX7_fits_64 : decode cX7_fits 64 = .ok (.iconst 1, 1) := by decide +kernel
theorem dX7_fits_65 : decode cX7_fits 65 = .ok (.goto 4, 3) := by decide +kernel
theorem dX7_fits_68 : decode cX7_fits 68 = .ok (.iconst 0, 1) := by decide +kernel
theorem dX7_fits_69 : decode cX7_fits 69 = .ok (.ireturn, 1) := by decide +kernel
theorem dX7_fits_70 : decode cX7_fits 70 = .ok (.iload_n 2, 1) := by decide +kernel
theorem dX7_fits_71 : decode cX7_fits 71 = .ok (.bipush 50, 2) := by decide +kernel
theorem dX7_fits_73 : decode cX7_fits 73 = .ok (.if_icmp .lt 13, 3) := by decide +kernel
theorem dX7_fits_76 : decode cX7_fits 76 = .ok (.iload_n 2, 1) := by decide +kernel
theorem dX7_fits_77 : decode cX7_fits 77 = .ok (.bipush 52, 2) := by decide +kernel
theorem dX7_fits_79 : decode cX7_fits 79 = .ok (.if_icmp .gt 7, 3) := by decide +kernel
theorem dX7_fits_82 : decode cX7_fits 82 = .ok (.iconst 1, 1) := by decide +kernel
theorem dX7_fits_83 : decode cX7_fits 83 = .ok (.goto 4, 3) := by decide +kernel
theorem dX7_fits_86 : decode cX7_fits 86 = .ok (.iconst 0, 1) := by decide +kernel
theorem dX7_fits_87 : decode cX7_fits 87 = .ok (.ireturn, 1) := by decide +kernel
theorem dX7_fits_88 : decode cX7_fits 88 = .ok (.iload_n 2, 1) := by decide +kernel
theorem dX7_fits_89 : decode cX7_fits 89 = .ok (.bipush 48, 2) := by decide +kernel
theorem dX7_fits_91 : decode cX7_fits 91 = .ok (.if_icmp .lt 17, 3) := by decide +kernel
theorem dX7_fits_94 : decode cX7_fits 94 = .ok (.iload_n 2, 1) := by decide +kernel
theorem dX7_fits_95 : decode cX7_fits 95 = .ok (.aload_n 0, 1) := by decide +kernel
theorem dX7_fits_96 : decode cX7_fits 96 = .ok (.getfield 9, 3) := by decide +kernel
theorem dX7_fits_99 : decode cX7_fits 99 = .ok (.iconst 2, 1) := by decide +kernel
theorem dX7_fits_100 : decode cX7_fits 100 = .ok (.iaload, 1) := by decide +kernel
theorem dX7_fits_101 : decode cX7_fits 101 = .ok (.if_icmp .ge 7, 3) := by decide +kernel
theorem dX7_fits_104 : decode cX7_fits 104 = .ok (.iconst 1, 1) := by decide +kernel
theorem dX7_fits_105 : decode cX7_fits 105 = .ok (.goto 4, 3) := by decide +kernel
theorem dX7_fits_108 : decode cX7_fits 108 = .ok (.iconst 0, 1) := by decide +kernel
theorem dX7_fits_109 : decode cX7_fits 109 = .ok (.ireturn, 1) := by decide +kernel
theorem dX7_fits_110 : decode cX7_fits 110 = .ok (.iload_n 1, 1) := by decide +kernel
theorem dX7_fits_111 : decode cX7_fits 111 = .ok (.iconst 4, 1) := by decide +kernel
theorem dX7_fits_112 : decode cX7_fits 112 = .ok (.isub, 1) := by decide +kernel
theorem dX7_fits_113 : decode cX7_fits 113 = .ok (.aload_n 0, 1) := by decide +kernel
theorem dX7_fits_114 : decode cX7_fits 114 = .ok (.invokevirtual 27, 3) := by decide +kernel
theorem dX7_fits_117 : decode cX7_fits 117 = .ok (.isub, 1) := by decide +kernel
theorem dX7_fits_118 : decode cX7_fits 118 = .ok (.istore_n 3, 1) := by decide +kernel
theorem dX7_fits_119 : decode cX7_fits 119 = .ok (.iload_n 3, 1) := by decide +kernel
theorem dX7_fits_120 : decode cX7_fits 120 = .ok (.ifCond .ge 18, 3) := by decide +kernel
theorem dX7_fits_123 : decode cX7_fits 123 = .ok (.iload_n 2, 1) := by decide +kernel
theorem dX7_fits_124 : decode cX7_fits 124 = .ok (.invokestatic 31, 3) := by decide +kernel
theorem dX7_fits_127 : decode cX7_fits 127 = .ok (.bipush (-9), 2) := by decide +kernel
theorem dX7_fits_129 : decode cX7_fits 129 = .ok (.if_icmp .eq 7, 3) := by decide +kernel
theorem dX7_fits_132 : decode cX7_fits 132 = .ok (.iconst 1, 1) := by decide +kernel
theorem dX7_fits_133 : decode cX7_fits 133 = .ok (.goto 4, 3) := by decide +kernel
theorem dX7_fits_136 : decode cX7_fits 136 = .ok (.iconst 0, 1) := by decide +kernel
theorem dX7_fits_137 : decode cX7_fits 137 = .ok (.ireturn, 1) := by decide +kernel
theorem dX7_fits_138 : decode cX7_fits 138 = .ok (.iload_n 3, 1) := by decide +kernel
theorem dX7_fits_139 : decode cX7_fits 139 = .ok (.bipush 15, 2) := by decide +kernel
theorem dX7_fits_141 : decode cX7_fits 141 = .ok (.if_icmp .ge 18, 3) := by decide +kernel
theorem dX7_fits_144 : decode cX7_fits 144 = .ok (.aload_n 0, 1) := by decide +kernel
theorem dX7_fits_145 : decode cX7_fits 145 = .ok (.iload_n 3, 1) := by decide +kernel
theorem dX7_fits_146 : decode cX7_fits 146 = .ok (.iconst 3, 1) := by decide +kernel
theorem dX7_fits_147 : decode cX7_fits 147 = .ok (.irem, 1) := by decide +kernel
theorem dX7_fits_148 : decode cX7_fits 148 = .ok (.iload_n 2, 1) := by decide +kernel
theorem dX7_fits_149 : decode cX7_fits 149 = .ok (.invokevirtual 35, 3) := by decide +kernel
theorem dX7_fits_152 : decode cX7_fits 152 = .ok (.ifCond .eq 7, 3) := by decide +kernel
theorem dX7_fits_155 : decode cX7_fits 155 = .ok (.iconst 1, 1) := by decide +kernel
theorem dX7_fits_156 : decode cX7_fits 156 = .ok (.goto 4, 3) := by decide +kernel
theorem dX7_fits_159 : decode cX7_fits 159 = .ok (.iconst 0, 1) := by decide +kernel
theorem dX7_fits_160 : decode cX7_fits 160 = .ok (.ireturn, 1) := by decide +kernel
theorem dX7_fitsInBoy_0 : decode cX7_fitsInBoy 0 = .ok (.iload_n 1, 1) := by decide +kernel
theorem dX7_fitsInBoy_1 : decode cX7_fitsInBoy 1 = .ok (.ifCond .ne 22, 3) := by decide +kernel
theorem dX7_fitsInBoy_4 : decode cX7_fitsInBoy 4 = .ok (.iload_n 2, 1) := by decide +kernel
theorem dX7_fitsInBoy_5 : decode cX7_fitsInBoy 5 = .ok (.bipush 80, 2) := by decide +kernel
theorem dX7_fitsInBoy_7 : decode cX7_fitsInBoy 7 = .ok (.if_icmp .ne 14, 3) := by decide +kernel
theorem dX7_fitsInBoy_10 : decode cX7_fitsInBoy 10 = .ok (.aload_n 0, 1) := by decide +kernel
theorem dX7_fitsInBoy_11 : decode cX7_fitsInBoy 11 = .ok (.invokevirtual 39, 3) := by decide +kernel
theorem dX7_fitsInBoy_14 : decode cX7_fitsInBoy 14 = .ok (.ifCond .eq 7, 3) := by decide +kernel
theorem dX7_fitsInBoy_17 : decode cX7_fitsInBoy 17 = .ok (.iconst 1, 1) := by decide +kernel
theorem dX7_fitsInBoy_18 : decode cX7_fitsInBoy 18 = .ok (.goto 4, 3) := by decide +kernel
theorem dX7_fitsInBoy_21 : decode cX7_fitsInBoy 21 = .ok (.iconst 0, 1) := by decide +kernel
theorem dX7_fitsInBoy_22 : decode cX7_fitsInBoy 22 = .ok (.ireturn, 1) := by decide +kernel
theorem dX7_fitsInBoy_23 : decode cX7_fitsInBoy 23 = .ok (.iload_n 1, 1) := by decide +kernel
theorem dX7_fitsInBoy_24 : decode cX7_fitsInBoy 24 = .ok (.iconst 1, 1) := by decide +kernel
theorem dX7_fitsInBoy_25 : decode cX7_fitsInBoy 25 = .ok (.if_icmp .ne 14, 3) := by decide +kernel
theorem dX7_fitsInBoy_28 : decode cX7_fitsInBoy 28 = .ok (.aload_n 0, 1) := by decide +kernel
theorem dX7_fitsInBoy_29 : decode cX7_fitsInBoy 29 = .ok (.iload_n 2, 1) := by decide +kernel
theorem dX7_fitsInBoy_30 : decode cX7_fitsInBoy 30 = .ok (.bipush 97, 2) := by decide +kernel
theorem dX7_fitsInBoy_32 : decode cX7_fitsInBoy 32 = .ok (.isub, 1) := by decide +kernel
theorem dX7_fitsInBoy_33 : decode cX7_fitsInBoy 33 = .ok (.invokevirtual 42, 3) := by decide +kernel
theorem dX7_fitsInBoy_36 : decode cX7_fitsInBoy 36 = .ok (.goto 20, 3) := by decide +kernel
theorem dX7_fitsInBoy_39 : decode cX7_fitsInBoy 39 = .ok (.iload_n 2, 1) := by decide +kernel
theorem dX7_fitsInBoy_40 : decode cX7_fitsInBoy 40 = .ok (.bipush 48, 2) := by decide +kernel
theorem dX7_fitsInBoy_42 : decode cX7_fitsInBoy 42 = .ok (.if_icmp .lt 13, 3) := by decide +kernel
theorem dX7_fitsInBoy_45 : decode cX7_fitsInBoy 45 = .ok (.iload_n 2, 1) := by decide +kernel
theorem dX7_fitsInBoy_46 : decode cX7_fitsInBoy 46 = .ok (.bipush 51, 2) := by decide +kernel
theorem dX7_fitsInBoy_48 : decode cX7_fitsInBoy 48 = .ok (.if_icmp .gt 7, 3) := by decide +kernel
theorem dX7_fitsInBoy_51 : decode cX7_fitsInBoy 51 = .ok (.iconst 1, 1) := by decide +kernel
theorem dX7_fitsInBoy_52 : decode cX7_fitsInBoy 52 = .ok (.goto 4, 3) := by decide +kernel
theorem dX7_fitsInBoy_55 : decode cX7_fitsInBoy 55 = .ok (.iconst 0, 1) := by decide +kernel
theorem dX7_fitsInBoy_56 : decode cX7_fitsInBoy 56 = .ok (.ireturn, 1) := by decide +kernel
theorem dX7_isFreeCell_0 : decode cX7_isFreeCell 0 = .ok (.iload_n 1, 1) := by decide +kernel
theorem dX7_isFreeCell_1 : decode cX7_isFreeCell 1 = .ok (.ifCond .lt 36, 3) := by decide +kernel
theorem dX7_isFreeCell_4 : decode cX7_isFreeCell 4 = .ok (.iload_n 1, 1) := by decide +kernel
theorem dX7_isFreeCell_5 : decode cX7_isFreeCell 5 = .ok (.aload_n 0, 1) := by decide +kernel
theorem dX7_isFreeCell_6 : decode cX7_isFreeCell 6 = .ok (.invokevirtual 27, 3) := by decide +kernel
theorem dX7_isFreeCell_9 : decode cX7_isFreeCell 9 = .ok (.if_icmp .ge 28, 3) := by decide +kernel
theorem dX7_isFreeCell_12 : decode cX7_isFreeCell 12 = .ok (.iload_n 1, 1) := by decide +kernel
theorem dX7_isFreeCell_13 : decode cX7_isFreeCell 13 = .ok (.bipush 20, 2) := by decide +kernel
theorem dX7_isFreeCell_15 : decode cX7_isFreeCell 15 = .ok (.if_icmp .ge 22, 3) := by decide +kernel
theorem dX7_isFreeCell_18 : decode cX7_isFreeCell 18 = .ok (.aload_n 0, 1) := by decide +kernel
theorem dX7_isFreeCell_19 : decode cX7_isFreeCell 19 = .ok (.getfield 9, 3) := by decide +kernel
theorem dX7_isFreeCell_22 : decode cX7_isFreeCell 22 = .ok (.iconst 4, 1) := by decide +kernel
theorem dX7_isFreeCell_23 : decode cX7_isFreeCell 23 = .ok (.iload_n 1, 1) := by decide +kernel
theorem dX7_isFreeCell_24 : decode cX7_isFreeCell 24 = .ok (.iadd, 1) := by decide +kernel
theorem dX7_isFreeCell_25 : decode cX7_isFreeCell 25 = .ok (.iaload, 1) := by decide +kernel
theorem dX7_isFreeCell_26 : decode cX7_isFreeCell 26 = .ok (.invokestatic 31, 3) := by decide +kernel
theorem dX7_isFreeCell_29 : decode cX7_isFreeCell 29 = .ok (.iconst 1, 1) := by decide +kernel
theorem dX7_isFreeCell_30 : decode cX7_isFreeCell 30 = .ok (.if_icmp .eq 7, 3) := by decide +kernel
theorem dX7_isFreeCell_33 : decode cX7_isFreeCell 33 = .ok (.iconst 1, 1) := by decide +kernel
theorem dX7_isFreeCell_34 : decode cX7_isFreeCell 34 = .ok (.goto 4, 3) := by decide +kernel
theorem dX7_isFreeCell_37 : decode cX7_isFreeCell 37 = .ok (.iconst 0, 1) := by decide +kernel
theorem dX7_isFreeCell_38 : decode cX7_isFreeCell 38 = .ok (.ireturn, 1) := by decide +kernel
theorem dX7_hasFreeCell_0 : decode cX7_hasFreeCell 0 = .ok (.iconst 0, 1) := by decide +kernel
theorem dX7_hasFreeCell_1 : decode cX7_hasFreeCell 1 = .ok (.istore_n 1, 1) := by decide +kernel
theorem dX7_hasFreeCell_2 : decode cX7_hasFreeCell 2 = .ok (.iload_n 1, 1) := by decide +kernel
theorem dX7_hasFreeCell_3 : decode cX7_hasFreeCell 3 = .ok (.bipush 20, 2) := by decide +kernel
theorem dX7_hasFreeCell_5 : decode cX7_hasFreeCell 5 = .ok (.if_icmp .ge 19, 3) := by decide +kernel
theorem dX7_hasFreeCell_8 : decode cX7_hasFreeCell 8 = .ok (.aload_n 0, 1) := by decide +kernel
theorem dX7_hasFreeCell_9 : decode cX7_hasFreeCell 9 = .ok (.iload_n 1, 1) := by decide +kernel
theorem dX7_hasFreeCell_10 : decode cX7_hasFreeCell 10 = .ok (.invokevirtual 42, 3) := by decide +kernel
theorem dX7_hasFreeCell_13 : decode cX7_hasFreeCell 13 = .ok (.ifCond .eq 5, 3) := by decide +kernel
theorem dX7_hasFreeCell_16 : decode cX7_hasFreeCell 16 = .ok (.iconst 1, 1) := by decide +kernel
theorem dX7_hasFreeCell_17 : decode cX7_hasFreeCell 17 = .ok (.ireturn, 1) := by decide +kernel
theorem dX7_hasFreeCell_18 : decode cX7_hasFreeCell 18 = .ok (.iinc 1 1, 3) := by decide +kernel
theorem dX7_hasFreeCell_21 : decode cX7_hasFreeCell 21 = .ok (.goto (-19), 3) := by decide +kernel
theorem dX7_hasFreeCell_24 : decode cX7_hasFreeCell 24 = .ok (.iconst 0, 1) := by decide +kernel
theorem dX7_hasFreeCell_25 : decode cX7_hasFreeCell 25 = .ok (.ireturn, 1) := by decide +kernel
theorem dX7_isWhole_0 : decode cX7_isWhole 0 = .ok (.aload_n 0, 1) := by decide +kernel
theorem dX7_isWhole_1 : decode cX7_isWhole 1 = .ok (.getfield 15, 3) := by decide +kernel
theorem dX7_isWhole_4 : decode cX7_isWhole 4 = .ok (.iconst 4, 1) := by decide +kernel
theorem dX7_isWhole_5 : decode cX7_isWhole 5 = .ok (.if_icmp .ge 5, 3) := by decide +kernel
theorem dX7_isWhole_8 : decode cX7_isWhole 8 = .ok (.iconst 0, 1) := by decide +kernel
theorem dX7_isWhole_9 : decode cX7_isWhole 9 = .ok (.ireturn, 1) := by decide +kernel
theorem dX7_isWhole_10 : decode cX7_isWhole 10 = .ok (.aload_n 0, 1) := by decide +kernel
theorem dX7_isWhole_11 : decode cX7_isWhole 11 = .ok (.getfield 15, 3) := by decide +kernel
theorem dX7_isWhole_14 : decode cX7_isWhole 14 = .ok (.iconst 4, 1) := by decide +kernel
theorem dX7_isWhole_15 : decode cX7_isWhole 15 = .ok (.isub, 1) := by decide +kernel
theorem dX7_isWhole_16 : decode cX7_isWhole 16 = .ok (.aload_n 0, 1) := by decide +kernel
theorem dX7_isWhole_17 : decode cX7_isWhole 17 = .ok (.invokevirtual 27, 3) := by decide +kernel
theorem dX7_isWhole_20 : decode cX7_isWhole 20 = .ok (.isub, 1) := by decide +kernel
theorem dX7_isWhole_21 : decode cX7_isWhole 21 = .ok (.istore_n 1, 1) := by decide +kernel
theorem dX7_isWhole_22 : decode cX7_isWhole 22 = .ok (.iload_n 1, 1) := by decide +kernel
theorem dX7_isWhole_23 : decode cX7_isWhole 23 = .ok (.ifCond .lt 13, 3) := by decide +kernel
theorem dX7_isWhole_26 : decode cX7_isWhole 26 = .ok (.iload_n 1, 1) := by decide +kernel
theorem dX7_isWhole_27 : decode cX7_isWhole 27 = .ok (.iconst 3, 1) := by decide +kernel
theorem dX7_isWhole_28 : decode cX7_isWhole 28 = .ok (.irem, 1) := by decide +kernel
theorem dX7_isWhole_29 : decode cX7_isWhole 29 = .ok (.ifCond .ne 7, 3) := by decide +kernel
theorem dX7_isWhole_32 : decode cX7_isWhole 32 = .ok (.iconst 1, 1) := by decide +kernel
theorem dX7_isWhole_33 : decode cX7_isWhole 33 = .ok (.goto 4, 3) := by decide +kernel
theorem dX7_isWhole_36 : decode cX7_isWhole 36 = .ok (.iconst 0, 1) := by decide +kernel
theorem dX7_isWhole_37 : decode cX7_isWhole 37 = .ok (.ireturn, 1) := by decide +kernel
theorem dX7_figure_0 : decode cX7_figure 0 = .ok (.aload_n 0, 1) := by decide +kernel
theorem dX7_figure_1 : decode cX7_figure 1 = .ok (.getfield 9, 3) := by decide +kernel
theorem dX7_figure_4 : decode cX7_figure 4 = .ok (.iload_n 1, 1) := by decide +kernel
theorem dX7_figure_5 : decode cX7_figure 5 = .ok (.iaload, 1) := by decide +kernel
theorem dX7_figure_6 : decode cX7_figure 6 = .ok (.bipush 48, 2) := by decide +kernel
theorem dX7_figure_8 : decode cX7_figure 8 = .ok (.isub, 1) := by decide +kernel
theorem dX7_figure_9 : decode cX7_figure 9 = .ok (.ireturn, 1) := by decide +kernel
theorem dX7_cells_0 : decode cX7_cells 0 = .ok (.aload_n 0, 1) := by decide +kernel
theorem dX7_cells_1 : decode cX7_cells 1 = .ok (.iconst 1, 1) := by decide +kernel
theorem dX7_cells_2 : decode cX7_cells 2 = .ok (.invokevirtual 45, 3) := by decide +kernel
theorem dX7_cells_5 : decode cX7_cells 5 = .ok (.aload_n 0, 1) := by decide +kernel
theorem dX7_cells_6 : decode cX7_cells 6 = .ok (.iconst 2, 1) := by decide +kernel
theorem dX7_cells_7 : decode cX7_cells 7 = .ok (.invokevirtual 45, 3) := by decide +kernel
theorem dX7_cells_10 : decode cX7_cells 10 = .ok (.imul, 1) := by decide +kernel
theorem dX7_cells_11 : decode cX7_cells 11 = .ok (.ireturn, 1) := by decide +kernel
theorem dX7_boys_0 : decode cX7_boys 0 = .ok (.aload_n 0, 1) := by decide +kernel
theorem dX7_boys_1 : decode cX7_boys 1 = .ok (.getfield 15, 3) := by decide +kernel
theorem dX7_boys_4 : decode cX7_boys 4 = .ok (.iconst 4, 1) := by decide +kernel
theorem dX7_boys_5 : decode cX7_boys 5 = .ok (.isub, 1) := by decide +kernel
theorem dX7_boys_6 : decode cX7_boys 6 = .ok (.aload_n 0, 1) := by decide +kernel
theorem dX7_boys_7 : decode cX7_boys 7 = .ok (.invokevirtual 27, 3) := by decide +kernel
theorem dX7_boys_10 : decode cX7_boys 10 = .ok (.isub, 1) := by decide +kernel
theorem dX7_boys_11 : decode cX7_boys 11 = .ok (.iconst 3, 1) := by decide +kernel
theorem dX7_boys_12 : decode cX7_boys 12 = .ok (.idiv, 1) := by decide +kernel
theorem dX7_boys_13 : decode cX7_boys 13 = .ok (.ireturn, 1) := by decide +kernel
theorem dX7_kindOfCell_0 : decode cX7_kindOfCell 0 = .ok (.aload_n 0, 1) := by decide +kernel
theorem dX7_kindOfCell_1 : decode cX7_kindOfCell 1 = .ok (.getfield 9, 3) := by decide +kernel
theorem dX7_kindOfCell_4 : decode cX7_kindOfCell 4 = .ok (.iconst 4, 1) := by decide +kernel
theorem dX7_kindOfCell_5 : decode cX7_kindOfCell 5 = .ok (.iload_n 1, 1) := by decide +kernel
theorem dX7_kindOfCell_6 : decode cX7_kindOfCell 6 = .ok (.iadd, 1) := by decide +kernel
theorem dX7_kindOfCell_7 : decode cX7_kindOfCell 7 = .ok (.iaload, 1) := by decide +kernel
theorem dX7_kindOfCell_8 : decode cX7_kindOfCell 8 = .ok (.invokestatic 31, 3) := by decide +kernel
theorem dX7_kindOfCell_11 : decode cX7_kindOfCell 11 = .ok (.ireturn, 1) := by decide +kernel
theorem dX7_homeOfBoy_0 : decode cX7_homeOfBoy 0 = .ok (.aload_n 0, 1) := by decide +kernel
theorem dX7_homeOfBoy_1 : decode cX7_homeOfBoy 1 = .ok (.getfield 9, 3) := by decide +kernel
theorem dX7_homeOfBoy_4 : decode cX7_homeOfBoy 4 = .ok (.iconst 4, 1) := by decide +kernel
theorem dX7_homeOfBoy_5 : decode cX7_homeOfBoy 5 = .ok (.aload_n 0, 1) := by decide +kernel
theorem dX7_homeOfBoy_6 : decode cX7_homeOfBoy 6 = .ok (.invokevirtual 27, 3) := by decide +kernel
theorem dX7_homeOfBoy_9 : decode cX7_homeOfBoy 9 = .ok (.iadd, 1) := by decide +kernel
theorem dX7_homeOfBoy_10 : decode cX7_homeOfBoy 10 = .ok (.iload_n 1, 1) := by decide +kernel
theorem dX7_homeOfBoy_11 : decode cX7_homeOfBoy 11 = .ok (.iconst 3, 1) := by decide +kernel
theorem dX7_homeOfBoy_12 : decode cX7_homeOfBoy 12 = .ok (.imul, 1) := by decide +kernel
theorem dX7_homeOfBoy_13 : decode cX7_homeOfBoy 13 = .ok (.iadd, 1) := by decide +kernel
theorem dX7_homeOfBoy_14 : decode cX7_homeOfBoy 14 = .ok (.iconst 1, 1) := by decide +kernel
theorem dX7_homeOfBoy_15 : decode cX7_homeOfBoy 15 = .ok (.iadd, 1) := by decide +kernel
theorem dX7_homeOfBoy_16 : decode cX7_homeOfBoy 16 = .ok (.iaload, 1) := by decide +kernel
theorem dX7_homeOfBoy_17 : decode cX7_homeOfBoy 17 = .ok (.bipush 97, 2) := by decide +kernel
theorem dX7_homeOfBoy_19 : decode cX7_homeOfBoy 19 = .ok (.isub, 1) := by decide +kernel
theorem dX7_homeOfBoy_20 : decode cX7_homeOfBoy 20 = .ok (.ireturn, 1) := by decide +kernel
theorem dX7_kindOfBoy_0 : decode cX7_kindOfBoy 0 = .ok (.aload_n 0, 1) := by decide +kernel
theorem dX7_kindOfBoy_1 : decode cX7_kindOfBoy 1 = .ok (.iconst 4, 1) := by decide +kernel
theorem dX7_kindOfBoy_2 : decode cX7_kindOfBoy 2 = .ok (.aload_n 0, 1) := by decide +kernel
theorem dX7_kindOfBoy_3 : decode cX7_kindOfBoy 3 = .ok (.invokevirtual 27, 3) := by decide +kernel
theorem dX7_kindOfBoy_6 : decode cX7_kindOfBoy 6 = .ok (.iadd, 1) := by decide +kernel
theorem dX7_kindOfBoy_7 : decode cX7_kindOfBoy 7 = .ok (.iload_n 1, 1) := by decide +kernel
theorem dX7_kindOfBoy_8 : decode cX7_kindOfBoy 8 = .ok (.iconst 3, 1) := by decide +kernel
theorem dX7_kindOfBoy_9 : decode cX7_kindOfBoy 9 = .ok (.imul, 1) := by decide +kernel
theorem dX7_kindOfBoy_10 : decode cX7_kindOfBoy 10 = .ok (.iadd, 1) := by decide +kernel
theorem dX7_kindOfBoy_11 : decode cX7_kindOfBoy 11 = .ok (.iconst 2, 1) := by decide +kernel
theorem dX7_kindOfBoy_12 : decode cX7_kindOfBoy 12 = .ok (.iadd, 1) := by decide +kernel
theorem dX7_kindOfBoy_13 : decode cX7_kindOfBoy 13 = .ok (.invokevirtual 45, 3) := by decide +kernel
theorem dX7_kindOfBoy_16 : decode cX7_kindOfBoy 16 = .ok (.ireturn, 1) := by decide +kernel
theorem dX7_kindOf_0 : decode cX7_kindOf 0 = .ok (.iload_n 0, 1) := by decide +kernel
theorem dX7_kindOf_1 : decode cX7_kindOf 1 = .ok (.lookupswitch 51 #[(98, 47), (108, 43), (114, 49), (116, 45)], 43) := by decide +kernel
theorem dX7_kindOf_44 : decode cX7_kindOf 44 = .ok (.iconst 0, 1) := by decide +kernel
theorem dX7_kindOf_45 : decode cX7_kindOf 45 = .ok (.ireturn, 1) := by decide +kernel
theorem dX7_kindOf_46 : decode cX7_kindOf 46 = .ok (.iconst 1, 1) := by decide +kernel
theorem dX7_kindOf_47 : decode cX7_kindOf 47 = .ok (.ireturn, 1) := by decide +kernel
theorem dX7_kindOf_48 : decode cX7_kindOf 48 = .ok (.iconst 2, 1) := by decide +kernel
theorem dX7_kindOf_49 : decode cX7_kindOf 49 = .ok (.ireturn, 1) := by decide +kernel
theorem dX7_kindOf_50 : decode cX7_kindOf 50 = .ok (.iconst 3, 1) := by decide +kernel
theorem dX7_kindOf_51 : decode cX7_kindOf 51 = .ok (.ireturn, 1) := by decide +kernel
theorem dX7_kindOf_52 : decode cX7_kindOf 52 = .ok (.bipush (-9), 2) := by decide +kernel
theorem dX7_kindOf_54 : decode cX7_kindOf 54 = .ok (.ireturn, 1) := by decide +kernel
theorem dX8_init_0 : decode cX8_init 0 = .ok (.aload_n 0, 1) := by decide +kernel
theorem dX8_init_1 : decode cX8_init 1 = .ok (.invokespecial 3, 3) := by decide +kernel
theorem dX8_init_4 : decode cX8_init 4 = .ok (.aload_n 0, 1) := by decide +kernel
theorem dX8_init_5 : decode cX8_init 5 = .ok (.new 9, 3) := by decide +kernel
theorem dX8_init_8 : decode cX8_init 8 = .ok (.dup, 1) := by decide +kernel
theorem dX8_init_9 : decode cX8_init 9 = .ok (.invokespecial 11, 3) := by decide +kernel
theorem dX8_init_12 : decode cX8_init 12 = .ok (.putfield 12, 3) := by decide +kernel
theorem dX8_init_15 : decode cX8_init 15 = .ok (.aload_n 0, 1) := by decide +kernel
theorem dX8_init_16 : decode cX8_init 16 = .ok (.new 16, 3) := by decide +kernel
theorem dX8_init_19 : decode cX8_init 19 = .ok (.dup, 1) := by decide +kernel
theorem dX8_init_20 : decode cX8_init 20 = .ok (.invokespecial 18, 3) := by decide +kernel
theorem dX8_init_23 : decode cX8_init 23 = .ok (.putfield 19, 3) := by decide +kernel
theorem dX8_init_26 : decode cX8_init 26 = .ok (.aload_n 0, 1) := by decide +kernel
theorem dX8_init_27 : decode cX8_init 27 = .ok (.new 23, 3) := by decide +kernel
theorem dX8_init_30 : decode cX8_init 30 = .ok (.dup, 1) := by decide +kernel
theorem dX8_init_31 : decode cX8_init 31 = .ok (.aload_n 0, 1) := by decide +kernel
theorem dX8_init_32 : decode cX8_init 32 = .ok (.getfield 19, 3) := by decide +kernel
theorem dX8_init_35 : decode cX8_init 35 = .ok (.invokespecial 25, 3) := by decide +kernel
theorem dX8_init_38 : decode cX8_init 38 = .ok (.putfield 28, 3) := by decide +kernel
theorem dX8_init_41 : decode cX8_init 41 = .ok (.aload_n 0, 1) := by decide +kernel
theorem dX8_init_42 : decode cX8_init 42 = .ok (.new 23, 3) := by decide +kernel
theorem dX8_init_45 : decode cX8_init 45 = .ok (.dup, 1) := by decide +kernel
theorem dX8_init_46 : decode cX8_init 46 = .ok (.aload_n 0, 1) := by decide +kernel
theorem dX8_init_47 : decode cX8_init 47 = .ok (.getfield 19, 3) := by decide +kernel
theorem dX8_init_50 : decode cX8_init 50 = .ok (.invokespecial 25, 3) := by decide +kernel
theorem dX8_init_53 : decode cX8_init 53 = .ok (.putfield 32, 3) := by decide +kernel
theorem dX8_init_56 : decode cX8_init 56 = .ok (.aload_n 0, 1) := by decide +kernel
theorem dX8_init_57 : decode cX8_init 57 = .ok (.new 35, 3) := by decide +kernel
theorem dX8_init_60 : decode cX8_init 60 = .ok (.dup, 1) := by decide +kernel
theorem dX8_init_61 : decode cX8_init 61 = .ok (.aload_n 0, 1) := by decide +kernel
theorem dX8_init_62 : decode cX8_init 62 = .ok (.getfield 19, 3) := by decide +kernel
theorem dX8_init_65 : decode cX8_init 65 = .ok (.invokespecial 37, 3) := by decide +kernel
theorem dX8_init_68 : decode cX8_init 68 = .ok (.putfield 38, 3) := by decide +kernel
theorem dX8_init_71 : decode cX8_init 71 = .ok (.aload_n 0, 1) := by decide +kernel
theorem dX8_init_72 : decode cX8_init 72 = .ok (.iconst 2, 1) := by decide +kernel
theorem dX8_init_73 : decode cX8_init 73 = .ok (.anewarray 23, 3) := by decide +kernel
theorem dX8_init_76 : decode cX8_init 76 = .ok (.putfield 42, 3) := by decide +kernel
theorem dX8_init_79 : decode cX8_init 79 = .ok (.aload_n 0, 1) := by decide +kernel
theorem dX8_init_80 : decode cX8_init 80 = .ok (.iconst 2, 1) := by decide +kernel
theorem dX8_init_81 : decode cX8_init 81 = .ok (.newarray .boolean, 2) := by decide +kernel
theorem dX8_init_83 : decode cX8_init 83 = .ok (.putfield 46, 3) := by decide +kernel
theorem dX8_init_86 : decode cX8_init 86 = .ok (.aload_n 0, 1) := by decide +kernel
theorem dX8_init_87 : decode cX8_init 87 = .ok (.new 50, 3) := by decide +kernel
theorem dX8_init_90 : decode cX8_init 90 = .ok (.dup, 1) := by decide +kernel
theorem dX8_init_91 : decode cX8_init 91 = .ok (.invokespecial 52, 3) := by decide +kernel
theorem dX8_init_94 : decode cX8_init 94 = .ok (.putfield 53, 3) := by decide +kernel
theorem dX8_init_97 : decode cX8_init 97 = .ok (.aload_n 0, 1) := by decide +kernel
theorem dX8_init_98 : decode cX8_init 98 = .ok (.new 57, 3) := by decide +kernel
theorem dX8_init_101 : decode cX8_init 101 = .ok (.dup, 1) := by decide +kernel
theorem dX8_init_102 : decode cX8_init 102 = .ok (.invokespecial 59, 3) := by decide +kernel
theorem dX8_init_105 : decode cX8_init 105 = .ok (.putfield 60, 3) := by decide +kernel
theorem dX8_init_108 : decode cX8_init 108 = .ok (.aload_n 0, 1) := by decide +kernel
theorem dX8_init_109 : decode cX8_init 109 = .ok (.new 64, 3) := by decide +kernel
theorem dX8_init_112 : decode cX8_init 112 = .ok (.dup, 1) := by decide +kernel
theorem dX8_init_113 : decode cX8_init 113 = .ok (.invokespecial 66, 3) := by decide +kernel
theorem dX8_init_116 : decode cX8_init 116 = .ok (.putfield 67, 3) := by decide +kernel
theorem dX8_init_119 : decode cX8_init 119 = .ok (.aload_n 0, 1) := by decide +kernel
theorem dX8_init_120 : decode cX8_init 120 = .ok (.new 71, 3) := by decide +kernel
theorem dX8_init_123 : decode cX8_init 123 = .ok (.dup, 1) := by decide +kernel
theorem dX8_init_124 : decode cX8_init 124 = .ok (.invokespecial 73, 3) := by decide +kernel
theorem dX8_init_127 : decode cX8_init 127 = .ok (.putfield 74, 3) := by decide +kernel
theorem dX8_init_130 : decode cX8_init 130 = .ok (.aload_n 0, 1) := by decide +kernel
theorem dX8_init_131 : decode cX8_init 131 = .ok (.new 71, 3) := by decide +kernel
theorem dX8_init_134 : decode cX8_init 134 = .ok (.dup, 1) := by decide +kernel
theorem dX8_init_135 : decode cX8_init 135 = .ok (.invokespecial 73, 3) := by decide +kernel
theorem dX8_init_138 : decode cX8_init 138 = .ok (.putfield 78, 3) := by decide +kernel
theorem dX8_init_141 : decode cX8_init 141 = .ok (.iconst 0, 1) := by decide +kernel
theorem dX8_init_142 : decode cX8_init 142 = .ok (.istore_n 1, 1) := by decide +kernel
theorem dX8_init_143 : decode cX8_init 143 = .ok (.iload_n 1, 1) := by decide +kernel
theorem dX8_init_144 : decode cX8_init 144 = .ok (.iconst 2, 1) := by decide +kernel
theorem dX8_init_145 : decode cX8_init 145 = .ok (.if_icmp .ge 26, 3) := by decide +kernel
theorem dX8_init_148 : decode cX8_init 148 = .ok (.aload_n 0, 1) := by decide +kernel
theorem dX8_init_149 : decode cX8_init 149 = .ok (.getfield 42, 3) := by decide +kernel
theorem dX8_init_152 : decode cX8_init 152 = .ok (.iload_n 1, 1) := by decide +kernel
theorem dX8_init_153 : decode cX8_init 153 = .ok (.new 23, 3) := by decide +kernel
theorem dX8_init_156 : decode cX8_init 156 = .ok (.dup, 1) := by decide +kernel
theorem dX8_init_157 : decode cX8_init 157 = .ok (.aload_n 0, 1) := by decide +kernel
theorem dX8_init_158 : decode cX8_init 158 = .ok (.getfield 19, 3) := by decide +kernel
theorem dX8_init_161 : decode cX8_init 161 = .ok (.invokespecial 25, 3) := by decide +kernel
theorem dX8_init_164 : decode cX8_init 164 = .ok (.aastore, 1) := by decide +kernel
theorem dX8_init_165 : decode cX8_init 165 = .ok (.iinc 1 1, 3) := by decide +kernel
theorem dX8_init_168 : decode cX8_init 168 = .ok (.goto (-25), 3) := by decide +kernel
theorem dX8_init_171 : decode cX8_init 171 = .ok (.return_, 1) := by decide +kernel
theorem dX8_write_0 : decode cX8_write 0 = .ok (.iload_n 1, 1) := by decide +kernel
theorem dX8_write_1 : decode cX8_write 1 = .ok (.ifCond .lt 10, 3) := by decide +kernel
theorem dX8_write_4 : decode cX8_write 4 = .ok (.iload_n 1, 1) := by decide +kernel
theorem dX8_write_5 : decode cX8_write 5 = .ok (.sipush 255, 3) := by decide +kernel
theorem dX8_write_8 : decode cX8_write 8 = .ok (.if_icmp .le 6, 3) := by decide +kernel
theorem dX8_write_11 : decode cX8_write 11 = .ok (.bipush (-2), 2) := by decide +kernel
theorem dX8_write_13 : decode cX8_write 13 = .ok (.ireturn, 1) := by decide +kernel
theorem dX8_write_14 : decode cX8_write 14 = .ok (.aload_n 0, 1) := by decide +kernel
theorem dX8_write_15 : decode cX8_write 15 = .ok (.getfield 12, 3) := by decide +kernel
theorem dX8_write_18 : decode cX8_write 18 = .ok (.iload_n 1, 1) := by decide +kernel
theorem dX8_write_19 : decode cX8_write 19 = .ok (.invokevirtual 81, 3) := by decide +kernel
theorem dX8_write_22 : decode cX8_write 22 = .ok (.ifCond .eq 13, 3) := by decide +kernel
theorem dX8_write_25 : decode cX8_write 25 = .ok (.aload_n 0, 1) := by decide +kernel
theorem dX8_write_26 : decode cX8_write 26 = .ok (.getfield 12, 3) := by decide +kernel
theorem dX8_write_29 : decode cX8_write 29 = .ok (.getfield 85, 3) := by decide +kernel
theorem dX8_write_32 : decode cX8_write 32 = .ok (.goto 5, 3) := by decide +kernel
theorem dX8_write_35 : decode cX8_write 35 = .ok (.bipush (-4), 2) := by decide +kernel
theorem dX8_write_37 : decode cX8_write 37 = .ok (.ireturn, 1) := by decide +kernel
theorem dX8_wipe_0 : decode cX8_wipe 0 = .ok (.aload_n 0, 1) := by decide +kernel
theorem dX8_wipe_1 : decode cX8_wipe 1 = .ok (.getfield 12, 3) := by decide +kernel
theorem dX8_wipe_4 : decode cX8_wipe 4 = .ok (.getfield 85, 3) := by decide +kernel
theorem dX8_wipe_7 : decode cX8_wipe 7 = .ok (.istore_n 1, 1) := by decide +kernel
theorem dX8_wipe_8 : decode cX8_wipe 8 = .ok (.aload_n 0, 1) := by decide +kernel
theorem dX8_wipe_9 : decode cX8_wipe 9 = .ok (.getfield 12, 3) := by decide +kernel
theorem dX8_wipe_12 : decode cX8_wipe 12 = .ok (.iconst 0, 1) := by decide +kernel
theorem dX8_wipe_13 : decode cX8_wipe 13 = .ok (.putfield 85, 3) := by decide +kernel
theorem dX8_wipe_16 : decode cX8_wipe 16 = .ok (.iload_n 1, 1) := by decide +kernel
theorem dX8_wipe_17 : decode cX8_wipe 17 = .ok (.ireturn, 1) := by decide +kernel
theorem dX8_fault_0 : decode cX8_fault 0 = .ok (.aload_n 0, 1) := by decide +kernel
theorem dX8_fault_1 : decode cX8_fault 1 = .ok (.getfield 12, 3) := by decide +kernel
theorem dX8_fault_4 : decode cX8_fault 4 = .ok (.invokevirtual 89, 3) := by decide +kernel
theorem dX8_fault_7 : decode cX8_fault 7 = .ok (.ireturn, 1) := by decide +kernel
theorem dX8_paper_0 : decode cX8_paper 0 = .ok (.aload_n 0, 1) := by decide +kernel
theorem dX8_paper_1 : decode cX8_paper 1 = .ok (.getfield 12, 3) := by decide +kernel
theorem dX8_paper_4 : decode cX8_paper 4 = .ok (.invokevirtual 89, 3) := by decide +kernel
theorem dX8_paper_7 : decode cX8_paper 7 = .ok (.bipush (-9), 2) := by decide +kernel
theorem dX8_paper_9 : decode cX8_paper 9 = .ok (.if_icmp .eq 6, 3) := by decide +kernel
theorem dX8_paper_12 : decode cX8_paper 12 = .ok (.bipush (-3), 2) := by decide +kernel
theorem dX8_paper_14 : decode cX8_paper 14 = .ok (.ireturn, 1) := by decide +kernel
theorem dX8_paper_15 : decode cX8_paper 15 = .ok (.aload_n 0, 1) := by decide +kernel
theorem dX8_paper_16 : decode cX8_paper 16 = .ok (.getfield 19, 3) := by decide +kernel
theorem dX8_paper_19 : decode cX8_paper 19 = .ok (.aload_n 0, 1) := by decide +kernel
theorem dX8_paper_20 : decode cX8_paper 20 = .ok (.getfield 12, 3) := by decide +kernel
theorem dX8_paper_23 : decode cX8_paper 23 = .ok (.invokevirtual 93, 3) := by decide +kernel
theorem dX8_paper_26 : decode cX8_paper 26 = .ok (.aload_n 0, 1) := by decide +kernel
theorem dX8_paper_27 : decode cX8_paper 27 = .ok (.getfield 28, 3) := by decide +kernel
theorem dX8_paper_30 : decode cX8_paper 30 = .ok (.invokevirtual 97, 3) := by decide +kernel
theorem dX8_paper_33 : decode cX8_paper 33 = .ok (.aload_n 0, 1) := by decide +kernel
theorem dX8_paper_34 : decode cX8_paper 34 = .ok (.getfield 38, 3) := by decide +kernel
theorem dX8_paper_37 : decode cX8_paper 37 = .ok (.invokevirtual 100, 3) := by decide +kernel
theorem dX8_paper_40 : decode cX8_paper 40 = .ok (.iconst 0, 1) := by decide +kernel
theorem dX8_paper_41 : decode cX8_paper 41 = .ok (.istore_n 1, 1) := by decide +kernel
theorem dX8_paper_42 : decode cX8_paper 42 = .ok (.iload_n 1, 1) := by decide +kernel
theorem dX8_paper_43 : decode cX8_paper 43 = .ok (.iconst 2, 1) := by decide +kernel
theorem dX8_paper_44 : decode cX8_paper 44 = .ok (.if_icmp .ge 16, 3) := by decide +kernel
theorem dX8_paper_47 : decode cX8_paper 47 = .ok (.aload_n 0, 1) := by decide +kernel
theorem dX8_paper_48 : decode cX8_paper 48 = .ok (.getfield 46, 3) := by decide +kernel
theorem dX8_paper_51 : decode cX8_paper 51 = .ok (.iload_n 1, 1) := by decide +kernel
theorem dX8_paper_52 : decode cX8_paper 52 = .ok (.iconst 0, 1) := by decide +kernel
theorem dX8_paper_53 : decode cX8_paper 53 = .ok (.bastore, 1) := by decide +kernel
theorem dX8_paper_54 : decode cX8_paper 54 = .ok (.iinc 1 1, 3) := by decide +kernel
theorem dX8_paper_57 : decode cX8_paper 57 = .ok (.goto (-15), 3) := by decide +kernel
theorem dX8_paper_60 : decode cX8_paper 60 = .ok (.bipush 100, 2) := by decide +kernel
theorem dX8_paper_62 : decode cX8_paper 62 = .ok (.aload_n 0, 1) := by decide +kernel
theorem dX8_paper_63 : decode cX8_paper 63 = .ok (.getfield 19, 3) := by decide +kernel
theorem dX8_paper_66 : decode cX8_paper 66 = .ok (.getfield 103, 3) := by decide +kernel
theorem dX8_paper_69 : decode cX8_paper 69 = .ok (.imul, 1) := by decide +kernel
theorem dX8_paper_70 : decode cX8_paper 70 = .ok (.bipush 10, 2) := by decide +kernel
theorem dX8_paper_72 : decode cX8_paper 72 = .ok (.aload_n 0, 1) := by decide +kernel
theorem dX8_paper_73 : decode cX8_paper 73 = .ok (.getfield 19, 3) := by decide +kernel
theorem dX8_paper_76 : decode cX8_paper 76 = .ok (.getfield 106, 3) := by decide +kernel
theorem dX8_paper_79 : decode cX8_paper 79 = .ok (.imul, 1) := by decide +kernel
theorem dX8_paper_80 : decode cX8_paper 80 = .ok (.iadd, 1) := by decide +kernel
theorem dX8_paper_81 : decode cX8_paper 81 = .ok (.aload_n 0, 1) := by decide +kernel
theorem dX8_paper_82 : decode cX8_paper 82 = .ok (.getfield 19, 3) := by decide +kernel
theorem dX8_paper_85 : decode cX8_paper 85 = .ok (.getfield 109, 3) := by decide +kernel
theorem dX8_paper_88 : decode cX8_paper 88 = .ok (.iadd, 1) := by decide +kernel
theorem dX8_paper_89 : decode cX8_paper 89 = .ok (.ireturn, 1) := by decide +kernel
theorem dX8_about_0 : decode cX8_about 0 = .ok (.iload_n 1, 1) := by decide +kernel
theorem dX8_about_1 : decode cX8_about 1 = .ok (.tableswitch 150 0 10 #[59, 67, 75, 83, 91, 100, 109, 118, 126, 134, 142], 59) := by decide +kernel
theorem dX8_about_60 : decode cX8_about 60 = .ok (.aload_n 0, 1) := by decide +kernel
theorem dX8_about_61 : decode cX8_about 61 = .ok (.getfield 19, 3) := by decide +kernel
theorem dX8_about_64 : decode cX8_about 64 = .ok (.getfield 103, 3) := by decide +kernel
theorem dX8_about_67 : decode cX8_about 67 = .ok (.ireturn, 1) := by decide +kernel
theorem dX8_about_68 : decode cX8_about 68 = .ok (.aload_n 0, 1) := by decide +kernel
theorem dX8_about_69 : decode cX8_about 69 = .ok (.getfield 19, 3) := by decide +kernel
theorem dX8_about_72 : decode cX8_about 72 = .ok (.getfield 106, 3) := by decide +kernel
theorem dX8_about_75 : decode cX8_about 75 = .ok (.ireturn, 1) := by decide +kernel
theorem dX8_about_76 : decode cX8_about 76 = .ok (.aload_n 0, 1) := by decide +kernel
theorem dX8_about_77 : decode cX8_about 77 = .ok (.getfield 19, 3) := by decide +kernel
theorem dX8_about_80 : decode cX8_about 80 = .ok (.getfield 112, 3) := by decide +kernel
theorem dX8_about_83 : decode cX8_about 83 = .ok (.ireturn, 1) := by decide +kernel
theorem dX8_about_84 : decode cX8_about 84 = .ok (.aload_n 0, 1) := by decide +kernel
theorem dX8_about_85 : decode cX8_about 85 = .ok (.getfield 19, 3) := by decide +kernel
theorem dX8_about_88 : decode cX8_about 88 = .ok (.getfield 109, 3) := by decide +kernel
theorem dX8_about_91 : decode cX8_about 91 = .ok (.ireturn, 1) := by decide +kernel
theorem dX8_about_92 : decode cX8_about 92 = .ok (.aload_n 0, 1) := by decide +kernel
theorem dX8_about_93 : decode cX8_about 93 = .ok (.getfield 28, 3) := by decide +kernel
theorem dX8_about_96 : decode cX8_about 96 = .ok (.iconst 1, 1) := by decide +kernel
theorem dX8_about_97 : decode cX8_about 97 = .ok (.invokevirtual 115, 3) := by decide +kernel
theorem dX8_about_100 : decode cX8_about 100 = .ok (.ireturn, 1) := by decide +kernel
theorem dX8_about_101 : decode cX8_about 101 = .ok (.aload_n 0, 1) := by decide +kernel
theorem dX8_about_102 : decode cX8_about 102 = .ok (.getfield 28, 3) := by decide +kernel
theorem dX8_about_105 : decode cX8_about 105 = .ok (.iconst 2, 1) := by decide +kernel
theorem dX8_about_106 : decode cX8_about 106 = .ok (.invokevirtual 115, 3) := by decide +kernel
theorem dX8_about_109 : decode cX8_about 109 = .ok (.ireturn, 1) := by decide +kernel
theorem dX8_about_110 : decode cX8_about 110 = .ok (.aload_n 0, 1) := by decide +kernel
theorem dX8_about_111 : decode cX8_about 111 = .ok (.getfield 28, 3) := by decide +kernel
theorem dX8_about_114 : decode cX8_about 114 = .ok (.iconst 3, 1) := by decide +kernel
theorem dX8_about_115 : decode cX8_about 115 = .ok (.invokevirtual 115, 3) := by decide +kernel
theorem dX8_about_118 : decode cX8_about 118 = .ok (.ireturn, 1) := by decide +kernel
theorem dX8_about_119 : decode cX8_about 119 = .ok (.aload_n 0, 1) := by decide +kernel
theorem dX8_about_120 : decode cX8_about 120 = .ok (.getfield 28, 3) := by decide +kernel
theorem dX8_about_123 : decode cX8_about 123 = .ok (.invokevirtual 119, 3) := by decide +kernel
theorem dX8_about_126 : decode cX8_about 126 = .ok (.ireturn, 1) := by decide +kernel
theorem dX8_about_127 : decode cX8_about 127 = .ok (.aload_n 0, 1) := by decide +kernel
theorem dX8_about_128 : decode cX8_about 128 = .ok (.getfield 38, 3) := by decide +kernel
theorem dX8_about_131 : decode cX8_about 131 = .ok (.getfield 122, 3) := by decide +kernel
theorem dX8_about_134 : decode cX8_about 134 = .ok (.ireturn, 1) := by decide +kernel
theorem dX8_about_135 : decode cX8_about 135 = .ok (.aload_n 0, 1) := by decide +kernel
theorem dX8_about_136 : decode cX8_about 136 = .ok (.getfield 67, 3) := by decide +kernel
theorem dX8_about_139 : decode cX8_about 139 = .ok (.getfield 125, 3) := by decide +kernel
theorem dX8_about_142 : decode cX8_about 142 = .ok (.ireturn, 1) := by decide +kernel
theorem dX8_about_143 : decode cX8_about 143 = .ok (.aload_n 0, 1) := by decide +kernel
theorem dX8_about_144 : decode cX8_about 144 = .ok (.getfield 12, 3) := by decide +kernel
theorem dX8_about_147 : decode cX8_about 147 = .ok (.getfield 85, 3) := by decide +kernel
theorem dX8_about_150 : decode cX8_about 150 = .ok (.ireturn, 1) := by decide +kernel
theorem dX8_about_151 : decode cX8_about 151 = .ok (.bipush (-2), 2) := by decide +kernel
theorem dX8_about_153 : decode cX8_about 153 = .ok (.ireturn, 1) := by decide +kernel
theorem dX8_cell_0 : decode cX8_cell 0 = .ok (.aload_n 0, 1) := by decide +kernel
theorem dX8_cell_1 : decode cX8_cell 1 = .ok (.getfield 19, 3) := by decide +kernel
theorem dX8_cell_4 : decode cX8_cell 4 = .ok (.iload_n 1, 1) := by decide +kernel
theorem dX8_cell_5 : decode cX8_cell 5 = .ok (.invokevirtual 126, 3) := by decide +kernel
theorem dX8_cell_8 : decode cX8_cell 8 = .ok (.ifCond .eq 14, 3) := by decide +kernel
theorem dX8_cell_11 : decode cX8_cell 11 = .ok (.aload_n 0, 1) := by decide +kernel
theorem dX8_cell_12 : decode cX8_cell 12 = .ok (.getfield 28, 3) := by decide +kernel
theorem dX8_cell_15 : decode cX8_cell 15 = .ok (.iload_n 1, 1) := by decide +kernel
theorem dX8_cell_16 : decode cX8_cell 16 = .ok (.invokevirtual 129, 3) := by decide +kernel
theorem dX8_cell_19 : decode cX8_cell 19 = .ok (.goto 4, 3) := by decide +kernel
theorem dX8_cell_22 : decode cX8_cell 22 = .ok (.iconst (-1), 1) := by decide +kernel
theorem dX8_cell_23 : decode cX8_cell 23 = .ok (.ireturn, 1) := by decide +kernel
theorem dX8_beside_0 : decode cX8_beside 0 = .ok (.aload_n 0, 1) := by decide +kernel
theorem dX8_beside_1 : decode cX8_beside 1 = .ok (.getfield 19, 3) := by decide +kernel
theorem dX8_beside_4 : decode cX8_beside 4 = .ok (.iload_n 1, 1) := by decide +kernel
theorem dX8_beside_5 : decode cX8_beside 5 = .ok (.invokevirtual 126, 3) := by decide +kernel
theorem dX8_beside_8 : decode cX8_beside 8 = .ok (.ifCond .ne 5, 3) := by decide +kernel
theorem dX8_beside_11 : decode cX8_beside 11 = .ok (.iconst (-1), 1) := by decide +kernel
theorem dX8_beside_12 : decode cX8_beside 12 = .ok (.ireturn, 1) := by decide +kernel
theorem dX8_beside_13 : decode cX8_beside 13 = .ok (.iload_n 2, 1) := by decide +kernel
theorem dX8_beside_14 : decode cX8_beside 14 = .ok (.invokestatic 132, 3) := by decide +kernel
theorem dX8_beside_17 : decode cX8_beside 17 = .ok (.ifCond .eq 16, 3) := by decide +kernel
theorem dX8_beside_20 : decode cX8_beside 20 = .ok (.aload_n 0, 1) := by decide +kernel
theorem dX8_beside_21 : decode cX8_beside 21 = .ok (.getfield 19, 3) := by decide +kernel
theorem dX8_beside_24 : decode cX8_beside 24 = .ok (.iload_n 1, 1) := by decide +kernel
theorem dX8_beside_25 : decode cX8_beside 25 = .ok (.iload_n 2, 1) := by decide +kernel
theorem dX8_beside_26 : decode cX8_beside 26 = .ok (.iload_n 3, 1) := by decide +kernel
theorem dX8_beside_27 : decode cX8_beside 27 = .ok (.invokevirtual 135, 3) := by decide +kernel
theorem dX8_beside_30 : decode cX8_beside 30 = .ok (.goto 5, 3) := by decide +kernel
theorem dX8_beside_33 : decode cX8_beside 33 = .ok (.bipush (-2), 2) := by decide +kernel
theorem dX8_beside_35 : decode cX8_beside 35 = .ok (.ireturn, 1) := by decide +kernel
theorem dX8_boy_0 : decode cX8_boy 0 = .ok (.aload_n 0, 1) := by decide +kernel
theorem dX8_boy_1 : decode cX8_boy 1 = .ok (.getfield 19, 3) := by decide +kernel
theorem dX8_boy_4 : decode cX8_boy 4 = .ok (.iload_n 1, 1) := by decide +kernel
theorem dX8_boy_5 : decode cX8_boy 5 = .ok (.invokevirtual 139, 3) := by decide +kernel
theorem dX8_boy_8 : decode cX8_boy 8 = .ok (.ifCond .ne 5, 3) := by decide +kernel
theorem dX8_boy_11 : decode cX8_boy 11 = .ok (.iconst (-1), 1) := by decide +kernel
theorem dX8_boy_12 : decode cX8_boy 12 = .ok (.ireturn, 1) := by decide +kernel
theorem dX8_boy_13 : decode cX8_boy 13 = .ok (.aload_n 0, 1) := by decide +kernel
theorem dX8_boy_14 : decode cX8_boy 14 = .ok (.getfield 28, 3) := by decide +kernel
theorem dX8_boy_17 : decode cX8_boy 17 = .ok (.getfield 142, 3) := by decide +kernel
theorem dX8_boy_20 : decode cX8_boy 20 = .ok (.iload_n 1, 1) := by decide +kernel
theorem dX8_boy_21 : decode cX8_boy 21 = .ok (.iaload, 1) := by decide +kernel
theorem dX8_boy_22 : decode cX8_boy 22 = .ok (.istore_n 3, 1) := by decide +kernel
theorem dX8_boy_23 : decode cX8_boy 23 = .ok (.iload_n 2, 1) := by decide +kernel
theorem dX8_boy_24 : decode cX8_boy 24 = .ok (.tableswitch 84 0 5 #[40, 45, 55, 65, 70, 75], 40) := by decide +kernel
theorem dX8_boy_64 : decode cX8_boy 64 = .ok (.iload_n 3, 1) := by decide +kernel
theorem dX8_boy_65 : decode cX8_boy 65 = .ok (.invokestatic 146, 3) := by decide +kernel
theorem dX8_boy_68 : decode cX8_boy 68 = .ok (.ireturn, 1) := by decide +kernel
theorem dX8_boy_69 : decode cX8_boy 69 = .ok (.aload_n 0, 1) := by decide +kernel
theorem dX8_boy_70 : decode cX8_boy 70 = .ok (.getfield 19, 3) := by decide +kernel
theorem dX8_boy_73 : decode cX8_boy 73 = .ok (.getfield 149, 3) := by decide +kernel
theorem dX8_boy_76 : decode cX8_boy 76 = .ok (.iload_n 1, 1) := by decide +kernel
theorem dX8_boy_77 : decode cX8_boy 77 = .ok (.iaload, 1) := by decide +kernel
theorem dX8_boy_78 : decode cX8_boy 78 = .ok (.ireturn, 1) := by decide +kernel
theorem dX8_boy_79 : decode cX8_boy 79 = .ok (.aload_n 0, 1) := by decide +kernel
theorem dX8_boy_80 : decode cX8_boy 80 = .ok (.getfield 19, 3) := by decide +kernel
theorem dX8_boy_83 : decode cX8_boy 83 = .ok (.getfield 152, 3) := by decide +kernel
theorem dX8_boy_86 : decode cX8_boy 86 = .ok (.iload_n 1, 1) := by decide +kernel
theorem dX8_boy_87 : decode cX8_boy 87 = .ok (.iaload, 1) := by decide +kernel
theorem dX8_boy_88 : decode cX8_boy 88 = .ok (.ireturn, 1) := by decide +kernel
theorem dX8_boy_89 : decode cX8_boy 89 = .ok (.iload_n 3, 1) := by decide +kernel
theorem dX8_boy_90 : decode cX8_boy 90 = .ok (.invokestatic 155, 3) := by decide +kernel
theorem dX8_boy_93 : decode cX8_boy 93 = .ok (.ireturn, 1) := by decide +kernel
theorem dX8_boy_94 : decode cX8_boy 94 = .ok (.iload_n 3, 1) := by decide +kernel
theorem dX8_boy_95 : decode cX8_boy 95 = .ok (.invokestatic 158, 3) := by decide +kernel
theorem dX8_boy_98 : decode cX8_boy 98 = .ok (.ireturn, 1) := by decide +kernel
theorem dX8_boy_99 : decode cX8_boy 99 = .ok (.aload_n 0, 1) := by decide +kernel
theorem dX8_boy_100 : decode cX8_boy 100 = .ok (.getfield 28, 3) := by decide +kernel
theorem dX8_boy_103 : decode cX8_boy 103 = .ok (.iload_n 1, 1) := by decide +kernel
theorem dX8_boy_104 : decode cX8_boy 104 = .ok (.invokevirtual 161, 3) := by decide +kernel
theorem dX8_boy_107 : decode cX8_boy 107 = .ok (.ireturn, 1) := by decide +kernel
theorem dX8_boy_108 : decode cX8_boy 108 = .ok (.bipush (-2), 2) := by decide +kernel
theorem dX8_boy_110 : decode cX8_boy 110 = .ok (.ireturn, 1) := by decide +kernel
theorem dX8_step_0 : decode cX8_step 0 = .ok (.aload_n 0, 1) := by decide +kernel
theorem dX8_step_1 : decode cX8_step 1 = .ok (.getfield 19, 3) := by decide +kernel
theorem dX8_step_4 : decode cX8_step 4 = .ok (.iload_n 1, 1) := by decide +kernel
theorem dX8_step_5 : decode cX8_step 5 = .ok (.invokevirtual 139, 3) := by decide +kernel
theorem dX8_step_8 : decode cX8_step 8 = .ok (.ifCond .ne 5, 3) := by decide +kernel
theorem dX8_step_11 : decode cX8_step 11 = .ok (.iconst (-1), 1) := by decide +kernel
theorem dX8_step_12 : decode cX8_step 12 = .ok (.ireturn, 1) := by decide +kernel
theorem dX8_step_13 : decode cX8_step 13 = .ok (.iload_n 2, 1) := by decide +kernel
theorem dX8_step_14 : decode cX8_step 14 = .ok (.invokestatic 132, 3) := by decide +kernel
theorem dX8_step_17 : decode cX8_step 17 = .ok (.ifCond .ne 6, 3) := by decide +kernel
theorem dX8_step_20 : decode cX8_step 20 = .ok (.bipush (-2), 2) := by decide +kernel
theorem dX8_step_22 : decode cX8_step 22 = .ok (.ireturn, 1) := by decide +kernel
theorem dX8_step_23 : decode cX8_step 23 = .ok (.aload_n 0, 1) := by decide +kernel
theorem dX8_step_24 : decode cX8_step 24 = .ok (.getfield 28, 3) := by decide +kernel
theorem dX8_step_27 : decode cX8_step 27 = .ok (.iload_n 1, 1) := by decide +kernel
theorem dX8_step_28 : decode cX8_step 28 = .ok (.aload_n 0, 1) := by decide +kernel
theorem dX8_step_29 : decode cX8_step 29 = .ok (.getfield 28, 3) := by decide +kernel
theorem dX8_step_32 : decode cX8_step 32 = .ok (.getfield 142, 3) := by decide +kernel
theorem dX8_step_35 : decode cX8_step 35 = .ok (.iload_n 1, 1) := by decide +kernel
theorem dX8_step_36 : decode cX8_step 36 = .ok (.iaload, 1) := by decide +kernel
theorem dX8_step_37 : decode cX8_step 37 = .ok (.iload_n 2, 1) := by decide +kernel
theorem dX8_step_38 : decode cX8_step 38 = .ok (.invokevirtual 164, 3) := by decide +kernel
theorem dX8_step_41 : decode cX8_step 41 = .ok (.iconst (-1), 1) := by decide +kernel
theorem dX8_step_42 : decode cX8_step 42 = .ok (.if_icmp .ne 6, 3) := by decide +kernel
theorem dX8_step_45 : decode cX8_step 45 = .ok (.bipush (-3), 2) := by decide +kernel
theorem dX8_step_47 : decode cX8_step 47 = .ok (.ireturn, 1) := by decide +kernel
theorem dX8_step_48 : decode cX8_step 48 = .ok (.aload_n 0, 1) := by decide +kernel
theorem dX8_step_49 : decode cX8_step 49 = .ok (.getfield 38, 3) := by decide +kernel
theorem dX8_step_52 : decode cX8_step 52 = .ok (.aload_n 0, 1) := by decide +kernel
theorem dX8_step_53 : decode cX8_step 53 = .ok (.getfield 28, 3) := by decide +kernel
theorem dX8_step_56 : decode cX8_step 56 = .ok (.invokevirtual 168, 3) := by decide +kernel
theorem dX8_step_59 : decode cX8_step 59 = .ok (.aload_n 0, 1) := by decide +kernel
theorem dX8_step_60 : decode cX8_step 60 = .ok (.getfield 28, 3) := by decide +kernel
theorem dX8_step_63 : decode cX8_step 63 = .ok (.iload_n 1, 1) := by decide +kernel
theorem dX8_step_64 : decode cX8_step 64 = .ok (.iload_n 2, 1) := by decide +kernel
theorem dX8_step_65 : decode cX8_step 65 = .ok (.invokevirtual 172, 3) := by decide +kernel
theorem dX8_step_68 : decode cX8_step 68 = .ok (.pop, 1) := by decide +kernel
theorem dX8_step_69 : decode cX8_step 69 = .ok (.aload_n 0, 1) := by decide +kernel
theorem dX8_step_70 : decode cX8_step 70 = .ok (.getfield 28, 3) := by decide +kernel
theorem dX8_step_73 : decode cX8_step 73 = .ok (.getfield 142, 3) := by decide +kernel
theorem dX8_step_76 : decode cX8_step 76 = .ok (.iload_n 1, 1) := by decide +kernel
theorem dX8_step_77 : decode cX8_step 77 = .ok (.iaload, 1) := by decide +kernel
theorem dX8_step_78 : decode cX8_step 78 = .ok (.invokestatic 146, 3) := by decide +kernel
theorem dX8_step_81 : decode cX8_step 81 = .ok (.ireturn, 1) := by decide +kernel
theorem dX8_call_0 : decode cX8_call 0 = .ok (.aload_n 0, 1) := by decide +kernel
theorem dX8_call_1 : decode cX8_call 1 = .ok (.getfield 19, 3) := by decide +kernel
theorem dX8_call_4 : decode cX8_call 4 = .ok (.iload_n 1, 1) := by decide +kernel
theorem dX8_call_5 : decode cX8_call 5 = .ok (.invokevirtual 126, 3) := by decide +kernel
theorem dX8_call_8 : decode cX8_call 8 = .ok (.ifCond .ne 5, 3) := by decide +kernel
theorem dX8_call_11 : decode cX8_call 11 = .ok (.iconst (-1), 1) := by decide +kernel
theorem dX8_call_12 : decode cX8_call 12 = .ok (.ireturn, 1) := by decide +kernel
theorem dX8_call_13 : decode cX8_call 13 = .ok (.aload_n 0, 1) := by decide +kernel
theorem dX8_call_14 : decode cX8_call 14 = .ok (.getfield 38, 3) := by decide +kernel
theorem dX8_call_17 : decode cX8_call 17 = .ok (.aload_n 0, 1) := by decide +kernel
theorem dX8_call_18 : decode cX8_call 18 = .ok (.getfield 28, 3) := by decide +kernel
theorem dX8_call_21 : decode cX8_call 21 = .ok (.invokevirtual 168, 3) := by decide +kernel
theorem dX8_call_24 : decode cX8_call 24 = .ok (.aload_n 0, 1) := by decide +kernel
theorem dX8_call_25 : decode cX8_call 25 = .ok (.getfield 28, 3) := by decide +kernel
theorem dX8_call_28 : decode cX8_call 28 = .ok (.iload_n 1, 1) := by decide +kernel
theorem dX8_call_29 : decode cX8_call 29 = .ok (.invokevirtual 176, 3) := by decide +kernel
theorem dX8_call_32 : decode cX8_call 32 = .ok (.ireturn, 1) := by decide +kernel
theorem dX8_cut_0 : decode cX8_cut 0 = .ok (.aload_n 0, 1) := by decide +kernel
theorem dX8_cut_1 : decode cX8_cut 1 = .ok (.getfield 19, 3) := by decide +kernel
theorem dX8_cut_4 : decode cX8_cut 4 = .ok (.iload_n 1, 1) := by decide +kernel
theorem dX8_cut_5 : decode cX8_cut 5 = .ok (.invokevirtual 126, 3) := by decide +kernel
theorem dX8_cut_8 : decode cX8_cut 8 = .ok (.ifCond .ne 5, 3) := by decide +kernel
theorem dX8_cut_11 : decode cX8_cut 11 = .ok (.iconst (-1), 1) := by decide +kernel
theorem dX8_cut_12 : decode cX8_cut 12 = .ok (.ireturn, 1) := by decide +kernel
theorem dX8_cut_13 : decode cX8_cut 13 = .ok (.aload_n 0, 1) := by decide +kernel
theorem dX8_cut_14 : decode cX8_cut 14 = .ok (.getfield 28, 3) := by decide +kernel
theorem dX8_cut_17 : decode cX8_cut 17 = .ok (.iload_n 1, 1) := by decide +kernel
theorem dX8_cut_18 : decode cX8_cut 18 = .ok (.invokevirtual 129, 3) := by decide +kernel
theorem dX8_cut_21 : decode cX8_cut 21 = .ok (.iconst 1, 1) := by decide +kernel
theorem dX8_cut_22 : decode cX8_cut 22 = .ok (.if_icmp .eq 6, 3) := by decide +kernel
theorem dX8_cut_25 : decode cX8_cut 25 = .ok (.bipush (-3), 2) := by decide +kernel
theorem dX8_cut_27 : decode cX8_cut 27 = .ok (.ireturn, 1) := by decide +kernel
theorem dX8_cut_28 : decode cX8_cut 28 = .ok (.aload_n 0, 1) := by decide +kernel
theorem dX8_cut_29 : decode cX8_cut 29 = .ok (.getfield 38, 3) := by decide +kernel
theorem dX8_cut_32 : decode cX8_cut 32 = .ok (.aload_n 0, 1) := by decide +kernel
theorem dX8_cut_33 : decode cX8_cut 33 = .ok (.getfield 28, 3) := by decide +kernel
theorem dX8_cut_36 : decode cX8_cut 36 = .ok (.invokevirtual 168, 3) := by decide +kernel
theorem dX8_cut_39 : decode cX8_cut 39 = .ok (.aload_n 0, 1) := by decide +kernel
theorem dX8_cut_40 : decode cX8_cut 40 = .ok (.getfield 28, 3) := by decide +kernel
theorem dX8_cut_43 : decode cX8_cut 43 = .ok (.iload_n 1, 1) := by decide +kernel
theorem dX8_cut_44 : decode cX8_cut 44 = .ok (.invokevirtual 179, 3) := by decide +kernel
theorem dX8_cut_47 : decode cX8_cut 47 = .ok (.aload_n 0, 1) := by decide +kernel
theorem dX8_cut_48 : decode cX8_cut 48 = .ok (.getfield 28, 3) := by decide +kernel
theorem dX8_cut_51 : decode cX8_cut 51 = .ok (.iconst 1, 1) := by decide +kernel
theorem dX8_cut_52 : decode cX8_cut 52 = .ok (.invokevirtual 115, 3) := by decide +kernel
theorem dX8_cut_55 : decode cX8_cut 55 = .ok (.invokestatic 183, 3) := by decide +kernel
theorem dX8_cut_58 : decode cX8_cut 58 = .ok (.ireturn, 1) := by decide +kernel
theorem dX8_undo_0 : decode cX8_undo 0 = .ok (.aload_n 0, 1) := by decide +kernel
theorem dX8_undo_1 : decode cX8_undo 1 = .ok (.getfield 38, 3) := by decide +kernel
theorem dX8_undo_4 : decode cX8_undo 4 = .ok (.aload_n 0, 1) := by decide +kernel
theorem dX8_undo_5 : decode cX8_undo 5 = .ok (.getfield 28, 3) := by decide +kernel
theorem dX8_undo_8 : decode cX8_undo 8 = .ok (.invokevirtual 188, 3) := by decide +kernel
theorem dX8_undo_11 : decode cX8_undo 11 = .ok (.ifCond .eq 13, 3) := by decide +kernel
theorem dX8_undo_14 : decode cX8_undo 14 = .ok (.aload_n 0, 1) := by decide +kernel
theorem dX8_undo_15 : decode cX8_undo 15 = .ok (.getfield 38, 3) := by decide +kernel
theorem dX8_undo_18 : decode cX8_undo 18 = .ok (.getfield 122, 3) := by decide +kernel
theorem dX8_undo_21 : decode cX8_undo 21 = .ok (.goto 5, 3) := by decide +kernel
theorem dX8_undo_24 : decode cX8_undo 24 = .ok (.bipush (-3), 2) := by decide +kernel
theorem dX8_undo_26 : decode cX8_undo 26 = .ok (.ireturn, 1) := by decide +kernel
theorem dX8_far_0 : decode cX8_far 0 = .ok (.aload_n 0, 1) := by decide +kernel
theorem dX8_far_1 : decode cX8_far 1 = .ok (.getfield 19, 3) := by decide +kernel
theorem dX8_far_4 : decode cX8_far 4 = .ok (.iload_n 1, 1) := by decide +kernel
theorem dX8_far_5 : decode cX8_far 5 = .ok (.invokevirtual 139, 3) := by decide +kernel
theorem dX8_far_8 : decode cX8_far 8 = .ok (.ifCond .eq 18, 3) := by decide +kernel
theorem dX8_far_11 : decode cX8_far 11 = .ok (.aload_n 0, 1) := by decide +kernel
theorem dX8_far_12 : decode cX8_far 12 = .ok (.getfield 53, 3) := by decide +kernel
theorem dX8_far_15 : decode cX8_far 15 = .ok (.aload_n 0, 1) := by decide +kernel
theorem dX8_far_16 : decode cX8_far 16 = .ok (.getfield 28, 3) := by decide +kernel
theorem dX8_far_19 : decode cX8_far 19 = .ok (.iload_n 1, 1) := by decide +kernel
theorem dX8_far_20 : decode cX8_far 20 = .ok (.invokevirtual 192, 3) := by decide +kernel
theorem dX8_far_23 : decode cX8_far 23 = .ok (.goto 4, 3) := by decide +kernel
theorem dX8_far_26 : decode cX8_far 26 = .ok (.iconst (-1), 1) := by decide +kernel
theorem dX8_far_27 : decode cX8_far 27 = .ok (.ireturn, 1) := by decide +kernel
theorem dX8_reach_0 : decode cX8_reach 0 = .ok (.aload_n 0, 1) := by decide +kernel
theorem dX8_reach_1 : decode cX8_reach 1 = .ok (.getfield 19, 3) := by decide +kernel
theorem dX8_reach_4 : decode cX8_reach 4 = .ok (.iload_n 1, 1) := by decide +kernel
theorem dX8_reach_5 : decode cX8_reach 5 = .ok (.invokevirtual 139, 3) := by decide +kernel
theorem dX8_reach_8 : decode cX8_reach 8 = .ok (.ifCond .ne 5, 3) := by decide +kernel
theorem dX8_reach_11 : decode cX8_reach 11 = .ok (.iconst (-1), 1) := by decide +kernel
theorem dX8_reach_12 : decode cX8_reach 12 = .ok (.ireturn, 1) := by decide +kernel
theorem dX8_reach_13 : decode cX8_reach 13 = .ok (.iload_n 2, 1) := by decide +kernel
theorem dX8_reach_14 : decode cX8_reach 14 = .ok (.ifCond .lt 9, 3) := by decide +kernel
theorem dX8_reach_17 : decode cX8_reach 17 = .ok (.iload_n 2, 1) := by decide +kernel
theorem dX8_reach_18 : decode cX8_reach 18 = .ok (.bipush 9, 2) := by decide +kernel
theorem dX8_reach_20 : decode cX8_reach 20 = .ok (.if_icmp .le 8, 3) := by decide +kernel
theorem dX8_reach_23 : decode cX8_reach 23 = .ok (.bipush (-2), 2) := by decide +kernel
theorem dX8_reach_25 : decode cX8_reach 25 = .ok (.goto 16, 3) := by decide +kernel
theorem dX8_reach_28 : decode cX8_reach 28 = .ok (.aload_n 0, 1) := by decide +kernel
theorem dX8_reach_29 : decode cX8_reach 29 = .ok (.getfield 53, 3) := by decide +kernel
theorem dX8_reach_32 : decode cX8_reach 32 = .ok (.aload_n 0, 1) := by decide +kernel
theorem dX8_reach_33 : decode cX8_reach 33 = .ok (.getfield 28, 3) := by decide +kernel
theorem dX8_reach_36 : decode cX8_reach 36 = .ok (.iload_n 1, 1) := by decide +kernel
theorem dX8_reach_37 : decode cX8_reach 37 = .ok (.iload_n 2, 1) := by decide +kernel
theorem dX8_reach_38 : decode cX8_reach 38 = .ok (.invokevirtual 196, 3) := by decide +kernel
theorem dX8_reach_41 : decode cX8_reach 41 = .ok (.ireturn, 1) := by decide +kernel
theorem dX8_again_0 : decode cX8_again 0 = .ok (.aload_n 0, 1) := by decide +kernel
theorem dX8_again_1 : decode cX8_again 1 = .ok (.getfield 19, 3) := by decide +kernel
theorem dX8_again_4 : decode cX8_again 4 = .ok (.iload_n 1, 1) := by decide +kernel
theorem dX8_again_5 : decode cX8_again 5 = .ok (.invokevirtual 139, 3) := by decide +kernel
theorem dX8_again_8 : decode cX8_again 8 = .ok (.ifCond .ne 5, 3) := by decide +kernel
theorem dX8_again_11 : decode cX8_again 11 = .ok (.iconst (-1), 1) := by decide +kernel
theorem dX8_again_12 : decode cX8_again 12 = .ok (.ireturn, 1) := by decide +kernel
theorem dX8_again_13 : decode cX8_again 13 = .ok (.iload_n 2, 1) := by decide +kernel
theorem dX8_again_14 : decode cX8_again 14 = .ok (.invokestatic 132, 3) := by decide +kernel
theorem dX8_again_17 : decode cX8_again 17 = .ok (.ifCond .eq 12, 3) := by decide +kernel
theorem dX8_again_20 : decode cX8_again 20 = .ok (.aload_n 0, 1) := by decide +kernel
theorem dX8_again_21 : decode cX8_again 21 = .ok (.iload_n 1, 1) := by decide +kernel
theorem dX8_again_22 : decode cX8_again 22 = .ok (.iload_n 2, 1) := by decide +kernel
theorem dX8_again_23 : decode cX8_again 23 = .ok (.invokevirtual 200, 3) := by decide +kernel
theorem dX8_again_26 : decode cX8_again 26 = .ok (.goto 5, 3) := by decide +kernel
theorem dX8_again_29 : decode cX8_again 29 = .ok (.bipush (-2), 2) := by decide +kernel
theorem dX8_again_31 : decode cX8_again 31 = .ok (.ireturn, 1) := by decide +kernel
theorem dX8_alike_0 : decode cX8_alike 0 = .ok (.aload_n 0, 1) := by decide +kernel
theorem dX8_alike_1 : decode cX8_alike 1 = .ok (.getfield 19, 3) := by decide +kernel
theorem dX8_alike_4 : decode cX8_alike 4 = .ok (.iload_n 1, 1) := by decide +kernel
theorem dX8_alike_5 : decode cX8_alike 5 = .ok (.invokevirtual 126, 3) := by decide +kernel
theorem dX8_alike_8 : decode cX8_alike 8 = .ok (.ifCond .ne 5, 3) := by decide +kernel
theorem dX8_alike_11 : decode cX8_alike 11 = .ok (.iconst (-1), 1) := by decide +kernel
theorem dX8_alike_12 : decode cX8_alike 12 = .ok (.ireturn, 1) := by decide +kernel
theorem dX8_alike_13 : decode cX8_alike 13 = .ok (.iconst 0, 1) := by decide +kernel
theorem dX8_alike_14 : decode cX8_alike 14 = .ok (.istore_n 2, 1) := by decide +kernel
theorem dX8_alike_15 : decode cX8_alike 15 = .ok (.iconst 0, 1) := by decide +kernel
theorem dX8_alike_16 : decode cX8_alike 16 = .ok (.istore_n 3, 1) := by decide +kernel
theorem dX8_alike_17 : decode cX8_alike 17 = .ok (.iload_n 3, 1) := by decide +kernel
theorem dX8_alike_18 : decode cX8_alike 18 = .ok (.aload_n 0, 1) := by decide +kernel
theorem dX8_alike_19 : decode cX8_alike 19 = .ok (.getfield 19, 3) := by decide +kernel
theorem dX8_alike_22 : decode cX8_alike 22 = .ok (.getfield 204, 3) := by decide +kernel
theorem dX8_alike_25 : decode cX8_alike 25 = .ok (.if_icmp .ge 24, 3) := by decide +kernel
theorem dX8_alike_28 : decode cX8_alike 28 = .ok (.aload_n 0, 1) := by decide +kernel
theorem dX8_alike_29 : decode cX8_alike 29 = .ok (.iload_n 1, 1) := by decide +kernel
theorem dX8_alike_30 : decode cX8_alike 30 = .ok (.iload_n 3, 1) := by decide +kernel
theorem dX8_alike_31 : decode cX8_alike 31 = .ok (.invokevirtual 207, 3) := by decide +kernel
theorem dX8_alike_34 : decode cX8_alike 34 = .ok (.ifCond .eq 9, 3) := by decide +kernel
theorem dX8_alike_37 : decode cX8_alike 37 = .ok (.iload_n 2, 1) := by decide +kernel
theorem dX8_alike_38 : decode cX8_alike 38 = .ok (.iconst 1, 1) := by decide +kernel
theorem dX8_alike_39 : decode cX8_alike 39 = .ok (.iload_n 3, 1) := by decide +kernel
theorem dX8_alike_40 : decode cX8_alike 40 = .ok (.ishl, 1) := by decide +kernel
theorem dX8_alike_41 : decode cX8_alike 41 = .ok (.ior, 1) := by decide +kernel
theorem dX8_alike_42 : decode cX8_alike 42 = .ok (.istore_n 2, 1) := by decide +kernel
theorem dX8_alike_43 : decode cX8_alike 43 = .ok (.iinc 3 1, 3) := by decide +kernel
theorem dX8_alike_46 : decode cX8_alike 46 = .ok (.goto (-29), 3) := by decide +kernel
theorem dX8_alike_49 : decode cX8_alike 49 = .ok (.iload_n 2, 1) := by decide +kernel
theorem dX8_alike_50 : decode cX8_alike 50 = .ok (.ireturn, 1) := by decide +kernel
theorem dX8_calls_0 : decode cX8_calls 0 = .ok (.iload_n 1, 1) := by decide +kernel
theorem dX8_calls_1 : decode cX8_calls 1 = .ok (.ifCond .ne 15, 3) := by decide +kernel
theorem dX8_calls_4 : decode cX8_calls 4 = .ok (.aload_n 0, 1) := by decide +kernel
theorem dX8_calls_5 : decode cX8_calls 5 = .ok (.getfield 60, 3) := by decide +kernel
theorem dX8_calls_8 : decode cX8_calls 8 = .ok (.aload_n 0, 1) := by decide +kernel
theorem dX8_calls_9 : decode cX8_calls 9 = .ok (.getfield 28, 3) := by decide +kernel
theorem dX8_calls_12 : decode cX8_calls 12 = .ok (.invokevirtual 210, 3) := by decide +kernel
theorem dX8_calls_15 : decode cX8_calls 15 = .ok (.ireturn, 1) := by decide +kernel
theorem dX8_calls_16 : decode cX8_calls 16 = .ok (.iload_n 1, 1) := by decide +kernel
theorem dX8_calls_17 : decode cX8_calls 17 = .ok (.iconst 1, 1) := by decide +kernel
theorem dX8_calls_18 : decode cX8_calls 18 = .ok (.if_icmp .ne 20, 3) := by decide +kernel
theorem dX8_calls_21 : decode cX8_calls 21 = .ok (.aload_n 0, 1) := by decide +kernel
theorem dX8_calls_22 : decode cX8_calls 22 = .ok (.getfield 60, 3) := by decide +kernel
theorem dX8_calls_25 : decode cX8_calls 25 = .ok (.aload_n 0, 1) := by decide +kernel
theorem dX8_calls_26 : decode cX8_calls 26 = .ok (.getfield 28, 3) := by decide +kernel
theorem dX8_calls_29 : decode cX8_calls 29 = .ok (.invokevirtual 210, 3) := by decide +kernel
theorem dX8_calls_32 : decode cX8_calls 32 = .ok (.invokestatic 183, 3) := by decide +kernel
theorem dX8_calls_35 : decode cX8_calls 35 = .ok (.goto 5, 3) := by decide +kernel
theorem dX8_calls_38 : decode cX8_calls 38 = .ok (.bipush (-2), 2) := by decide +kernel
theorem dX8_calls_40 : decode cX8_calls 40 = .ok (.ireturn, 1) := by decide +kernel
theorem dX8_match_0 : decode cX8_match 0 = .ok (.iload_n 1, 1) := by decide +kernel
theorem dX8_match_1 : decode cX8_match 1 = .ok (.ifCond .eq 11, 3) := by decide +kernel
theorem dX8_match_4 : decode cX8_match 4 = .ok (.iload_n 1, 1) := by decide +kernel
theorem dX8_match_5 : decode cX8_match 5 = .ok (.iconst 1, 1) := by decide +kernel
theorem dX8_match_6 : decode cX8_match 6 = .ok (.if_icmp .eq 6, 3) := by decide +kernel
theorem dX8_match_9 : decode cX8_match 9 = .ok (.bipush (-2), 2) := by decide +kernel
theorem dX8_match_11 : decode cX8_match 11 = .ok (.ireturn, 1) := by decide +kernel
theorem dX8_match_12 : decode cX8_match 12 = .ok (.iconst 0, 1) := by decide +kernel
theorem dX8_match_13 : decode cX8_match 13 = .ok (.istore_n 2, 1) := by decide +kernel
theorem dX8_match_14 : decode cX8_match 14 = .ok (.aload_n 0, 1) := by decide +kernel
theorem dX8_match_15 : decode cX8_match 15 = .ok (.iconst 0, 1) := by decide +kernel
theorem dX8_match_16 : decode cX8_match 16 = .ok (.invokevirtual 214, 3) := by decide +kernel
theorem dX8_match_19 : decode cX8_match 19 = .ok (.istore_n 3, 1) := by decide +kernel
theorem dX8_match_20 : decode cX8_match 20 = .ok (.iconst 1, 1) := by decide +kernel
theorem dX8_match_21 : decode cX8_match 21 = .ok (.istore 4, 2) := by decide +kernel
theorem dX8_match_23 : decode cX8_match 23 = .ok (.iload 4, 2) := by decide +kernel
theorem dX8_match_25 : decode cX8_match 25 = .ok (.aload_n 0, 1) := by decide +kernel
theorem dX8_match_26 : decode cX8_match 26 = .ok (.getfield 19, 3) := by decide +kernel
theorem dX8_match_29 : decode cX8_match 29 = .ok (.getfield 106, 3) := by decide +kernel
theorem dX8_match_32 : decode cX8_match 32 = .ok (.if_icmp .ge 29, 3) := by decide +kernel
theorem dX8_match_35 : decode cX8_match 35 = .ok (.aload_n 0, 1) := by decide +kernel
theorem dX8_match_36 : decode cX8_match 36 = .ok (.iload 4, 2) := by decide +kernel
theorem dX8_match_38 : decode cX8_match 38 = .ok (.invokevirtual 214, 3) := by decide +kernel
theorem dX8_match_41 : decode cX8_match 41 = .ok (.istore 5, 2) := by decide +kernel
theorem dX8_match_43 : decode cX8_match 43 = .ok (.iload 5, 2) := by decide +kernel
theorem dX8_match_45 : decode cX8_match 45 = .ok (.iload_n 3, 1) := by decide +kernel
theorem dX8_match_46 : decode cX8_match 46 = .ok (.if_icmp .ge 9, 3) := by decide +kernel
theorem dX8_match_49 : decode cX8_match 49 = .ok (.iload 5, 2) := by decide +kernel
theorem dX8_match_51 : decode cX8_match 51 = .ok (.istore_n 3, 1) := by decide +kernel
theorem dX8_match_52 : decode cX8_match 52 = .ok (.iload 4, 2) := by decide +kernel
theorem dX8_match_54 : decode cX8_match 54 = .ok (.istore_n 2, 1) := by decide +kernel
theorem dX8_match_55 : decode cX8_match 55 = .ok (.iinc 4 1, 3) := by decide +kernel
theorem dX8_match_58 : decode cX8_match 58 = .ok (.goto (-35), 3) := by decide +kernel
theorem dX8_match_61 : decode cX8_match 61 = .ok (.iload_n 1, 1) := by decide +kernel
theorem dX8_match_62 : decode cX8_match 62 = .ok (.ifCond .ne 7, 3) := by decide +kernel
theorem dX8_match_65 : decode cX8_match 65 = .ok (.iload_n 2, 1) := by decide +kernel
theorem dX8_match_66 : decode cX8_match 66 = .ok (.goto 4, 3) := by decide +kernel
theorem dX8_match_69 : decode cX8_match 69 = .ok (.iload_n 3, 1) := by decide +kernel
theorem dX8_match_70 : decode cX8_match 70 = .ok (.ireturn, 1) := by decide +kernel
theorem dX8_judge_0 : decode cX8_judge 0 = .ok (.iload_n 1, 1) := by decide +kernel
theorem dX8_judge_1 : decode cX8_judge 1 = .ok (.iconst 1, 1) := by decide +kernel
theorem dX8_judge_2 : decode cX8_judge 2 = .ok (.if_icmp .lt 24, 3) := by decide +kernel
theorem dX8_judge_5 : decode cX8_judge 5 = .ok (.iload_n 1, 1) := by decide +kernel
theorem dX8_judge_6 : decode cX8_judge 6 = .ok (.iconst 4, 1) := by decide +kernel
theorem dX8_judge_7 : decode cX8_judge 7 = .ok (.if_icmp .gt 19, 3) := by decide +kernel
theorem dX8_judge_10 : decode cX8_judge 10 = .ok (.lload_n 2, 1) := by decide +kernel
theorem dX8_judge_11 : decode cX8_judge 11 = .ok (.lconst 0, 1) := by decide +kernel
theorem dX8_judge_12 : decode cX8_judge 12 = .ok (.lcmp, 1) := by decide +kernel
theorem dX8_judge_13 : decode cX8_judge 13 = .ok (.ifCond .lt 13, 3) := by decide +kernel
theorem dX8_judge_16 : decode cX8_judge 16 = .ok (.lload_n 2, 1) := by decide +kernel
theorem dX8_judge_17 : decode cX8_judge 17 = .ok (.getstatic 217, 3) := by decide +kernel
theorem dX8_judge_20 : decode cX8_judge 20 = .ok (.iload_n 1, 1) := by decide +kernel
theorem dX8_judge_21 : decode cX8_judge 21 = .ok (.laload, 1) := by decide +kernel
theorem dX8_judge_22 : decode cX8_judge 22 = .ok (.lcmp, 1) := by decide +kernel
theorem dX8_judge_23 : decode cX8_judge 23 = .ok (.ifCond .lt 6, 3) := by decide +kernel
theorem dX8_judge_26 : decode cX8_judge 26 = .ok (.bipush (-2), 2) := by decide +kernel
theorem dX8_judge_28 : decode cX8_judge 28 = .ok (.ireturn, 1) := by decide +kernel
theorem dX8_judge_29 : decode cX8_judge 29 = .ok (.aload_n 0, 1) := by decide +kernel
theorem dX8_judge_30 : decode cX8_judge 30 = .ok (.getfield 32, 3) := by decide +kernel
theorem dX8_judge_33 : decode cX8_judge 33 = .ok (.aload_n 0, 1) := by decide +kernel
theorem dX8_judge_34 : decode cX8_judge 34 = .ok (.getfield 28, 3) := by decide +kernel
theorem dX8_judge_37 : decode cX8_judge 37 = .ok (.invokevirtual 221, 3) := by decide +kernel
theorem dX8_judge_40 : decode cX8_judge 40 = .ok (.iconst 0, 1) := by decide +kernel
theorem dX8_judge_41 : decode cX8_judge 41 = .ok (.istore 4, 2) := by decide +kernel
theorem dX8_judge_43 : decode cX8_judge 43 = .ok (.iload 4, 2) := by decide +kernel
theorem dX8_judge_45 : decode cX8_judge 45 = .ok (.iload_n 1, 1) := by decide +kernel
theorem dX8_judge_46 : decode cX8_judge 46 = .ok (.if_icmp .ge 56, 3) := by decide +kernel
theorem dX8_judge_49 : decode cX8_judge 49 = .ok (.lload_n 2, 1) := by decide +kernel
theorem dX8_judge_50 : decode cX8_judge 50 = .ok (.getstatic 217, 3) := by decide +kernel
theorem dX8_judge_53 : decode cX8_judge 53 = .ok (.iload_n 1, 1) := by decide +kernel
theorem dX8_judge_54 : decode cX8_judge 54 = .ok (.iconst 1, 1) := by decide +kernel
theorem dX8_judge_55 : decode cX8_judge 55 = .ok (.isub, 1) := by decide +kernel
theorem dX8_judge_56 : decode cX8_judge 56 = .ok (.iload 4, 2) := by decide +kernel
theorem dX8_judge_58 : decode cX8_judge 58 = .ok (.isub, 1) := by decide +kernel
theorem dX8_judge_59 : decode cX8_judge 59 = .ok (.laload, 1) := by decide +kernel
theorem dX8_judge_60 : decode cX8_judge 60 = .ok (.ldiv, 1) := by decide +kernel
theorem dX8_judge_61 : decode cX8_judge 61 = .ok (.ldc2_w 224, 3) := by decide +kernel
theorem dX8_judge_64 : decode cX8_judge 64 = .ok (.lrem, 1) := by decide +kernel
theorem dX8_judge_65 : decode cX8_judge 65 = .ok (.l2i, 1) := by decide +kernel
theorem dX8_judge_66 : decode cX8_judge 66 = .ok (.istore 5, 2) := by decide +kernel
theorem dX8_judge_68 : decode cX8_judge 68 = .ok (.aload_n 0, 1) := by decide +kernel
theorem dX8_judge_69 : decode cX8_judge 69 = .ok (.iload 5, 2) := by decide +kernel
theorem dX8_judge_71 : decode cX8_judge 71 = .ok (.bipush 100, 2) := by decide +kernel
theorem dX8_judge_73 : decode cX8_judge 73 = .ok (.idiv, 1) := by decide +kernel
theorem dX8_judge_74 : decode cX8_judge 74 = .ok (.iload 5, 2) := by decide +kernel
theorem dX8_judge_76 : decode cX8_judge 76 = .ok (.bipush 10, 2) := by decide +kernel
theorem dX8_judge_78 : decode cX8_judge 78 = .ok (.idiv, 1) := by decide +kernel
theorem dX8_judge_79 : decode cX8_judge 79 = .ok (.bipush 10, 2) := by decide +kernel
theorem dX8_judge_81 : decode cX8_judge 81 = .ok (.irem, 1) := by decide +kernel
theorem dX8_judge_82 : decode cX8_judge 82 = .ok (.iload 5, 2) := by decide +kernel
theorem dX8_judge_84 : decode cX8_judge 84 = .ok (.bipush 10, 2) := by decide +kernel
theorem dX8_judge_86 : decode cX8_judge 86 = .ok (.irem, 1) := by decide +kernel
theorem dX8_judge_87 : decode cX8_judge 87 = .ok (.invokevirtual 226, 3) := by decide +kernel
theorem dX8_judge_90 : decode cX8_judge 90 = .ok (.ifCond .ne 6, 3) := by decide +kernel
theorem dX8_judge_93 : decode cX8_judge 93 = .ok (.iload 4, 2) := by decide +kernel
theorem dX8_judge_95 : decode cX8_judge 95 = .ok (.ireturn, 1) := by decide +kernel
theorem dX8_judge_96 : decode cX8_judge 96 = .ok (.iinc 4 1, 3) := by decide +kernel
theorem dX8_judge_99 : decode cX8_judge 99 = .ok (.goto (-56), 3) := by decide +kernel
theorem dX8_judge_102 : decode cX8_judge 102 = .ok (.bipush (-9), 2) := by decide +kernel
theorem dX8_judge_104 : decode cX8_judge 104 = .ok (.ireturn, 1) := by decide +kernel
theorem dX8_share_0 : decode cX8_share 0 = .ok (.aload_n 0, 1) := by decide +kernel
theorem dX8_share_1 : decode cX8_share 1 = .ok (.getfield 19, 3) := by decide +kernel
theorem dX8_share_4 : decode cX8_share 4 = .ok (.iload_n 1, 1) := by decide +kernel
theorem dX8_share_5 : decode cX8_share 5 = .ok (.invokevirtual 139, 3) := by decide +kernel
theorem dX8_share_8 : decode cX8_share 8 = .ok (.ifCond .ne 5, 3) := by decide +kernel
theorem dX8_share_11 : decode cX8_share 11 = .ok (.iconst (-1), 1) := by decide +kernel
theorem dX8_share_12 : decode cX8_share 12 = .ok (.ireturn, 1) := by decide +kernel
theorem dX8_share_13 : decode cX8_share 13 = .ok (.aload_n 0, 1) := by decide +kernel
theorem dX8_share_14 : decode cX8_share 14 = .ok (.getfield 53, 3) := by decide +kernel
theorem dX8_share_17 : decode cX8_share 17 = .ok (.aload_n 0, 1) := by decide +kernel
theorem dX8_share_18 : decode cX8_share 18 = .ok (.getfield 28, 3) := by decide +kernel
theorem dX8_share_21 : decode cX8_share 21 = .ok (.iload_n 1, 1) := by decide +kernel
theorem dX8_share_22 : decode cX8_share 22 = .ok (.invokevirtual 230, 3) := by decide +kernel
theorem dX8_share_25 : decode cX8_share 25 = .ok (.bipush 60, 2) := by decide +kernel
theorem dX8_share_27 : decode cX8_share 27 = .ok (.iload_n 2, 1) := by decide +kernel
theorem dX8_share_28 : decode cX8_share 28 = .ok (.invokestatic 233, 3) := by decide +kernel
theorem dX8_share_31 : decode cX8_share 31 = .ok (.ireturn, 1) := by decide +kernel
theorem dX8_see_0 : decode cX8_see 0 = .ok (.iload_n 1, 1) := by decide +kernel
theorem dX8_see_1 : decode cX8_see 1 = .ok (.invokestatic 236, 3) := by decide +kernel
theorem dX8_see_4 : decode cX8_see 4 = .ok (.ifCond .eq 19, 3) := by decide +kernel
theorem dX8_see_7 : decode cX8_see 7 = .ok (.iload_n 2, 1) := by decide +kernel
theorem dX8_see_8 : decode cX8_see 8 = .ok (.invokestatic 236, 3) := by decide +kernel
theorem dX8_see_11 : decode cX8_see 11 = .ok (.ifCond .eq 12, 3) := by decide +kernel
theorem dX8_see_14 : decode cX8_see 14 = .ok (.iload_n 3, 1) := by decide +kernel
theorem dX8_see_15 : decode cX8_see 15 = .ok (.ifCond .lt 8, 3) := by decide +kernel
theorem dX8_see_18 : decode cX8_see 18 = .ok (.iload_n 3, 1) := by decide +kernel
theorem dX8_see_19 : decode cX8_see 19 = .ok (.iconst 4, 1) := by decide +kernel
theorem dX8_see_20 : decode cX8_see 20 = .ok (.if_icmp .lt 6, 3) := by decide +kernel
theorem dX8_see_23 : decode cX8_see 23 = .ok (.bipush (-2), 2) := by decide +kernel
theorem dX8_see_25 : decode cX8_see 25 = .ok (.ireturn, 1) := by decide +kernel
theorem dX8_see_26 : decode cX8_see 26 = .ok (.aload_n 0, 1) := by decide +kernel
theorem dX8_see_27 : decode cX8_see 27 = .ok (.getfield 67, 3) := by decide +kernel
theorem dX8_see_30 : decode cX8_see 30 = .ok (.iload_n 1, 1) := by decide +kernel
end
section
theorem dX8_see_31 : decode cX8_see 31 = .ok (.iload_n 2, 1) := by decide +kernel
theorem dX8_see_32 : decode cX8_see 32 = .ok (.iload_n 3, 1) := by decide +kernel
theorem dX8_see_33 : decode cX8_see 33 = .ok (.invokevirtual 239, 3) := by decide +kernel
theorem dX8_see_36 : decode cX8_see 36 = .ok (.ifCond .eq 13, 3) := by decide +kernel
theorem dX8_see_39 : decode cX8_see 39 = .ok (.aload_n 0, 1) := by decide +kernel
theorem dX8_see_40 : decode cX8_see 40 = .ok (.getfield 67, 3) := by decide +kernel
theorem dX8_see_43 : decode cX8_see 43 = .ok (.getfield 125, 3) := by decide +kernel
theorem dX8_see_46 : decode cX8_see 46 = .ok (.goto 5, 3) := by decide +kernel
theorem dX8_see_49 : decode cX8_see 49 = .ok (.bipush (-4), 2) := by decide +kernel
theorem dX8_see_51 : decode cX8_see 51 = .ok (.ireturn, 1) := by decide +kernel
theorem dX8_unsee_0 : decode cX8_unsee 0 = .ok (.aload_n 0, 1) := by decide +kernel
theorem dX8_unsee_1 : decode cX8_unsee 1 = .ok (.getfield 67, 3) := by decide +kernel
theorem dX8_unsee_4 : decode cX8_unsee 4 = .ok (.getfield 125, 3) := by decide +kernel
theorem dX8_unsee_7 : decode cX8_unsee 7 = .ok (.istore_n 1, 1) := by decide +kernel
theorem dX8_unsee_8 : decode cX8_unsee 8 = .ok (.aload_n 0, 1) := by decide +kernel
theorem dX8_unsee_9 : decode cX8_unsee 9 = .ok (.getfield 67, 3) := by decide +kernel
theorem dX8_unsee_12 : decode cX8_unsee 12 = .ok (.iconst 0, 1) := by decide +kernel
theorem dX8_unsee_13 : decode cX8_unsee 13 = .ok (.putfield 125, 3) := by decide +kernel
theorem dX8_unsee_16 : decode cX8_unsee 16 = .ok (.iload_n 1, 1) := by decide +kernel
theorem dX8_unsee_17 : decode cX8_unsee 17 = .ok (.ireturn, 1) := by decide +kernel
theorem dX8_stands_0 : decode cX8_stands 0 = .ok (.iconst 0, 1) := by decide +kernel
theorem dX8_stands_1 : decode cX8_stands 1 = .ok (.istore_n 1, 1) := by decide +kernel
theorem dX8_stands_2 : decode cX8_stands 2 = .ok (.iconst 0, 1) := by decide +kernel
theorem dX8_stands_3 : decode cX8_stands 3 = .ok (.istore_n 2, 1) := by decide +kernel
theorem dX8_stands_4 : decode cX8_stands 4 = .ok (.iload_n 2, 1) := by decide +kernel
theorem dX8_stands_5 : decode cX8_stands 5 = .ok (.aload_n 0, 1) := by decide +kernel
theorem dX8_stands_6 : decode cX8_stands 6 = .ok (.getfield 19, 3) := by decide +kernel
theorem dX8_stands_9 : decode cX8_stands 9 = .ok (.getfield 204, 3) := by decide +kernel
theorem dX8_stands_12 : decode cX8_stands 12 = .ok (.if_icmp .ge 30, 3) := by decide +kernel
theorem dX8_stands_15 : decode cX8_stands 15 = .ok (.aload_n 0, 1) := by decide +kernel
theorem dX8_stands_16 : decode cX8_stands 16 = .ok (.getfield 67, 3) := by decide +kernel
theorem dX8_stands_19 : decode cX8_stands 19 = .ok (.aload_n 0, 1) := by decide +kernel
theorem dX8_stands_20 : decode cX8_stands 20 = .ok (.getfield 28, 3) := by decide +kernel
theorem dX8_stands_23 : decode cX8_stands 23 = .ok (.iload_n 2, 1) := by decide +kernel
theorem dX8_stands_24 : decode cX8_stands 24 = .ok (.invokevirtual 241, 3) := by decide +kernel
theorem dX8_stands_27 : decode cX8_stands 27 = .ok (.ifCond .eq 9, 3) := by decide +kernel
theorem dX8_stands_30 : decode cX8_stands 30 = .ok (.iload_n 1, 1) := by decide +kernel
theorem dX8_stands_31 : decode cX8_stands 31 = .ok (.iconst 1, 1) := by decide +kernel
theorem dX8_stands_32 : decode cX8_stands 32 = .ok (.iload_n 2, 1) := by decide +kernel
theorem dX8_stands_33 : decode cX8_stands 33 = .ok (.ishl, 1) := by decide +kernel
theorem dX8_stands_34 : decode cX8_stands 34 = .ok (.ior, 1) := by decide +kernel
theorem dX8_stands_35 : decode cX8_stands 35 = .ok (.istore_n 1, 1) := by decide +kernel
theorem dX8_stands_36 : decode cX8_stands 36 = .ok (.iinc 2 1, 3) := by decide +kernel
theorem dX8_stands_39 : decode cX8_stands 39 = .ok (.goto (-35), 3) := by decide +kernel
theorem dX8_stands_42 : decode cX8_stands 42 = .ok (.iload_n 1, 1) := by decide +kernel
theorem dX8_stands_43 : decode cX8_stands 43 = .ok (.ireturn, 1) := by decide +kernel
theorem dX8_rests_0 : decode cX8_rests 0 = .ok (.aload_n 0, 1) := by decide +kernel
theorem dX8_rests_1 : decode cX8_rests 1 = .ok (.getfield 19, 3) := by decide +kernel
theorem dX8_rests_4 : decode cX8_rests 4 = .ok (.iload_n 1, 1) := by decide +kernel
theorem dX8_rests_5 : decode cX8_rests 5 = .ok (.invokevirtual 139, 3) := by decide +kernel
theorem dX8_rests_8 : decode cX8_rests 8 = .ok (.ifCond .eq 14, 3) := by decide +kernel
theorem dX8_rests_11 : decode cX8_rests 11 = .ok (.aload_n 0, 1) := by decide +kernel
theorem dX8_rests_12 : decode cX8_rests 12 = .ok (.getfield 19, 3) := by decide +kernel
theorem dX8_rests_15 : decode cX8_rests 15 = .ok (.iload_n 2, 1) := by decide +kernel
theorem dX8_rests_16 : decode cX8_rests 16 = .ok (.invokevirtual 139, 3) := by decide +kernel
theorem dX8_rests_19 : decode cX8_rests 19 = .ok (.ifCond .ne 5, 3) := by decide +kernel
theorem dX8_rests_22 : decode cX8_rests 22 = .ok (.iconst (-1), 1) := by decide +kernel
theorem dX8_rests_23 : decode cX8_rests 23 = .ok (.ireturn, 1) := by decide +kernel
theorem dX8_rests_24 : decode cX8_rests 24 = .ok (.iload_n 1, 1) := by decide +kernel
theorem dX8_rests_25 : decode cX8_rests 25 = .ok (.iload_n 2, 1) := by decide +kernel
theorem dX8_rests_26 : decode cX8_rests 26 = .ok (.if_icmp .eq 12, 3) := by decide +kernel
theorem dX8_rests_29 : decode cX8_rests 29 = .ok (.iload_n 3, 1) := by decide +kernel
theorem dX8_rests_30 : decode cX8_rests 30 = .ok (.ifCond .eq 11, 3) := by decide +kernel
theorem dX8_rests_33 : decode cX8_rests 33 = .ok (.iload_n 3, 1) := by decide +kernel
theorem dX8_rests_34 : decode cX8_rests 34 = .ok (.iconst 1, 1) := by decide +kernel
theorem dX8_rests_35 : decode cX8_rests 35 = .ok (.if_icmp .eq 6, 3) := by decide +kernel
theorem dX8_rests_38 : decode cX8_rests 38 = .ok (.bipush (-2), 2) := by decide +kernel
theorem dX8_rests_40 : decode cX8_rests 40 = .ok (.ireturn, 1) := by decide +kernel
theorem dX8_rests_41 : decode cX8_rests 41 = .ok (.aload_n 0, 1) := by decide +kernel
theorem dX8_rests_42 : decode cX8_rests 42 = .ok (.getfield 74, 3) := by decide +kernel
theorem dX8_rests_45 : decode cX8_rests 45 = .ok (.aload_n 0, 1) := by decide +kernel
theorem dX8_rests_46 : decode cX8_rests 46 = .ok (.getfield 28, 3) := by decide +kernel
theorem dX8_rests_49 : decode cX8_rests 49 = .ok (.iload_n 1, 1) := by decide +kernel
theorem dX8_rests_50 : decode cX8_rests 50 = .ok (.invokevirtual 245, 3) := by decide +kernel
theorem dX8_rests_53 : decode cX8_rests 53 = .ok (.aload_n 0, 1) := by decide +kernel
theorem dX8_rests_54 : decode cX8_rests 54 = .ok (.getfield 78, 3) := by decide +kernel
theorem dX8_rests_57 : decode cX8_rests 57 = .ok (.aload_n 0, 1) := by decide +kernel
theorem dX8_rests_58 : decode cX8_rests 58 = .ok (.getfield 28, 3) := by decide +kernel
theorem dX8_rests_61 : decode cX8_rests 61 = .ok (.iload_n 2, 1) := by decide +kernel
theorem dX8_rests_62 : decode cX8_rests 62 = .ok (.invokevirtual 245, 3) := by decide +kernel
theorem dX8_rests_65 : decode cX8_rests 65 = .ok (.iload_n 3, 1) := by decide +kernel
theorem dX8_rests_66 : decode cX8_rests 66 = .ok (.ifCond .ne 10, 3) := by decide +kernel
theorem dX8_rests_69 : decode cX8_rests 69 = .ok (.aload_n 0, 1) := by decide +kernel
theorem dX8_rests_70 : decode cX8_rests 70 = .ok (.invokevirtual 249, 3) := by decide +kernel
theorem dX8_rests_73 : decode cX8_rests 73 = .ok (.goto 7, 3) := by decide +kernel
theorem dX8_rests_76 : decode cX8_rests 76 = .ok (.aload_n 0, 1) := by decide +kernel
theorem dX8_rests_77 : decode cX8_rests 77 = .ok (.invokevirtual 252, 3) := by decide +kernel
theorem dX8_rests_80 : decode cX8_rests 80 = .ok (.ireturn, 1) := by decide +kernel
theorem dX8_strays_0 : decode cX8_strays 0 = .ok (.aload_n 0, 1) := by decide +kernel
theorem dX8_strays_1 : decode cX8_strays 1 = .ok (.getfield 19, 3) := by decide +kernel
theorem dX8_strays_4 : decode cX8_strays 4 = .ok (.iload_n 1, 1) := by decide +kernel
theorem dX8_strays_5 : decode cX8_strays 5 = .ok (.invokevirtual 139, 3) := by decide +kernel
theorem dX8_strays_8 : decode cX8_strays 8 = .ok (.ifCond .ne 5, 3) := by decide +kernel
theorem dX8_strays_11 : decode cX8_strays 11 = .ok (.iconst (-1), 1) := by decide +kernel
theorem dX8_strays_12 : decode cX8_strays 12 = .ok (.ireturn, 1) := by decide +kernel
theorem dX8_strays_13 : decode cX8_strays 13 = .ok (.iload_n 2, 1) := by decide +kernel
theorem dX8_strays_14 : decode cX8_strays 14 = .ok (.iconst 1, 1) := by decide +kernel
theorem dX8_strays_15 : decode cX8_strays 15 = .ok (.if_icmp .lt 8, 3) := by decide +kernel
theorem dX8_strays_18 : decode cX8_strays 18 = .ok (.iload_n 2, 1) := by decide +kernel
theorem dX8_strays_19 : decode cX8_strays 19 = .ok (.iconst 5, 1) := by decide +kernel
theorem dX8_strays_20 : decode cX8_strays 20 = .ok (.if_icmp .le 6, 3) := by decide +kernel
theorem dX8_strays_23 : decode cX8_strays 23 = .ok (.bipush (-2), 2) := by decide +kernel
theorem dX8_strays_25 : decode cX8_strays 25 = .ok (.ireturn, 1) := by decide +kernel
theorem dX8_strays_26 : decode cX8_strays 26 = .ok (.aload_n 0, 1) := by decide +kernel
theorem dX8_strays_27 : decode cX8_strays 27 = .ok (.getfield 28, 3) := by decide +kernel
theorem dX8_strays_30 : decode cX8_strays 30 = .ok (.iload_n 1, 1) := by decide +kernel
theorem dX8_strays_31 : decode cX8_strays 31 = .ok (.aload_n 0, 1) := by decide +kernel
theorem dX8_strays_32 : decode cX8_strays 32 = .ok (.getfield 28, 3) := by decide +kernel
theorem dX8_strays_35 : decode cX8_strays 35 = .ok (.getfield 142, 3) := by decide +kernel
theorem dX8_strays_38 : decode cX8_strays 38 = .ok (.iload_n 1, 1) := by decide +kernel
theorem dX8_strays_39 : decode cX8_strays 39 = .ok (.iaload, 1) := by decide +kernel
theorem dX8_strays_40 : decode cX8_strays 40 = .ok (.iload_n 2, 1) := by decide +kernel
theorem dX8_strays_41 : decode cX8_strays 41 = .ok (.invokestatic 255, 3) := by decide +kernel
theorem dX8_strays_44 : decode cX8_strays 44 = .ok (.getstatic 259, 3) := by decide +kernel
theorem dX8_strays_47 : decode cX8_strays 47 = .ok (.iload_n 2, 1) := by decide +kernel
theorem dX8_strays_48 : decode cX8_strays 48 = .ok (.iaload, 1) := by decide +kernel
theorem dX8_strays_49 : decode cX8_strays 49 = .ok (.iload_n 3, 1) := by decide +kernel
theorem dX8_strays_50 : decode cX8_strays 50 = .ok (.invokestatic 233, 3) := by decide +kernel
theorem dX8_strays_53 : decode cX8_strays 53 = .ok (.ireturn, 1) := by decide +kernel
theorem dX8_seed_0 : decode cX8_seed 0 = .ok (.aload_n 0, 1) := by decide +kernel
theorem dX8_seed_1 : decode cX8_seed 1 = .ok (.getfield 262, 3) := by decide +kernel
theorem dX8_seed_4 : decode cX8_seed 4 = .ok (.lstore_n 3, 1) := by decide +kernel
theorem dX8_seed_5 : decode cX8_seed 5 = .ok (.aload_n 0, 1) := by decide +kernel
theorem dX8_seed_6 : decode cX8_seed 6 = .ok (.lload_n 1, 1) := by decide +kernel
theorem dX8_seed_7 : decode cX8_seed 7 = .ok (.putfield 262, 3) := by decide +kernel
theorem dX8_seed_10 : decode cX8_seed 10 = .ok (.lload_n 3, 1) := by decide +kernel
theorem dX8_seed_11 : decode cX8_seed 11 = .ok (.lreturn, 1) := by decide +kernel
theorem dX8_nights_0 : decode cX8_nights 0 = .ok (.iload_n 1, 1) := by decide +kernel
theorem dX8_nights_1 : decode cX8_nights 1 = .ok (.iconst 1, 1) := by decide +kernel
theorem dX8_nights_2 : decode cX8_nights 2 = .ok (.if_icmp .lt 9, 3) := by decide +kernel
theorem dX8_nights_5 : decode cX8_nights 5 = .ok (.iload_n 1, 1) := by decide +kernel
theorem dX8_nights_6 : decode cX8_nights 6 = .ok (.bipush 30, 2) := by decide +kernel
theorem dX8_nights_8 : decode cX8_nights 8 = .ok (.if_icmp .le 6, 3) := by decide +kernel
theorem dX8_nights_11 : decode cX8_nights 11 = .ok (.bipush (-2), 2) := by decide +kernel
theorem dX8_nights_13 : decode cX8_nights 13 = .ok (.ireturn, 1) := by decide +kernel
theorem dX8_nights_14 : decode cX8_nights 14 = .ok (.aload_n 0, 1) := by decide +kernel
theorem dX8_nights_15 : decode cX8_nights 15 = .ok (.getfield 32, 3) := by decide +kernel
theorem dX8_nights_18 : decode cX8_nights 18 = .ok (.aload_n 0, 1) := by decide +kernel
theorem dX8_nights_19 : decode cX8_nights 19 = .ok (.getfield 28, 3) := by decide +kernel
theorem dX8_nights_22 : decode cX8_nights 22 = .ok (.invokevirtual 221, 3) := by decide +kernel
theorem dX8_nights_25 : decode cX8_nights 25 = .ok (.iconst 0, 1) := by decide +kernel
theorem dX8_nights_26 : decode cX8_nights 26 = .ok (.istore_n 2, 1) := by decide +kernel
theorem dX8_nights_27 : decode cX8_nights 27 = .ok (.iconst 0, 1) := by decide +kernel
theorem dX8_nights_28 : decode cX8_nights 28 = .ok (.istore_n 3, 1) := by decide +kernel
theorem dX8_nights_29 : decode cX8_nights 29 = .ok (.iload_n 3, 1) := by decide +kernel
theorem dX8_nights_30 : decode cX8_nights 30 = .ok (.iload_n 1, 1) := by decide +kernel
theorem dX8_nights_31 : decode cX8_nights 31 = .ok (.if_icmp .ge 51, 3) := by decide +kernel
theorem dX8_nights_34 : decode cX8_nights 34 = .ok (.aload_n 0, 1) := by decide +kernel
theorem dX8_nights_35 : decode cX8_nights 35 = .ok (.aload_n 0, 1) := by decide +kernel
theorem dX8_nights_36 : decode cX8_nights 36 = .ok (.getfield 262, 3) := by decide +kernel
theorem dX8_nights_39 : decode cX8_nights 39 = .ok (.ldc2_w 266, 3) := by decide +kernel
theorem dX8_nights_42 : decode cX8_nights 42 = .ok (.lmul, 1) := by decide +kernel
theorem dX8_nights_43 : decode cX8_nights 43 = .ok (.ldc2_w 268, 3) := by decide +kernel
theorem dX8_nights_46 : decode cX8_nights 46 = .ok (.ladd, 1) := by decide +kernel
theorem dX8_nights_47 : decode cX8_nights 47 = .ok (.putfield 262, 3) := by decide +kernel
theorem dX8_nights_50 : decode cX8_nights 50 = .ok (.aload_n 0, 1) := by decide +kernel
theorem dX8_nights_51 : decode cX8_nights 51 = .ok (.aload_n 0, 1) := by decide +kernel
theorem dX8_nights_52 : decode cX8_nights 52 = .ok (.getfield 262, 3) := by decide +kernel
theorem dX8_nights_55 : decode cX8_nights 55 = .ok (.bipush 33, 2) := by decide +kernel
theorem dX8_nights_57 : decode cX8_nights 57 = .ok (.lushr, 1) := by decide +kernel
theorem dX8_nights_58 : decode cX8_nights 58 = .ok (.ldc2_w 270, 3) := by decide +kernel
theorem dX8_nights_61 : decode cX8_nights 61 = .ok (.lrem, 1) := by decide +kernel
theorem dX8_nights_62 : decode cX8_nights 62 = .ok (.l2i, 1) := by decide +kernel
theorem dX8_nights_63 : decode cX8_nights 63 = .ok (.invokevirtual 272, 3) := by decide +kernel
theorem dX8_nights_66 : decode cX8_nights 66 = .ok (.iload_n 2, 1) := by decide +kernel
theorem dX8_nights_67 : decode cX8_nights 67 = .ok (.aload_n 0, 1) := by decide +kernel
theorem dX8_nights_68 : decode cX8_nights 68 = .ok (.getfield 32, 3) := by decide +kernel
theorem dX8_nights_71 : decode cX8_nights 71 = .ok (.invokevirtual 275, 3) := by decide +kernel
theorem dX8_nights_74 : decode cX8_nights 74 = .ok (.iadd, 1) := by decide +kernel
theorem dX8_nights_75 : decode cX8_nights 75 = .ok (.istore_n 2, 1) := by decide +kernel
theorem dX8_nights_76 : decode cX8_nights 76 = .ok (.iinc 3 1, 3) := by decide +kernel
theorem dX8_nights_79 : decode cX8_nights 79 = .ok (.goto (-50), 3) := by decide +kernel
theorem dX8_nights_82 : decode cX8_nights 82 = .ok (.iload_n 2, 1) := by decide +kernel
theorem dX8_nights_83 : decode cX8_nights 83 = .ok (.ireturn, 1) := by decide +kernel
theorem dX8_keep_0 : decode cX8_keep 0 = .ok (.iload_n 1, 1) := by decide +kernel
theorem dX8_keep_1 : decode cX8_keep 1 = .ok (.ifCond .lt 8, 3) := by decide +kernel
theorem dX8_keep_4 : decode cX8_keep 4 = .ok (.iload_n 1, 1) := by decide +kernel
theorem dX8_keep_5 : decode cX8_keep 5 = .ok (.iconst 2, 1) := by decide +kernel
theorem dX8_keep_6 : decode cX8_keep 6 = .ok (.if_icmp .lt 5, 3) := by decide +kernel
theorem dX8_keep_9 : decode cX8_keep 9 = .ok (.iconst (-1), 1) := by decide +kernel
theorem dX8_keep_10 : decode cX8_keep 10 = .ok (.ireturn, 1) := by decide +kernel
theorem dX8_keep_11 : decode cX8_keep 11 = .ok (.aload_n 0, 1) := by decide +kernel
theorem dX8_keep_12 : decode cX8_keep 12 = .ok (.getfield 42, 3) := by decide +kernel
theorem dX8_keep_15 : decode cX8_keep 15 = .ok (.iload_n 1, 1) := by decide +kernel
theorem dX8_keep_16 : decode cX8_keep 16 = .ok (.aaload, 1) := by decide +kernel
theorem dX8_keep_17 : decode cX8_keep 17 = .ok (.aload_n 0, 1) := by decide +kernel
theorem dX8_keep_18 : decode cX8_keep 18 = .ok (.getfield 28, 3) := by decide +kernel
theorem dX8_keep_21 : decode cX8_keep 21 = .ok (.invokevirtual 221, 3) := by decide +kernel
theorem dX8_keep_24 : decode cX8_keep 24 = .ok (.aload_n 0, 1) := by decide +kernel
theorem dX8_keep_25 : decode cX8_keep 25 = .ok (.getfield 46, 3) := by decide +kernel
theorem dX8_keep_28 : decode cX8_keep 28 = .ok (.iload_n 1, 1) := by decide +kernel
theorem dX8_keep_29 : decode cX8_keep 29 = .ok (.iconst 1, 1) := by decide +kernel
theorem dX8_keep_30 : decode cX8_keep 30 = .ok (.bastore, 1) := by decide +kernel
theorem dX8_keep_31 : decode cX8_keep 31 = .ok (.aload_n 0, 1) := by decide +kernel
theorem dX8_keep_32 : decode cX8_keep 32 = .ok (.getfield 28, 3) := by decide +kernel
theorem dX8_keep_35 : decode cX8_keep 35 = .ok (.invokevirtual 275, 3) := by decide +kernel
theorem dX8_keep_38 : decode cX8_keep 38 = .ok (.ireturn, 1) := by decide +kernel
theorem dX8_goOn_0 : decode cX8_goOn 0 = .ok (.iload_n 1, 1) := by decide +kernel
theorem dX8_goOn_1 : decode cX8_goOn 1 = .ok (.ifCond .lt 8, 3) := by decide +kernel
theorem dX8_goOn_4 : decode cX8_goOn 4 = .ok (.iload_n 1, 1) := by decide +kernel
theorem dX8_goOn_5 : decode cX8_goOn 5 = .ok (.iconst 2, 1) := by decide +kernel
theorem dX8_goOn_6 : decode cX8_goOn 6 = .ok (.if_icmp .lt 5, 3) := by decide +kernel
theorem dX8_goOn_9 : decode cX8_goOn 9 = .ok (.iconst (-1), 1) := by decide +kernel
theorem dX8_goOn_10 : decode cX8_goOn 10 = .ok (.ireturn, 1) := by decide +kernel
theorem dX8_goOn_11 : decode cX8_goOn 11 = .ok (.aload_n 0, 1) := by decide +kernel
theorem dX8_goOn_12 : decode cX8_goOn 12 = .ok (.getfield 46, 3) := by decide +kernel
theorem dX8_goOn_15 : decode cX8_goOn 15 = .ok (.iload_n 1, 1) := by decide +kernel
theorem dX8_goOn_16 : decode cX8_goOn 16 = .ok (.baload, 1) := by decide +kernel
theorem dX8_goOn_17 : decode cX8_goOn 17 = .ok (.ifCond .ne 6, 3) := by decide +kernel
theorem dX8_goOn_20 : decode cX8_goOn 20 = .ok (.bipush (-3), 2) := by decide +kernel
theorem dX8_goOn_22 : decode cX8_goOn 22 = .ok (.ireturn, 1) := by decide +kernel
theorem dX8_goOn_23 : decode cX8_goOn 23 = .ok (.aload_n 0, 1) := by decide +kernel
theorem dX8_goOn_24 : decode cX8_goOn 24 = .ok (.getfield 28, 3) := by decide +kernel
theorem dX8_goOn_27 : decode cX8_goOn 27 = .ok (.aload_n 0, 1) := by decide +kernel
theorem dX8_goOn_28 : decode cX8_goOn 28 = .ok (.getfield 42, 3) := by decide +kernel
theorem dX8_goOn_31 : decode cX8_goOn 31 = .ok (.iload_n 1, 1) := by decide +kernel
theorem dX8_goOn_32 : decode cX8_goOn 32 = .ok (.aaload, 1) := by decide +kernel
theorem dX8_goOn_33 : decode cX8_goOn 33 = .ok (.invokevirtual 221, 3) := by decide +kernel
theorem dX8_goOn_36 : decode cX8_goOn 36 = .ok (.aload_n 0, 1) := by decide +kernel
theorem dX8_goOn_37 : decode cX8_goOn 37 = .ok (.getfield 38, 3) := by decide +kernel
theorem dX8_goOn_40 : decode cX8_goOn 40 = .ok (.invokevirtual 100, 3) := by decide +kernel
theorem dX8_goOn_43 : decode cX8_goOn 43 = .ok (.aload_n 0, 1) := by decide +kernel
theorem dX8_goOn_44 : decode cX8_goOn 44 = .ok (.getfield 28, 3) := by decide +kernel
theorem dX8_goOn_47 : decode cX8_goOn 47 = .ok (.invokevirtual 275, 3) := by decide +kernel
theorem dX8_goOn_50 : decode cX8_goOn 50 = .ok (.ireturn, 1) := by decide +kernel
theorem dX8_isWay_0 : decode cX8_isWay 0 = .ok (.iload_n 0, 1) := by decide +kernel
theorem dX8_isWay_1 : decode cX8_isWay 1 = .ok (.ifCond .lt 12, 3) := by decide +kernel
theorem dX8_isWay_4 : decode cX8_isWay 4 = .ok (.iload_n 0, 1) := by decide +kernel
theorem dX8_isWay_5 : decode cX8_isWay 5 = .ok (.iconst 4, 1) := by decide +kernel
theorem dX8_isWay_6 : decode cX8_isWay 6 = .ok (.if_icmp .ge 7, 3) := by decide +kernel
theorem dX8_isWay_9 : decode cX8_isWay 9 = .ok (.iconst 1, 1) := by decide +kernel
theorem dX8_isWay_10 : decode cX8_isWay 10 = .ok (.goto 4, 3) := by decide +kernel
theorem dX8_isWay_13 : decode cX8_isWay 13 = .ok (.iconst 0, 1) := by decide +kernel
theorem dX8_isWay_14 : decode cX8_isWay 14 = .ok (.ireturn, 1) := by decide +kernel
theorem dX8_inSight_0 : decode cX8_inSight 0 = .ok (.iload_n 0, 1) := by decide +kernel
theorem dX8_inSight_1 : decode cX8_inSight 1 = .ok (.bipush (-4), 2) := by decide +kernel
theorem dX8_inSight_3 : decode cX8_inSight 3 = .ok (.if_icmp .lt 12, 3) := by decide +kernel
theorem dX8_inSight_6 : decode cX8_inSight 6 = .ok (.iload_n 0, 1) := by decide +kernel
theorem dX8_inSight_7 : decode cX8_inSight 7 = .ok (.iconst 4, 1) := by decide +kernel
theorem dX8_inSight_8 : decode cX8_inSight 8 = .ok (.if_icmp .gt 7, 3) := by decide +kernel
theorem dX8_inSight_11 : decode cX8_inSight 11 = .ok (.iconst 1, 1) := by decide +kernel
theorem dX8_inSight_12 : decode cX8_inSight 12 = .ok (.goto 4, 3) := by decide +kernel
theorem dX8_inSight_15 : decode cX8_inSight 15 = .ok (.iconst 0, 1) := by decide +kernel
theorem dX8_inSight_16 : decode cX8_inSight 16 = .ok (.ireturn, 1) := by decide +kernel
theorem dX8_cellOf_0 : decode cX8_cellOf 0 = .ok (.iload_n 0, 1) := by decide +kernel
theorem dX8_cellOf_1 : decode cX8_cellOf 1 = .ok (.bipush 20, 2) := by decide +kernel
theorem dX8_cellOf_3 : decode cX8_cellOf 3 = .ok (.irem, 1) := by decide +kernel
theorem dX8_cellOf_4 : decode cX8_cellOf 4 = .ok (.ireturn, 1) := by decide +kernel
theorem dX8_widthOf_0 : decode cX8_widthOf 0 = .ok (.iload_n 0, 1) := by decide +kernel
theorem dX8_widthOf_1 : decode cX8_widthOf 1 = .ok (.bipush 20, 2) := by decide +kernel
theorem dX8_widthOf_3 : decode cX8_widthOf 3 = .ok (.idiv, 1) := by decide +kernel
theorem dX8_widthOf_4 : decode cX8_widthOf 4 = .ok (.bipush 7, 2) := by decide +kernel
theorem dX8_widthOf_6 : decode cX8_widthOf 6 = .ok (.irem, 1) := by decide +kernel
theorem dX8_widthOf_7 : decode cX8_widthOf 7 = .ok (.ireturn, 1) := by decide +kernel
theorem dX8_heightOf_0 : decode cX8_heightOf 0 = .ok (.iload_n 0, 1) := by decide +kernel
theorem dX8_heightOf_1 : decode cX8_heightOf 1 = .ok (.sipush 140, 3) := by decide +kernel
theorem dX8_heightOf_4 : decode cX8_heightOf 4 = .ok (.idiv, 1) := by decide +kernel
theorem dX8_heightOf_5 : decode cX8_heightOf 5 = .ok (.ireturn, 1) := by decide +kernel
theorem dX8_told_0 : decode cX8_told 0 = .ok (.iload_n 0, 1) := by decide +kernel
theorem dX8_told_1 : decode cX8_told 1 = .ok (.iload_n 1, 1) := by decide +kernel
theorem dX8_told_2 : decode cX8_told 2 = .ok (.invokestatic 278, 3) := by decide +kernel
theorem dX8_told_5 : decode cX8_told 5 = .ok (.istore_n 3, 1) := by decide +kernel
theorem dX8_told_6 : decode cX8_told 6 = .ok (.iload_n 3, 1) := by decide +kernel
theorem dX8_told_7 : decode cX8_told 7 = .ok (.iconst 1, 1) := by decide +kernel
theorem dX8_told_8 : decode cX8_told 8 = .ok (.if_icmp .ge 5, 3) := by decide +kernel
theorem dX8_told_11 : decode cX8_told 11 = .ok (.iconst 0, 1) := by decide +kernel
theorem dX8_told_12 : decode cX8_told 12 = .ok (.ireturn, 1) := by decide +kernel
theorem dX8_told_13 : decode cX8_told 13 = .ok (.iload_n 2, 1) := by decide +kernel
theorem dX8_told_14 : decode cX8_told 14 = .ok (.ifCond .eq 9, 3) := by decide +kernel
theorem dX8_told_17 : decode cX8_told 17 = .ok (.iload_n 0, 1) := by decide +kernel
theorem dX8_told_18 : decode cX8_told 18 = .ok (.iload_n 3, 1) := by decide +kernel
theorem dX8_told_19 : decode cX8_told 19 = .ok (.idiv, 1) := by decide +kernel
theorem dX8_told_20 : decode cX8_told 20 = .ok (.goto 6, 3) := by decide +kernel
theorem dX8_told_23 : decode cX8_told 23 = .ok (.iload_n 1, 1) := by decide +kernel
theorem dX8_told_24 : decode cX8_told 24 = .ok (.iload_n 3, 1) := by decide +kernel
theorem dX8_told_25 : decode cX8_told 25 = .ok (.idiv, 1) := by decide +kernel
theorem dX8_told_26 : decode cX8_told 26 = .ok (.ireturn, 1) := by decide +kernel
theorem dX8_commonDivisor_0 : decode cX8_commonDivisor 0 = .ok (.iload_n 0, 1) := by decide +kernel
theorem dX8_commonDivisor_1 : decode cX8_commonDivisor 1 = .ok (.istore_n 2, 1) := by decide +kernel
theorem dX8_commonDivisor_2 : decode cX8_commonDivisor 2 = .ok (.iload_n 1, 1) := by decide +kernel
theorem dX8_commonDivisor_3 : decode cX8_commonDivisor 3 = .ok (.istore_n 3, 1) := by decide +kernel
theorem dX8_commonDivisor_4 : decode cX8_commonDivisor 4 = .ok (.iconst 0, 1) := by decide +kernel
theorem dX8_commonDivisor_5 : decode cX8_commonDivisor 5 = .ok (.istore 4, 2) := by decide +kernel
theorem dX8_commonDivisor_7 : decode cX8_commonDivisor 7 = .ok (.iload 4, 2) := by decide +kernel
theorem dX8_commonDivisor_9 : decode cX8_commonDivisor 9 = .ok (.bipush 64, 2) := by decide +kernel
theorem dX8_commonDivisor_11 : decode cX8_commonDivisor 11 = .ok (.if_icmp .ge 23, 3) := by decide +kernel
theorem dX8_commonDivisor_14 : decode cX8_commonDivisor 14 = .ok (.iload_n 3, 1) := by decide +kernel
theorem dX8_commonDivisor_15 : decode cX8_commonDivisor 15 = .ok (.ifCond .eq 19, 3) := by decide +kernel
theorem dX8_commonDivisor_18 : decode cX8_commonDivisor 18 = .ok (.iload_n 2, 1) := by decide +kernel
theorem dX8_commonDivisor_19 : decode cX8_commonDivisor 19 = .ok (.iload_n 3, 1) := by decide +kernel
theorem dX8_commonDivisor_20 : decode cX8_commonDivisor 20 = .ok (.irem, 1) := by decide +kernel
theorem dX8_commonDivisor_21 : decode cX8_commonDivisor 21 = .ok (.istore 5, 2) := by decide +kernel
theorem dX8_commonDivisor_23 : decode cX8_commonDivisor 23 = .ok (.iload_n 3, 1) := by decide +kernel
theorem dX8_commonDivisor_24 : decode cX8_commonDivisor 24 = .ok (.istore_n 2, 1) := by decide +kernel
theorem dX8_commonDivisor_25 : decode cX8_commonDivisor 25 = .ok (.iload 5, 2) := by decide +kernel
theorem dX8_commonDivisor_27 : decode cX8_commonDivisor 27 = .ok (.istore_n 3, 1) := by decide +kernel
theorem dX8_commonDivisor_28 : decode cX8_commonDivisor 28 = .ok (.iinc 4 1, 3) := by decide +kernel
theorem dX8_commonDivisor_31 : decode cX8_commonDivisor 31 = .ok (.goto (-24), 3) := by decide +kernel
theorem dX8_commonDivisor_34 : decode cX8_commonDivisor 34 = .ok (.iload_n 2, 1) := by decide +kernel
theorem dX8_commonDivisor_35 : decode cX8_commonDivisor 35 = .ok (.ireturn, 1) := by decide +kernel
theorem dX8_stepsRound_0 : decode cX8_stepsRound 0 = .ok (.aload_n 0, 1) := by decide +kernel
theorem dX8_stepsRound_1 : decode cX8_stepsRound 1 = .ok (.getfield 28, 3) := by decide +kernel
theorem dX8_stepsRound_4 : decode cX8_stepsRound 4 = .ok (.getfield 142, 3) := by decide +kernel
theorem dX8_stepsRound_7 : decode cX8_stepsRound 7 = .ok (.iload_n 1, 1) := by decide +kernel
theorem dX8_stepsRound_8 : decode cX8_stepsRound 8 = .ok (.iaload, 1) := by decide +kernel
theorem dX8_stepsRound_9 : decode cX8_stepsRound 9 = .ok (.invokestatic 146, 3) := by decide +kernel
theorem dX8_stepsRound_12 : decode cX8_stepsRound 12 = .ok (.istore_n 3, 1) := by decide +kernel
theorem dX8_stepsRound_13 : decode cX8_stepsRound 13 = .ok (.aload_n 0, 1) := by decide +kernel
theorem dX8_stepsRound_14 : decode cX8_stepsRound 14 = .ok (.getfield 19, 3) := by decide +kernel
theorem dX8_stepsRound_17 : decode cX8_stepsRound 17 = .ok (.iload_n 1, 1) := by decide +kernel
theorem dX8_stepsRound_18 : decode cX8_stepsRound 18 = .ok (.invokevirtual 281, 3) := by decide +kernel
theorem dX8_stepsRound_21 : decode cX8_stepsRound 21 = .ok (.istore 4, 2) := by decide +kernel
theorem dX8_stepsRound_23 : decode cX8_stepsRound 23 = .ok (.iload_n 3, 1) := by decide +kernel
theorem dX8_stepsRound_24 : decode cX8_stepsRound 24 = .ok (.istore 5, 2) := by decide +kernel
theorem dX8_stepsRound_26 : decode cX8_stepsRound 26 = .ok (.iconst 1, 1) := by decide +kernel
theorem dX8_stepsRound_27 : decode cX8_stepsRound 27 = .ok (.istore 6, 2) := by decide +kernel
theorem dX8_stepsRound_29 : decode cX8_stepsRound 29 = .ok (.iload 6, 2) := by decide +kernel
theorem dX8_stepsRound_31 : decode cX8_stepsRound 31 = .ok (.bipush 20, 2) := by decide +kernel
theorem dX8_stepsRound_33 : decode cX8_stepsRound 33 = .ok (.if_icmp .gt 48, 3) := by decide +kernel
theorem dX8_stepsRound_36 : decode cX8_stepsRound 36 = .ok (.aload_n 0, 1) := by decide +kernel
theorem dX8_stepsRound_37 : decode cX8_stepsRound 37 = .ok (.getfield 19, 3) := by decide +kernel
theorem dX8_stepsRound_40 : decode cX8_stepsRound 40 = .ok (.iload 5, 2) := by decide +kernel
theorem dX8_stepsRound_42 : decode cX8_stepsRound 42 = .ok (.iload_n 2, 1) := by decide +kernel
theorem dX8_stepsRound_43 : decode cX8_stepsRound 43 = .ok (.iload 4, 2) := by decide +kernel
theorem dX8_stepsRound_45 : decode cX8_stepsRound 45 = .ok (.invokevirtual 135, 3) := by decide +kernel
theorem dX8_stepsRound_48 : decode cX8_stepsRound 48 = .ok (.istore 5, 2) := by decide +kernel
theorem dX8_stepsRound_50 : decode cX8_stepsRound 50 = .ok (.aload_n 0, 1) := by decide +kernel
theorem dX8_stepsRound_51 : decode cX8_stepsRound 51 = .ok (.getfield 28, 3) := by decide +kernel
theorem dX8_stepsRound_54 : decode cX8_stepsRound 54 = .ok (.iload_n 1, 1) := by decide +kernel
theorem dX8_stepsRound_55 : decode cX8_stepsRound 55 = .ok (.iload 5, 2) := by decide +kernel
theorem dX8_stepsRound_57 : decode cX8_stepsRound 57 = .ok (.invokevirtual 284, 3) := by decide +kernel
theorem dX8_stepsRound_60 : decode cX8_stepsRound 60 = .ok (.ifCond .ne 6, 3) := by decide +kernel
theorem dX8_stepsRound_63 : decode cX8_stepsRound 63 = .ok (.bipush (-9), 2) := by decide +kernel
theorem dX8_stepsRound_65 : decode cX8_stepsRound 65 = .ok (.ireturn, 1) := by decide +kernel
theorem dX8_stepsRound_66 : decode cX8_stepsRound 66 = .ok (.iload 5, 2) := by decide +kernel
theorem dX8_stepsRound_68 : decode cX8_stepsRound 68 = .ok (.iload_n 3, 1) := by decide +kernel
theorem dX8_stepsRound_69 : decode cX8_stepsRound 69 = .ok (.if_icmp .ne 6, 3) := by decide +kernel
theorem dX8_stepsRound_72 : decode cX8_stepsRound 72 = .ok (.iload 6, 2) := by decide +kernel
theorem dX8_stepsRound_74 : decode cX8_stepsRound 74 = .ok (.ireturn, 1) := by decide +kernel
theorem dX8_stepsRound_75 : decode cX8_stepsRound 75 = .ok (.iinc 6 1, 3) := by decide +kernel
theorem dX8_stepsRound_78 : decode cX8_stepsRound 78 = .ok (.goto (-49), 3) := by decide +kernel
theorem dX8_stepsRound_81 : decode cX8_stepsRound 81 = .ok (.bipush (-9), 2) := by decide +kernel
theorem dX8_stepsRound_83 : decode cX8_stepsRound 83 = .ok (.ireturn, 1) := by decide +kernel
theorem dX8_looksLike_0 : decode cX8_looksLike 0 = .ok (.aload_n 0, 1) := by decide +kernel
theorem dX8_looksLike_1 : decode cX8_looksLike 1 = .ok (.getfield 28, 3) := by decide +kernel
theorem dX8_looksLike_4 : decode cX8_looksLike 4 = .ok (.iload_n 1, 1) := by decide +kernel
theorem dX8_looksLike_5 : decode cX8_looksLike 5 = .ok (.invokevirtual 129, 3) := by decide +kernel
theorem dX8_looksLike_8 : decode cX8_looksLike 8 = .ok (.aload_n 0, 1) := by decide +kernel
theorem dX8_looksLike_9 : decode cX8_looksLike 9 = .ok (.getfield 28, 3) := by decide +kernel
theorem dX8_looksLike_12 : decode cX8_looksLike 12 = .ok (.iload_n 2, 1) := by decide +kernel
theorem dX8_looksLike_13 : decode cX8_looksLike 13 = .ok (.invokevirtual 129, 3) := by decide +kernel
theorem dX8_looksLike_16 : decode cX8_looksLike 16 = .ok (.if_icmp .eq 5, 3) := by decide +kernel
theorem dX8_looksLike_19 : decode cX8_looksLike 19 = .ok (.iconst 0, 1) := by decide +kernel
theorem dX8_looksLike_20 : decode cX8_looksLike 20 = .ok (.ireturn, 1) := by decide +kernel
theorem dX8_looksLike_21 : decode cX8_looksLike 21 = .ok (.iconst 0, 1) := by decide +kernel
theorem dX8_looksLike_22 : decode cX8_looksLike 22 = .ok (.istore_n 3, 1) := by decide +kernel
theorem dX8_looksLike_23 : decode cX8_looksLike 23 = .ok (.iload_n 3, 1) := by decide +kernel
theorem dX8_looksLike_24 : decode cX8_looksLike 24 = .ok (.iconst 4, 1) := by decide +kernel
theorem dX8_looksLike_25 : decode cX8_looksLike 25 = .ok (.if_icmp .ge 52, 3) := by decide +kernel
theorem dX8_looksLike_28 : decode cX8_looksLike 28 = .ok (.aload_n 0, 1) := by decide +kernel
theorem dX8_looksLike_29 : decode cX8_looksLike 29 = .ok (.getfield 28, 3) := by decide +kernel
theorem dX8_looksLike_32 : decode cX8_looksLike 32 = .ok (.aload_n 0, 1) := by decide +kernel
theorem dX8_looksLike_33 : decode cX8_looksLike 33 = .ok (.getfield 19, 3) := by decide +kernel
theorem dX8_looksLike_36 : decode cX8_looksLike 36 = .ok (.iload_n 1, 1) := by decide +kernel
theorem dX8_looksLike_37 : decode cX8_looksLike 37 = .ok (.iload_n 3, 1) := by decide +kernel
theorem dX8_looksLike_38 : decode cX8_looksLike 38 = .ok (.iconst 0, 1) := by decide +kernel
theorem dX8_looksLike_39 : decode cX8_looksLike 39 = .ok (.invokevirtual 135, 3) := by decide +kernel
theorem dX8_looksLike_42 : decode cX8_looksLike 42 = .ok (.invokevirtual 129, 3) := by decide +kernel
theorem dX8_looksLike_45 : decode cX8_looksLike 45 = .ok (.istore 4, 2) := by decide +kernel
theorem dX8_looksLike_47 : decode cX8_looksLike 47 = .ok (.iload 4, 2) := by decide +kernel
theorem dX8_looksLike_49 : decode cX8_looksLike 49 = .ok (.aload_n 0, 1) := by decide +kernel
theorem dX8_looksLike_50 : decode cX8_looksLike 50 = .ok (.getfield 28, 3) := by decide +kernel
theorem dX8_looksLike_53 : decode cX8_looksLike 53 = .ok (.aload_n 0, 1) := by decide +kernel
theorem dX8_looksLike_54 : decode cX8_looksLike 54 = .ok (.getfield 19, 3) := by decide +kernel
theorem dX8_looksLike_57 : decode cX8_looksLike 57 = .ok (.iload_n 2, 1) := by decide +kernel
theorem dX8_looksLike_58 : decode cX8_looksLike 58 = .ok (.iload_n 3, 1) := by decide +kernel
theorem dX8_looksLike_59 : decode cX8_looksLike 59 = .ok (.iconst 0, 1) := by decide +kernel
theorem dX8_looksLike_60 : decode cX8_looksLike 60 = .ok (.invokevirtual 135, 3) := by decide +kernel
theorem dX8_looksLike_63 : decode cX8_looksLike 63 = .ok (.invokevirtual 129, 3) := by decide +kernel
theorem dX8_looksLike_66 : decode cX8_looksLike 66 = .ok (.if_icmp .eq 5, 3) := by decide +kernel
theorem dX8_looksLike_69 : decode cX8_looksLike 69 = .ok (.iconst 0, 1) := by decide +kernel
theorem dX8_looksLike_70 : decode cX8_looksLike 70 = .ok (.ireturn, 1) := by decide +kernel
theorem dX8_looksLike_71 : decode cX8_looksLike 71 = .ok (.iinc 3 1, 3) := by decide +kernel
theorem dX8_looksLike_74 : decode cX8_looksLike 74 = .ok (.goto (-51), 3) := by decide +kernel
theorem dX8_looksLike_77 : decode cX8_looksLike 77 = .ok (.iconst 1, 1) := by decide +kernel
theorem dX8_looksLike_78 : decode cX8_looksLike 78 = .ok (.ireturn, 1) := by decide +kernel
theorem dX8_unlikeRows_0 : decode cX8_unlikeRows 0 = .ok (.iconst 0, 1) := by decide +kernel
theorem dX8_unlikeRows_1 : decode cX8_unlikeRows 1 = .ok (.istore_n 2, 1) := by decide +kernel
theorem dX8_unlikeRows_2 : decode cX8_unlikeRows 2 = .ok (.iconst 0, 1) := by decide +kernel
theorem dX8_unlikeRows_3 : decode cX8_unlikeRows 3 = .ok (.istore_n 3, 1) := by decide +kernel
theorem dX8_unlikeRows_4 : decode cX8_unlikeRows 4 = .ok (.iload_n 3, 1) := by decide +kernel
theorem dX8_unlikeRows_5 : decode cX8_unlikeRows 5 = .ok (.aload_n 0, 1) := by decide +kernel
theorem dX8_unlikeRows_6 : decode cX8_unlikeRows 6 = .ok (.getfield 19, 3) := by decide +kernel
theorem dX8_unlikeRows_9 : decode cX8_unlikeRows 9 = .ok (.getfield 106, 3) := by decide +kernel
theorem dX8_unlikeRows_12 : decode cX8_unlikeRows 12 = .ok (.if_icmp .ge 73, 3) := by decide +kernel
theorem dX8_unlikeRows_15 : decode cX8_unlikeRows 15 = .ok (.iload_n 3, 1) := by decide +kernel
theorem dX8_unlikeRows_16 : decode cX8_unlikeRows 16 = .ok (.aload_n 0, 1) := by decide +kernel
theorem dX8_unlikeRows_17 : decode cX8_unlikeRows 17 = .ok (.getfield 19, 3) := by decide +kernel
theorem dX8_unlikeRows_20 : decode cX8_unlikeRows 20 = .ok (.getfield 103, 3) := by decide +kernel
theorem dX8_unlikeRows_23 : decode cX8_unlikeRows 23 = .ok (.imul, 1) := by decide +kernel
theorem dX8_unlikeRows_24 : decode cX8_unlikeRows 24 = .ok (.aload_n 0, 1) := by decide +kernel
theorem dX8_unlikeRows_25 : decode cX8_unlikeRows 25 = .ok (.getfield 19, 3) := by decide +kernel
theorem dX8_unlikeRows_28 : decode cX8_unlikeRows 28 = .ok (.getfield 103, 3) := by decide +kernel
theorem dX8_unlikeRows_31 : decode cX8_unlikeRows 31 = .ok (.iadd, 1) := by decide +kernel
theorem dX8_unlikeRows_32 : decode cX8_unlikeRows 32 = .ok (.iconst 1, 1) := by decide +kernel
theorem dX8_unlikeRows_33 : decode cX8_unlikeRows 33 = .ok (.isub, 1) := by decide +kernel
theorem dX8_unlikeRows_34 : decode cX8_unlikeRows 34 = .ok (.istore 4, 2) := by decide +kernel
theorem dX8_unlikeRows_36 : decode cX8_unlikeRows 36 = .ok (.aload_n 0, 1) := by decide +kernel
theorem dX8_unlikeRows_37 : decode cX8_unlikeRows 37 = .ok (.getfield 19, 3) := by decide +kernel
theorem dX8_unlikeRows_40 : decode cX8_unlikeRows 40 = .ok (.iload_n 3, 1) := by decide +kernel
theorem dX8_unlikeRows_41 : decode cX8_unlikeRows 41 = .ok (.iload_n 1, 1) := by decide +kernel
theorem dX8_unlikeRows_42 : decode cX8_unlikeRows 42 = .ok (.invokevirtual 287, 3) := by decide +kernel
theorem dX8_unlikeRows_45 : decode cX8_unlikeRows 45 = .ok (.aload_n 0, 1) := by decide +kernel
theorem dX8_unlikeRows_46 : decode cX8_unlikeRows 46 = .ok (.getfield 19, 3) := by decide +kernel
theorem dX8_unlikeRows_49 : decode cX8_unlikeRows 49 = .ok (.getfield 103, 3) := by decide +kernel
theorem dX8_unlikeRows_52 : decode cX8_unlikeRows 52 = .ok (.imul, 1) := by decide +kernel
theorem dX8_unlikeRows_53 : decode cX8_unlikeRows 53 = .ok (.istore 5, 2) := by decide +kernel
theorem dX8_unlikeRows_55 : decode cX8_unlikeRows 55 = .ok (.aload_n 0, 1) := by decide +kernel
theorem dX8_unlikeRows_56 : decode cX8_unlikeRows 56 = .ok (.getfield 28, 3) := by decide +kernel
theorem dX8_unlikeRows_59 : decode cX8_unlikeRows 59 = .ok (.iload 4, 2) := by decide +kernel
theorem dX8_unlikeRows_61 : decode cX8_unlikeRows 61 = .ok (.invokevirtual 129, 3) := by decide +kernel
theorem dX8_unlikeRows_64 : decode cX8_unlikeRows 64 = .ok (.aload_n 0, 1) := by decide +kernel
theorem dX8_unlikeRows_65 : decode cX8_unlikeRows 65 = .ok (.getfield 28, 3) := by decide +kernel
theorem dX8_unlikeRows_68 : decode cX8_unlikeRows 68 = .ok (.iload 5, 2) := by decide +kernel
theorem dX8_unlikeRows_70 : decode cX8_unlikeRows 70 = .ok (.invokevirtual 129, 3) := by decide +kernel
theorem dX8_unlikeRows_73 : decode cX8_unlikeRows 73 = .ok (.if_icmp .eq 6, 3) := by decide +kernel
theorem dX8_unlikeRows_76 : decode cX8_unlikeRows 76 = .ok (.iinc 2 1, 3) := by decide +kernel
theorem dX8_unlikeRows_79 : decode cX8_unlikeRows 79 = .ok (.iinc 3 1, 3) := by decide +kernel
theorem dX8_unlikeRows_82 : decode cX8_unlikeRows 82 = .ok (.goto (-78), 3) := by decide +kernel
theorem dX8_unlikeRows_85 : decode cX8_unlikeRows 85 = .ok (.iload_n 2, 1) := by decide +kernel
theorem dX8_unlikeRows_86 : decode cX8_unlikeRows 86 = .ok (.ireturn, 1) := by decide +kernel
theorem dX8_holds_0 : decode cX8_holds 0 = .ok (.iload_n 2, 1) := by decide +kernel
theorem dX8_holds_1 : decode cX8_holds 1 = .ok (.bipush 10, 2) := by decide +kernel
theorem dX8_holds_3 : decode cX8_holds 3 = .ok (.imul, 1) := by decide +kernel
theorem dX8_holds_4 : decode cX8_holds 4 = .ok (.iload_n 3, 1) := by decide +kernel
theorem dX8_holds_5 : decode cX8_holds 5 = .ok (.iadd, 1) := by decide +kernel
theorem dX8_holds_6 : decode cX8_holds 6 = .ok (.istore 4, 2) := by decide +kernel
theorem dX8_holds_8 : decode cX8_holds 8 = .ok (.iload_n 1, 1) := by decide +kernel
theorem dX8_holds_9 : decode cX8_holds 9 = .ok (.tableswitch 163 1 4 #[31, 67, 93, 131], 31) := by decide +kernel
theorem dX8_holds_40 : decode cX8_holds 40 = .ok (.aload_n 0, 1) := by decide +kernel
theorem dX8_holds_41 : decode cX8_holds 41 = .ok (.getfield 19, 3) := by decide +kernel
theorem dX8_holds_44 : decode cX8_holds 44 = .ok (.iload_n 2, 1) := by decide +kernel
theorem dX8_holds_45 : decode cX8_holds 45 = .ok (.invokevirtual 139, 3) := by decide +kernel
theorem dX8_holds_48 : decode cX8_holds 48 = .ok (.ifCond .eq 26, 3) := by decide +kernel
theorem dX8_holds_51 : decode cX8_holds 51 = .ok (.iload_n 3, 1) := by decide +kernel
theorem dX8_holds_52 : decode cX8_holds 52 = .ok (.invokestatic 132, 3) := by decide +kernel
theorem dX8_holds_55 : decode cX8_holds 55 = .ok (.ifCond .eq 19, 3) := by decide +kernel
theorem dX8_holds_58 : decode cX8_holds 58 = .ok (.aload_n 0, 1) := by decide +kernel
theorem dX8_holds_59 : decode cX8_holds 59 = .ok (.getfield 32, 3) := by decide +kernel
theorem dX8_holds_62 : decode cX8_holds 62 = .ok (.iload_n 2, 1) := by decide +kernel
theorem dX8_holds_63 : decode cX8_holds 63 = .ok (.iload_n 3, 1) := by decide +kernel
theorem dX8_holds_64 : decode cX8_holds 64 = .ok (.invokevirtual 172, 3) := by decide +kernel
theorem dX8_holds_67 : decode cX8_holds 67 = .ok (.ifCond .eq 7, 3) := by decide +kernel
theorem dX8_holds_70 : decode cX8_holds 70 = .ok (.iconst 1, 1) := by decide +kernel
theorem dX8_holds_71 : decode cX8_holds 71 = .ok (.goto 4, 3) := by decide +kernel
theorem dX8_holds_74 : decode cX8_holds 74 = .ok (.iconst 0, 1) := by decide +kernel
theorem dX8_holds_75 : decode cX8_holds 75 = .ok (.ireturn, 1) := by decide +kernel
theorem dX8_holds_76 : decode cX8_holds 76 = .ok (.aload_n 0, 1) := by decide +kernel
theorem dX8_holds_77 : decode cX8_holds 77 = .ok (.getfield 19, 3) := by decide +kernel
theorem dX8_holds_80 : decode cX8_holds 80 = .ok (.iload 4, 2) := by decide +kernel
theorem dX8_holds_82 : decode cX8_holds 82 = .ok (.invokevirtual 126, 3) := by decide +kernel
theorem dX8_holds_85 : decode cX8_holds 85 = .ok (.ifCond .ne 5, 3) := by decide +kernel
theorem dX8_holds_88 : decode cX8_holds 88 = .ok (.iconst 0, 1) := by decide +kernel
theorem dX8_holds_89 : decode cX8_holds 89 = .ok (.ireturn, 1) := by decide +kernel
theorem dX8_holds_90 : decode cX8_holds 90 = .ok (.aload_n 0, 1) := by decide +kernel
theorem dX8_holds_91 : decode cX8_holds 91 = .ok (.getfield 32, 3) := by decide +kernel
theorem dX8_holds_94 : decode cX8_holds 94 = .ok (.iload 4, 2) := by decide +kernel
theorem dX8_holds_96 : decode cX8_holds 96 = .ok (.invokevirtual 176, 3) := by decide +kernel
theorem dX8_holds_99 : decode cX8_holds 99 = .ok (.pop, 1) := by decide +kernel
theorem dX8_holds_100 : decode cX8_holds 100 = .ok (.iconst 1, 1) := by decide +kernel
theorem dX8_holds_101 : decode cX8_holds 101 = .ok (.ireturn, 1) := by decide +kernel
theorem dX8_holds_102 : decode cX8_holds 102 = .ok (.aload_n 0, 1) := by decide +kernel
theorem dX8_holds_103 : decode cX8_holds 103 = .ok (.getfield 19, 3) := by decide +kernel
theorem dX8_holds_106 : decode cX8_holds 106 = .ok (.iload 4, 2) := by decide +kernel
theorem dX8_holds_108 : decode cX8_holds 108 = .ok (.invokevirtual 126, 3) := by decide +kernel
theorem dX8_holds_111 : decode cX8_holds 111 = .ok (.ifCond .eq 16, 3) := by decide +kernel
theorem dX8_holds_114 : decode cX8_holds 114 = .ok (.aload_n 0, 1) := by decide +kernel
theorem dX8_holds_115 : decode cX8_holds 115 = .ok (.getfield 32, 3) := by decide +kernel
theorem dX8_holds_118 : decode cX8_holds 118 = .ok (.iload 4, 2) := by decide +kernel
theorem dX8_holds_120 : decode cX8_holds 120 = .ok (.invokevirtual 129, 3) := by decide +kernel
theorem dX8_holds_123 : decode cX8_holds 123 = .ok (.iconst 1, 1) := by decide +kernel
theorem dX8_holds_124 : decode cX8_holds 124 = .ok (.if_icmp .eq 5, 3) := by decide +kernel
theorem dX8_holds_127 : decode cX8_holds 127 = .ok (.iconst 0, 1) := by decide +kernel
theorem dX8_holds_128 : decode cX8_holds 128 = .ok (.ireturn, 1) := by decide +kernel
theorem dX8_holds_129 : decode cX8_holds 129 = .ok (.aload_n 0, 1) := by decide +kernel
theorem dX8_holds_130 : decode cX8_holds 130 = .ok (.getfield 32, 3) := by decide +kernel
theorem dX8_holds_133 : decode cX8_holds 133 = .ok (.iload 4, 2) := by decide +kernel
theorem dX8_holds_135 : decode cX8_holds 135 = .ok (.invokevirtual 179, 3) := by decide +kernel
theorem dX8_holds_138 : decode cX8_holds 138 = .ok (.iconst 1, 1) := by decide +kernel
theorem dX8_holds_139 : decode cX8_holds 139 = .ok (.ireturn, 1) := by decide +kernel
theorem dX8_holds_140 : decode cX8_holds 140 = .ok (.iload_n 2, 1) := by decide +kernel
theorem dX8_holds_141 : decode cX8_holds 141 = .ok (.ifCond .ne 29, 3) := by decide +kernel
theorem dX8_holds_144 : decode cX8_holds 144 = .ok (.aload_n 0, 1) := by decide +kernel
theorem dX8_holds_145 : decode cX8_holds 145 = .ok (.getfield 19, 3) := by decide +kernel
theorem dX8_holds_148 : decode cX8_holds 148 = .ok (.iload_n 3, 1) := by decide +kernel
theorem dX8_holds_149 : decode cX8_holds 149 = .ok (.invokevirtual 139, 3) := by decide +kernel
theorem dX8_holds_152 : decode cX8_holds 152 = .ok (.ifCond .eq 18, 3) := by decide +kernel
theorem dX8_holds_155 : decode cX8_holds 155 = .ok (.aload_n 0, 1) := by decide +kernel
theorem dX8_holds_156 : decode cX8_holds 156 = .ok (.getfield 32, 3) := by decide +kernel
theorem dX8_holds_159 : decode cX8_holds 159 = .ok (.iload_n 3, 1) := by decide +kernel
theorem dX8_holds_160 : decode cX8_holds 160 = .ok (.invokevirtual 290, 3) := by decide +kernel
theorem dX8_holds_163 : decode cX8_holds 163 = .ok (.ifCond .eq 7, 3) := by decide +kernel
theorem dX8_holds_166 : decode cX8_holds 166 = .ok (.iconst 1, 1) := by decide +kernel
theorem dX8_holds_167 : decode cX8_holds 167 = .ok (.goto 4, 3) := by decide +kernel
theorem dX8_holds_170 : decode cX8_holds 170 = .ok (.iconst 0, 1) := by decide +kernel
theorem dX8_holds_171 : decode cX8_holds 171 = .ok (.ireturn, 1) := by decide +kernel
theorem dX8_holds_172 : decode cX8_holds 172 = .ok (.iconst 0, 1) := by decide +kernel
theorem dX8_holds_173 : decode cX8_holds 173 = .ok (.ireturn, 1) := by decide +kernel
theorem dX8_happens_0 : decode cX8_happens 0 = .ok (.iload_n 1, 1) := by decide +kernel
theorem dX8_happens_1 : decode cX8_happens 1 = .ok (.bipush 20, 2) := by decide +kernel
theorem dX8_happens_3 : decode cX8_happens 3 = .ok (.if_icmp .ge 33, 3) := by decide +kernel
theorem dX8_happens_6 : decode cX8_happens 6 = .ok (.iload_n 1, 1) := by decide +kernel
theorem dX8_happens_7 : decode cX8_happens 7 = .ok (.iconst 4, 1) := by decide +kernel
theorem dX8_happens_8 : decode cX8_happens 8 = .ok (.idiv, 1) := by decide +kernel
theorem dX8_happens_9 : decode cX8_happens 9 = .ok (.istore_n 2, 1) := by decide +kernel
theorem dX8_happens_10 : decode cX8_happens 10 = .ok (.aload_n 0, 1) := by decide +kernel
theorem dX8_happens_11 : decode cX8_happens 11 = .ok (.getfield 19, 3) := by decide +kernel
theorem dX8_happens_14 : decode cX8_happens 14 = .ok (.iload_n 2, 1) := by decide +kernel
theorem dX8_happens_15 : decode cX8_happens 15 = .ok (.invokevirtual 139, 3) := by decide +kernel
theorem dX8_happens_18 : decode cX8_happens 18 = .ok (.ifCond .eq 15, 3) := by decide +kernel
theorem dX8_happens_21 : decode cX8_happens 21 = .ok (.aload_n 0, 1) := by decide +kernel
theorem dX8_happens_22 : decode cX8_happens 22 = .ok (.getfield 32, 3) := by decide +kernel
theorem dX8_happens_25 : decode cX8_happens 25 = .ok (.iload_n 2, 1) := by decide +kernel
theorem dX8_happens_26 : decode cX8_happens 26 = .ok (.iload_n 1, 1) := by decide +kernel
theorem dX8_happens_27 : decode cX8_happens 27 = .ok (.iconst 4, 1) := by decide +kernel
theorem dX8_happens_28 : decode cX8_happens 28 = .ok (.irem, 1) := by decide +kernel
theorem dX8_happens_29 : decode cX8_happens 29 = .ok (.invokevirtual 172, 3) := by decide +kernel
theorem dX8_happens_32 : decode cX8_happens 32 = .ok (.pop, 1) := by decide +kernel
theorem dX8_happens_33 : decode cX8_happens 33 = .ok (.goto 29, 3) := by decide +kernel
theorem dX8_happens_36 : decode cX8_happens 36 = .ok (.aload_n 0, 1) := by decide +kernel
theorem dX8_happens_37 : decode cX8_happens 37 = .ok (.getfield 19, 3) := by decide +kernel
theorem dX8_happens_40 : decode cX8_happens 40 = .ok (.iload_n 1, 1) := by decide +kernel
theorem dX8_happens_41 : decode cX8_happens 41 = .ok (.bipush 20, 2) := by decide +kernel
theorem dX8_happens_43 : decode cX8_happens 43 = .ok (.isub, 1) := by decide +kernel
theorem dX8_happens_44 : decode cX8_happens 44 = .ok (.invokevirtual 126, 3) := by decide +kernel
theorem dX8_happens_47 : decode cX8_happens 47 = .ok (.ifCond .eq 15, 3) := by decide +kernel
theorem dX8_happens_50 : decode cX8_happens 50 = .ok (.aload_n 0, 1) := by decide +kernel
theorem dX8_happens_51 : decode cX8_happens 51 = .ok (.getfield 32, 3) := by decide +kernel
theorem dX8_happens_54 : decode cX8_happens 54 = .ok (.iload_n 1, 1) := by decide +kernel
theorem dX8_happens_55 : decode cX8_happens 55 = .ok (.bipush 20, 2) := by decide +kernel
theorem dX8_happens_57 : decode cX8_happens 57 = .ok (.isub, 1) := by decide +kernel
theorem dX8_happens_58 : decode cX8_happens 58 = .ok (.invokevirtual 176, 3) := by decide +kernel
theorem dX8_happens_61 : decode cX8_happens 61 = .ok (.pop, 1) := by decide +kernel
theorem dX8_happens_62 : decode cX8_happens 62 = .ok (.return_, 1) := by decide +kernel
theorem dX8_isRest_0 : decode cX8_isRest 0 = .ok (.aload_n 0, 1) := by decide +kernel
theorem dX8_isRest_1 : decode cX8_isRest 1 = .ok (.getfield 74, 3) := by decide +kernel
theorem dX8_isRest_4 : decode cX8_isRest 4 = .ok (.iload_n 1, 1) := by decide +kernel
theorem dX8_isRest_5 : decode cX8_isRest 5 = .ok (.aload_n 0, 1) := by decide +kernel
theorem dX8_isRest_6 : decode cX8_isRest 6 = .ok (.getfield 78, 3) := by decide +kernel
theorem dX8_isRest_9 : decode cX8_isRest 9 = .ok (.iload_n 2, 1) := by decide +kernel
theorem dX8_isRest_10 : decode cX8_isRest 10 = .ok (.invokevirtual 293, 3) := by decide +kernel
theorem dX8_isRest_13 : decode cX8_isRest 13 = .ok (.istore_n 3, 1) := by decide +kernel
theorem dX8_isRest_14 : decode cX8_isRest 14 = .ok (.aload_n 0, 1) := by decide +kernel
theorem dX8_isRest_15 : decode cX8_isRest 15 = .ok (.getfield 78, 3) := by decide +kernel
theorem dX8_isRest_18 : decode cX8_isRest 18 = .ok (.iload_n 2, 1) := by decide +kernel
theorem dX8_isRest_19 : decode cX8_isRest 19 = .ok (.aload_n 0, 1) := by decide +kernel
theorem dX8_isRest_20 : decode cX8_isRest 20 = .ok (.getfield 74, 3) := by decide +kernel
theorem dX8_isRest_23 : decode cX8_isRest 23 = .ok (.iload_n 1, 1) := by decide +kernel
theorem dX8_isRest_24 : decode cX8_isRest 24 = .ok (.invokevirtual 293, 3) := by decide +kernel
theorem dX8_isRest_27 : decode cX8_isRest 27 = .ok (.istore 4, 2) := by decide +kernel
theorem dX8_isRest_29 : decode cX8_isRest 29 = .ok (.iconst 0, 1) := by decide +kernel
theorem dX8_isRest_30 : decode cX8_isRest 30 = .ok (.istore 5, 2) := by decide +kernel
theorem dX8_isRest_32 : decode cX8_isRest 32 = .ok (.iload 5, 2) := by decide +kernel
theorem dX8_isRest_34 : decode cX8_isRest 34 = .ok (.iconst 4, 1) := by decide +kernel
theorem dX8_isRest_35 : decode cX8_isRest 35 = .ok (.if_icmp .ge 48, 3) := by decide +kernel
theorem dX8_isRest_38 : decode cX8_isRest 38 = .ok (.aload_n 0, 1) := by decide +kernel
theorem dX8_isRest_39 : decode cX8_isRest 39 = .ok (.getfield 74, 3) := by decide +kernel
theorem dX8_isRest_42 : decode cX8_isRest 42 = .ok (.iload 5, 2) := by decide +kernel
theorem dX8_isRest_44 : decode cX8_isRest 44 = .ok (.aload_n 0, 1) := by decide +kernel
theorem dX8_isRest_45 : decode cX8_isRest 45 = .ok (.getfield 78, 3) := by decide +kernel
theorem dX8_isRest_48 : decode cX8_isRest 48 = .ok (.iload_n 2, 1) := by decide +kernel
theorem dX8_isRest_49 : decode cX8_isRest 49 = .ok (.invokevirtual 293, 3) := by decide +kernel
theorem dX8_isRest_52 : decode cX8_isRest 52 = .ok (.iload_n 3, 1) := by decide +kernel
theorem dX8_isRest_53 : decode cX8_isRest 53 = .ok (.if_icmp .gt 22, 3) := by decide +kernel
theorem dX8_isRest_56 : decode cX8_isRest 56 = .ok (.aload_n 0, 1) := by decide +kernel
theorem dX8_isRest_57 : decode cX8_isRest 57 = .ok (.getfield 78, 3) := by decide +kernel
theorem dX8_isRest_60 : decode cX8_isRest 60 = .ok (.iload 5, 2) := by decide +kernel
theorem dX8_isRest_62 : decode cX8_isRest 62 = .ok (.aload_n 0, 1) := by decide +kernel
theorem dX8_isRest_63 : decode cX8_isRest 63 = .ok (.getfield 74, 3) := by decide +kernel
theorem dX8_isRest_66 : decode cX8_isRest 66 = .ok (.iload_n 1, 1) := by decide +kernel
theorem dX8_isRest_67 : decode cX8_isRest 67 = .ok (.invokevirtual 293, 3) := by decide +kernel
theorem dX8_isRest_70 : decode cX8_isRest 70 = .ok (.iload 4, 2) := by decide +kernel
theorem dX8_isRest_72 : decode cX8_isRest 72 = .ok (.if_icmp .le 5, 3) := by decide +kernel
theorem dX8_isRest_75 : decode cX8_isRest 75 = .ok (.iconst 0, 1) := by decide +kernel
theorem dX8_isRest_76 : decode cX8_isRest 76 = .ok (.ireturn, 1) := by decide +kernel
theorem dX8_isRest_77 : decode cX8_isRest 77 = .ok (.iinc 5 1, 3) := by decide +kernel
theorem dX8_isRest_80 : decode cX8_isRest 80 = .ok (.goto (-48), 3) := by decide +kernel
theorem dX8_isRest_83 : decode cX8_isRest 83 = .ok (.iconst 1, 1) := by decide +kernel
theorem dX8_isRest_84 : decode cX8_isRest 84 = .ok (.ireturn, 1) := by decide +kernel
theorem dX8_countOfRests_0 : decode cX8_countOfRests 0 = .ok (.iconst 0, 1) := by decide +kernel
theorem dX8_countOfRests_1 : decode cX8_countOfRests 1 = .ok (.istore_n 1, 1) := by decide +kernel
theorem dX8_countOfRests_2 : decode cX8_countOfRests 2 = .ok (.iconst 0, 1) := by decide +kernel
theorem dX8_countOfRests_3 : decode cX8_countOfRests 3 = .ok (.istore_n 2, 1) := by decide +kernel
theorem dX8_countOfRests_4 : decode cX8_countOfRests 4 = .ok (.iload_n 2, 1) := by decide +kernel
theorem dX8_countOfRests_5 : decode cX8_countOfRests 5 = .ok (.iconst 4, 1) := by decide +kernel
theorem dX8_countOfRests_6 : decode cX8_countOfRests 6 = .ok (.if_icmp .ge 34, 3) := by decide +kernel
theorem dX8_countOfRests_9 : decode cX8_countOfRests 9 = .ok (.iconst 0, 1) := by decide +kernel
theorem dX8_countOfRests_10 : decode cX8_countOfRests 10 = .ok (.istore_n 3, 1) := by decide +kernel
theorem dX8_countOfRests_11 : decode cX8_countOfRests 11 = .ok (.iload_n 3, 1) := by decide +kernel
theorem dX8_countOfRests_12 : decode cX8_countOfRests 12 = .ok (.iconst 4, 1) := by decide +kernel
theorem dX8_countOfRests_13 : decode cX8_countOfRests 13 = .ok (.if_icmp .ge 21, 3) := by decide +kernel
theorem dX8_countOfRests_16 : decode cX8_countOfRests 16 = .ok (.aload_n 0, 1) := by decide +kernel
theorem dX8_countOfRests_17 : decode cX8_countOfRests 17 = .ok (.iload_n 2, 1) := by decide +kernel
theorem dX8_countOfRests_18 : decode cX8_countOfRests 18 = .ok (.iload_n 3, 1) := by decide +kernel
theorem dX8_countOfRests_19 : decode cX8_countOfRests 19 = .ok (.invokevirtual 297, 3) := by decide +kernel
theorem dX8_countOfRests_22 : decode cX8_countOfRests 22 = .ok (.ifCond .eq 6, 3) := by decide +kernel
theorem dX8_countOfRests_25 : decode cX8_countOfRests 25 = .ok (.iinc 1 1, 3) := by decide +kernel
theorem dX8_countOfRests_28 : decode cX8_countOfRests 28 = .ok (.iinc 3 1, 3) := by decide +kernel
theorem dX8_countOfRests_31 : decode cX8_countOfRests 31 = .ok (.goto (-20), 3) := by decide +kernel
theorem dX8_countOfRests_34 : decode cX8_countOfRests 34 = .ok (.iinc 2 1, 3) := by decide +kernel
theorem dX8_countOfRests_37 : decode cX8_countOfRests 37 = .ok (.goto (-33), 3) := by decide +kernel
theorem dX8_countOfRests_40 : decode cX8_countOfRests 40 = .ok (.iload_n 1, 1) := by decide +kernel
theorem dX8_countOfRests_41 : decode cX8_countOfRests 41 = .ok (.ireturn, 1) := by decide +kernel
theorem dX8_firstRest_0 : decode cX8_firstRest 0 = .ok (.iconst 0, 1) := by decide +kernel
theorem dX8_firstRest_1 : decode cX8_firstRest 1 = .ok (.istore_n 1, 1) := by decide +kernel
theorem dX8_firstRest_2 : decode cX8_firstRest 2 = .ok (.iload_n 1, 1) := by decide +kernel
theorem dX8_firstRest_3 : decode cX8_firstRest 3 = .ok (.iconst 4, 1) := by decide +kernel
theorem dX8_firstRest_4 : decode cX8_firstRest 4 = .ok (.if_icmp .ge 38, 3) := by decide +kernel
theorem dX8_firstRest_7 : decode cX8_firstRest 7 = .ok (.iconst 0, 1) := by decide +kernel
theorem dX8_firstRest_8 : decode cX8_firstRest 8 = .ok (.istore_n 2, 1) := by decide +kernel
theorem dX8_firstRest_9 : decode cX8_firstRest 9 = .ok (.iload_n 2, 1) := by decide +kernel
theorem dX8_firstRest_10 : decode cX8_firstRest 10 = .ok (.iconst 4, 1) := by decide +kernel
theorem dX8_firstRest_11 : decode cX8_firstRest 11 = .ok (.if_icmp .ge 25, 3) := by decide +kernel
theorem dX8_firstRest_14 : decode cX8_firstRest 14 = .ok (.aload_n 0, 1) := by decide +kernel
theorem dX8_firstRest_15 : decode cX8_firstRest 15 = .ok (.iload_n 1, 1) := by decide +kernel
theorem dX8_firstRest_16 : decode cX8_firstRest 16 = .ok (.iload_n 2, 1) := by decide +kernel
theorem dX8_firstRest_17 : decode cX8_firstRest 17 = .ok (.invokevirtual 297, 3) := by decide +kernel
theorem dX8_firstRest_20 : decode cX8_firstRest 20 = .ok (.ifCond .eq 10, 3) := by decide +kernel
theorem dX8_firstRest_23 : decode cX8_firstRest 23 = .ok (.bipush 10, 2) := by decide +kernel
theorem dX8_firstRest_25 : decode cX8_firstRest 25 = .ok (.iload_n 1, 1) := by decide +kernel
theorem dX8_firstRest_26 : decode cX8_firstRest 26 = .ok (.imul, 1) := by decide +kernel
theorem dX8_firstRest_27 : decode cX8_firstRest 27 = .ok (.iload_n 2, 1) := by decide +kernel
theorem dX8_firstRest_28 : decode cX8_firstRest 28 = .ok (.iadd, 1) := by decide +kernel
theorem dX8_firstRest_29 : decode cX8_firstRest 29 = .ok (.ireturn, 1) := by decide +kernel
theorem dX8_firstRest_30 : decode cX8_firstRest 30 = .ok (.iinc 2 1, 3) := by decide +kernel
theorem dX8_firstRest_33 : decode cX8_firstRest 33 = .ok (.goto (-24), 3) := by decide +kernel
theorem dX8_firstRest_36 : decode cX8_firstRest 36 = .ok (.iinc 1 1, 3) := by decide +kernel
theorem dX8_firstRest_39 : decode cX8_firstRest 39 = .ok (.goto (-37), 3) := by decide +kernel
theorem dX8_firstRest_42 : decode cX8_firstRest 42 = .ok (.bipush (-9), 2) := by decide +kernel
theorem dX8_firstRest_44 : decode cX8_firstRest 44 = .ok (.ireturn, 1) := by decide +kernel
theorem dX8_walksHome_0 : decode cX8_walksHome 0 = .ok (.iload_n 3, 1) := by decide +kernel
theorem dX8_walksHome_1 : decode cX8_walksHome 1 = .ok (.ifCond .gt 18, 3) := by decide +kernel
theorem dX8_walksHome_4 : decode cX8_walksHome 4 = .ok (.iload_n 2, 1) := by decide +kernel
theorem dX8_walksHome_5 : decode cX8_walksHome 5 = .ok (.aload_n 0, 1) := by decide +kernel
theorem dX8_walksHome_6 : decode cX8_walksHome 6 = .ok (.iload_n 1, 1) := by decide +kernel
theorem dX8_walksHome_7 : decode cX8_walksHome 7 = .ok (.invokevirtual 300, 3) := by decide +kernel
theorem dX8_walksHome_10 : decode cX8_walksHome 10 = .ok (.if_icmp .ne 7, 3) := by decide +kernel
theorem dX8_walksHome_13 : decode cX8_walksHome 13 = .ok (.iconst 1, 1) := by decide +kernel
theorem dX8_walksHome_14 : decode cX8_walksHome 14 = .ok (.goto 4, 3) := by decide +kernel
theorem dX8_walksHome_17 : decode cX8_walksHome 17 = .ok (.iconst 0, 1) := by decide +kernel
theorem dX8_walksHome_18 : decode cX8_walksHome 18 = .ok (.ireturn, 1) := by decide +kernel
theorem dX8_walksHome_19 : decode cX8_walksHome 19 = .ok (.iconst 0, 1) := by decide +kernel
theorem dX8_walksHome_20 : decode cX8_walksHome 20 = .ok (.istore 4, 2) := by decide +kernel
theorem dX8_walksHome_22 : decode cX8_walksHome 22 = .ok (.iconst 0, 1) := by decide +kernel
theorem dX8_walksHome_23 : decode cX8_walksHome 23 = .ok (.istore 5, 2) := by decide +kernel
theorem dX8_walksHome_25 : decode cX8_walksHome 25 = .ok (.iload 5, 2) := by decide +kernel
theorem dX8_walksHome_27 : decode cX8_walksHome 27 = .ok (.iconst 4, 1) := by decide +kernel
theorem dX8_walksHome_28 : decode cX8_walksHome 28 = .ok (.if_icmp .ge 44, 3) := by decide +kernel
theorem dX8_walksHome_31 : decode cX8_walksHome 31 = .ok (.aload_n 0, 1) := by decide +kernel
theorem dX8_walksHome_32 : decode cX8_walksHome 32 = .ok (.iload_n 1, 1) := by decide +kernel
theorem dX8_walksHome_33 : decode cX8_walksHome 33 = .ok (.iload_n 2, 1) := by decide +kernel
theorem dX8_walksHome_34 : decode cX8_walksHome 34 = .ok (.iload 5, 2) := by decide +kernel
theorem dX8_walksHome_36 : decode cX8_walksHome 36 = .ok (.invokevirtual 164, 3) := by decide +kernel
theorem dX8_walksHome_39 : decode cX8_walksHome 39 = .ok (.istore 6, 2) := by decide +kernel
theorem dX8_walksHome_41 : decode cX8_walksHome 41 = .ok (.iload 4, 2) := by decide +kernel
theorem dX8_walksHome_43 : decode cX8_walksHome 43 = .ok (.aload_n 0, 1) := by decide +kernel
theorem dX8_walksHome_44 : decode cX8_walksHome 44 = .ok (.iload_n 1, 1) := by decide +kernel
theorem dX8_walksHome_45 : decode cX8_walksHome 45 = .ok (.iload 6, 2) := by decide +kernel
theorem dX8_walksHome_47 : decode cX8_walksHome 47 = .ok (.iconst (-1), 1) := by decide +kernel
theorem dX8_walksHome_48 : decode cX8_walksHome 48 = .ok (.if_icmp .ne 7, 3) := by decide +kernel
theorem dX8_walksHome_51 : decode cX8_walksHome 51 = .ok (.iload_n 2, 1) := by decide +kernel
theorem dX8_walksHome_52 : decode cX8_walksHome 52 = .ok (.goto 5, 3) := by decide +kernel
theorem dX8_walksHome_55 : decode cX8_walksHome 55 = .ok (.iload 6, 2) := by decide +kernel
theorem dX8_walksHome_57 : decode cX8_walksHome 57 = .ok (.iload_n 3, 1) := by decide +kernel
theorem dX8_walksHome_58 : decode cX8_walksHome 58 = .ok (.iconst 1, 1) := by decide +kernel
theorem dX8_walksHome_59 : decode cX8_walksHome 59 = .ok (.isub, 1) := by decide +kernel
theorem dX8_walksHome_60 : decode cX8_walksHome 60 = .ok (.invokestatic 255, 3) := by decide +kernel
theorem dX8_walksHome_63 : decode cX8_walksHome 63 = .ok (.iadd, 1) := by decide +kernel
theorem dX8_walksHome_64 : decode cX8_walksHome 64 = .ok (.istore 4, 2) := by decide +kernel
theorem dX8_walksHome_66 : decode cX8_walksHome 66 = .ok (.iinc 5 1, 3) := by decide +kernel
theorem dX8_walksHome_69 : decode cX8_walksHome 69 = .ok (.goto (-44), 3) := by decide +kernel
theorem dX8_walksHome_72 : decode cX8_walksHome 72 = .ok (.iload 4, 2) := by decide +kernel
theorem dX8_walksHome_74 : decode cX8_walksHome 74 = .ok (.ireturn, 1) := by decide +kernel
theorem dX9_init_0 : decode cX9_init 0 = .ok (.aload_n 0, 1) := by decide +kernel
theorem dX9_init_1 : decode cX9_init 1 = .ok (.invokespecial 1, 3) := by decide +kernel
theorem dX9_init_4 : decode cX9_init 4 = .ok (.aload_n 0, 1) := by decide +kernel
theorem dX9_init_5 : decode cX9_init 5 = .ok (.bipush 48, 2) := by decide +kernel
theorem dX9_init_7 : decode cX9_init 7 = .ok (.newarray .int, 2) := by decide +kernel
theorem dX9_init_9 : decode cX9_init 9 = .ok (.putfield 7, 3) := by decide +kernel
theorem dX9_init_12 : decode cX9_init 12 = .ok (.aload_n 0, 1) := by decide +kernel
theorem dX9_init_13 : decode cX9_init 13 = .ok (.iconst 2, 1) := by decide +kernel
theorem dX9_init_14 : decode cX9_init 14 = .ok (.putfield 13, 3) := by decide +kernel
theorem dX9_init_17 : decode cX9_init 17 = .ok (.aload_n 0, 1) := by decide +kernel
theorem dX9_init_18 : decode cX9_init 18 = .ok (.iconst 2, 1) := by decide +kernel
theorem dX9_init_19 : decode cX9_init 19 = .ok (.putfield 17, 3) := by decide +kernel
theorem dX9_init_22 : decode cX9_init 22 = .ok (.aload_n 0, 1) := by decide +kernel
theorem dX9_init_23 : decode cX9_init 23 = .ok (.bipush 20, 2) := by decide +kernel
theorem dX9_init_25 : decode cX9_init 25 = .ok (.newarray .int, 2) := by decide +kernel
theorem dX9_init_27 : decode cX9_init 27 = .ok (.putfield 20, 3) := by decide +kernel
theorem dX9_init_30 : decode cX9_init 30 = .ok (.aload_n 0, 1) := by decide +kernel
theorem dX9_init_31 : decode cX9_init 31 = .ok (.iconst 5, 1) := by decide +kernel
theorem dX9_init_32 : decode cX9_init 32 = .ok (.newarray .int, 2) := by decide +kernel
theorem dX9_init_34 : decode cX9_init 34 = .ok (.putfield 23, 3) := by decide +kernel
theorem dX9_init_37 : decode cX9_init 37 = .ok (.aload_n 0, 1) := by decide +kernel
theorem dX9_init_38 : decode cX9_init 38 = .ok (.iconst 5, 1) := by decide +kernel
theorem dX9_init_39 : decode cX9_init 39 = .ok (.newarray .int, 2) := by decide +kernel
theorem dX9_init_41 : decode cX9_init 41 = .ok (.putfield 26, 3) := by decide +kernel
theorem dX9_init_44 : decode cX9_init 44 = .ok (.aload_n 0, 1) := by decide +kernel
theorem dX9_init_45 : decode cX9_init 45 = .ok (.bipush 20, 2) := by decide +kernel
theorem dX9_init_47 : decode cX9_init 47 = .ok (.newarray .int, 2) := by decide +kernel
theorem dX9_init_49 : decode cX9_init 49 = .ok (.putfield 29, 3) := by decide +kernel
theorem dX9_init_52 : decode cX9_init 52 = .ok (.aload_n 0, 1) := by decide +kernel
theorem dX9_init_53 : decode cX9_init 53 = .ok (.bipush 10, 2) := by decide +kernel
theorem dX9_init_55 : decode cX9_init 55 = .ok (.newarray .int, 2) := by decide +kernel
theorem dX9_init_57 : decode cX9_init 57 = .ok (.putfield 32, 3) := by decide +kernel
theorem dX9_init_60 : decode cX9_init 60 = .ok (.aload_n 0, 1) := by decide +kernel
theorem dX9_init_61 : decode cX9_init 61 = .ok (.bipush 16, 2) := by decide +kernel
theorem dX9_init_63 : decode cX9_init 63 = .ok (.newarray .int, 2) := by decide +kernel
theorem dX9_init_65 : decode cX9_init 65 = .ok (.putfield 35, 3) := by decide +kernel
theorem dX9_init_68 : decode cX9_init 68 = .ok (.aload_n 0, 1) := by decide +kernel
theorem dX9_init_69 : decode cX9_init 69 = .ok (.bipush 16, 2) := by decide +kernel
theorem dX9_init_71 : decode cX9_init 71 = .ok (.newarray .int, 2) := by decide +kernel
theorem dX9_init_73 : decode cX9_init 73 = .ok (.putfield 38, 3) := by decide +kernel
theorem dX9_init_76 : decode cX9_init 76 = .ok (.aload_n 0, 1) := by decide +kernel
theorem dX9_init_77 : decode cX9_init 77 = .ok (.sipush 224, 3) := by decide +kernel
theorem dX9_init_80 : decode cX9_init 80 = .ok (.newarray .int, 2) := by decide +kernel
theorem dX9_init_82 : decode cX9_init 82 = .ok (.putfield 41, 3) := by decide +kernel
theorem dX9_init_85 : decode cX9_init 85 = .ok (.aload_n 0, 1) := by decide +kernel
theorem dX9_init_86 : decode cX9_init 86 = .ok (.bipush 32, 2) := by decide +kernel
theorem dX9_init_88 : decode cX9_init 88 = .ok (.newarray .int, 2) := by decide +kernel
theorem dX9_init_90 : decode cX9_init 90 = .ok (.putfield 44, 3) := by decide +kernel
theorem dX9_init_93 : decode cX9_init 93 = .ok (.aload_n 0, 1) := by decide +kernel
theorem dX9_init_94 : decode cX9_init 94 = .ok (.iconst 2, 1) := by decide +kernel
theorem dX9_init_95 : decode cX9_init 95 = .ok (.newarray .boolean, 2) := by decide +kernel
theorem dX9_init_97 : decode cX9_init 97 = .ok (.putfield 47, 3) := by decide +kernel
theorem dX9_init_100 : decode cX9_init 100 = .ok (.aload_n 0, 1) := by decide +kernel
theorem dX9_init_101 : decode cX9_init 101 = .ok (.bipush 6, 2) := by decide +kernel
theorem dX9_init_103 : decode cX9_init 103 = .ok (.newarray .int, 2) := by decide +kernel
theorem dX9_init_105 : decode cX9_init 105 = .ok (.putfield 51, 3) := by decide +kernel
theorem dX9_init_108 : decode cX9_init 108 = .ok (.aload_n 0, 1) := by decide +kernel
theorem dX9_init_109 : decode cX9_init 109 = .ok (.bipush 6, 2) := by decide +kernel
theorem dX9_init_111 : decode cX9_init 111 = .ok (.newarray .int, 2) := by decide +kernel
theorem dX9_init_113 : decode cX9_init 113 = .ok (.putfield 54, 3) := by decide +kernel
theorem dX9_init_116 : decode cX9_init 116 = .ok (.aload_n 0, 1) := by decide +kernel
theorem dX9_init_117 : decode cX9_init 117 = .ok (.bipush 6, 2) := by decide +kernel
theorem dX9_init_119 : decode cX9_init 119 = .ok (.newarray .int, 2) := by decide +kernel
theorem dX9_init_121 : decode cX9_init 121 = .ok (.putfield 57, 3) := by decide +kernel
theorem dX9_init_124 : decode cX9_init 124 = .ok (.aload_n 0, 1) := by decide +kernel
theorem dX9_init_125 : decode cX9_init 125 = .ok (.iconst 3, 1) := by decide +kernel
theorem dX9_init_126 : decode cX9_init 126 = .ok (.newarray .int, 2) := by decide +kernel
theorem dX9_init_128 : decode cX9_init 128 = .ok (.putfield 60, 3) := by decide +kernel
theorem dX9_init_131 : decode cX9_init 131 = .ok (.aload_n 0, 1) := by decide +kernel
theorem dX9_init_132 : decode cX9_init 132 = .ok (.sipush 980, 3) := by decide +kernel
theorem dX9_init_135 : decode cX9_init 135 = .ok (.newarray .int, 2) := by decide +kernel
theorem dX9_init_137 : decode cX9_init 137 = .ok (.putfield 63, 3) := by decide +kernel
theorem dX9_init_140 : decode cX9_init 140 = .ok (.aload_n 0, 1) := by decide +kernel
theorem dX9_init_141 : decode cX9_init 141 = .ok (.sipush 980, 3) := by decide +kernel
theorem dX9_init_144 : decode cX9_init 144 = .ok (.newarray .int, 2) := by decide +kernel
theorem dX9_init_146 : decode cX9_init 146 = .ok (.putfield 66, 3) := by decide +kernel
theorem dX9_init_149 : decode cX9_init 149 = .ok (.aload_n 0, 1) := by decide +kernel
theorem dX9_init_150 : decode cX9_init 150 = .ok (.bipush 32, 2) := by decide +kernel
theorem dX9_init_152 : decode cX9_init 152 = .ok (.newarray .int, 2) := by decide +kernel
theorem dX9_init_154 : decode cX9_init 154 = .ok (.putfield 69, 3) := by decide +kernel
theorem dX9_init_157 : decode cX9_init 157 = .ok (.aload_n 0, 1) := by decide +kernel
theorem dX9_init_158 : decode cX9_init 158 = .ok (.bipush 32, 2) := by decide +kernel
theorem dX9_init_160 : decode cX9_init 160 = .ok (.newarray .int, 2) := by decide +kernel
theorem dX9_init_162 : decode cX9_init 162 = .ok (.putfield 72, 3) := by decide +kernel
theorem dX9_init_165 : decode cX9_init 165 = .ok (.aload_n 0, 1) := by decide +kernel
theorem dX9_init_166 : decode cX9_init 166 = .ok (.getfield 35, 3) := by decide +kernel
theorem dX9_init_169 : decode cX9_init 169 = .ok (.bipush 15, 2) := by decide +kernel
theorem dX9_init_171 : decode cX9_init 171 = .ok (.iconst 0, 1) := by decide +kernel
theorem dX9_init_172 : decode cX9_init 172 = .ok (.iastore, 1) := by decide +kernel
theorem dX9_init_173 : decode cX9_init 173 = .ok (.return_, 1) := by decide +kernel
theorem dX9_in_0 : decode cX9_in 0 = .ok (.lload_n 0, 1) := by decide +kernel
theorem dX9_in_1 : decode cX9_in 1 = .ok (.lload_n 2, 1) := by decide +kernel
theorem dX9_in_2 : decode cX9_in 2 = .ok (.lcmp, 1) := by decide +kernel
theorem dX9_in_3 : decode cX9_in 3 = .ok (.ifCond .lt 14, 3) := by decide +kernel
theorem dX9_in_6 : decode cX9_in 6 = .ok (.lload_n 0, 1) := by decide +kernel
theorem dX9_in_7 : decode cX9_in 7 = .ok (.lload 4, 2) := by decide +kernel
theorem dX9_in_9 : decode cX9_in 9 = .ok (.lcmp, 1) := by decide +kernel
theorem dX9_in_10 : decode cX9_in 10 = .ok (.ifCond .gt 7, 3) := by decide +kernel
theorem dX9_in_13 : decode cX9_in 13 = .ok (.iconst 1, 1) := by decide +kernel
theorem dX9_in_14 : decode cX9_in 14 = .ok (.goto 4, 3) := by decide +kernel
theorem dX9_in_17 : decode cX9_in 17 = .ok (.iconst 0, 1) := by decide +kernel
theorem dX9_in_18 : decode cX9_in 18 = .ok (.ireturn, 1) := by decide +kernel
theorem dX9_has_0 : decode cX9_has 0 = .ok (.iload_n 0, 1) := by decide +kernel
theorem dX9_has_1 : decode cX9_has 1 = .ok (.iload_n 1, 1) := by decide +kernel
theorem dX9_has_2 : decode cX9_has 2 = .ok (.ishr, 1) := by decide +kernel
theorem dX9_has_3 : decode cX9_has 3 = .ok (.iconst 1, 1) := by decide +kernel
theorem dX9_has_4 : decode cX9_has 4 = .ok (.iand, 1) := by decide +kernel
theorem dX9_has_5 : decode cX9_has 5 = .ok (.iconst 1, 1) := by decide +kernel
theorem dX9_has_6 : decode cX9_has 6 = .ok (.if_icmp .ne 7, 3) := by decide +kernel
theorem dX9_has_9 : decode cX9_has 9 = .ok (.iconst 1, 1) := by decide +kernel
theorem dX9_has_10 : decode cX9_has 10 = .ok (.goto 4, 3) := by decide +kernel
theorem dX9_has_13 : decode cX9_has 13 = .ok (.iconst 0, 1) := by decide +kernel
theorem dX9_has_14 : decode cX9_has 14 = .ok (.ireturn, 1) := by decide +kernel
theorem dX9_many_0 : decode cX9_many 0 = .ok (.iconst 0, 1) := by decide +kernel
theorem dX9_many_1 : decode cX9_many 1 = .ok (.istore_n 1, 1) := by decide +kernel
theorem dX9_many_2 : decode cX9_many 2 = .ok (.iconst 0, 1) := by decide +kernel
theorem dX9_many_3 : decode cX9_many 3 = .ok (.istore_n 2, 1) := by decide +kernel
theorem dX9_many_4 : decode cX9_many 4 = .ok (.iload_n 2, 1) := by decide +kernel
theorem dX9_many_5 : decode cX9_many 5 = .ok (.bipush 20, 2) := by decide +kernel
theorem dX9_many_7 : decode cX9_many 7 = .ok (.if_icmp .ge 17, 3) := by decide +kernel
theorem dX9_many_10 : decode cX9_many 10 = .ok (.iload_n 1, 1) := by decide +kernel
theorem dX9_many_11 : decode cX9_many 11 = .ok (.iload_n 0, 1) := by decide +kernel
theorem dX9_many_12 : decode cX9_many 12 = .ok (.iload_n 2, 1) := by decide +kernel
theorem dX9_many_13 : decode cX9_many 13 = .ok (.ishr, 1) := by decide +kernel
theorem dX9_many_14 : decode cX9_many 14 = .ok (.iconst 1, 1) := by decide +kernel
theorem dX9_many_15 : decode cX9_many 15 = .ok (.iand, 1) := by decide +kernel
theorem dX9_many_16 : decode cX9_many 16 = .ok (.iadd, 1) := by decide +kernel
theorem dX9_many_17 : decode cX9_many 17 = .ok (.istore_n 1, 1) := by decide +kernel
theorem dX9_many_18 : decode cX9_many 18 = .ok (.iinc 2 1, 3) := by decide +kernel
theorem dX9_many_21 : decode cX9_many 21 = .ok (.goto (-17), 3) := by decide +kernel
theorem dX9_many_24 : decode cX9_many 24 = .ok (.iload_n 1, 1) := by decide +kernel
theorem dX9_many_25 : decode cX9_many 25 = .ok (.ireturn, 1) := by decide +kernel
theorem dX9_power_0 : decode cX9_power 0 = .ok (.iconst 1, 1) := by decide +kernel
theorem dX9_power_1 : decode cX9_power 1 = .ok (.istore_n 2, 1) := by decide +kernel
theorem dX9_power_2 : decode cX9_power 2 = .ok (.iconst 0, 1) := by decide +kernel
theorem dX9_power_3 : decode cX9_power 3 = .ok (.istore_n 3, 1) := by decide +kernel
theorem dX9_power_4 : decode cX9_power 4 = .ok (.iload_n 3, 1) := by decide +kernel
theorem dX9_power_5 : decode cX9_power 5 = .ok (.iload_n 1, 1) := by decide +kernel
theorem dX9_power_6 : decode cX9_power 6 = .ok (.if_icmp .ge 13, 3) := by decide +kernel
theorem dX9_power_9 : decode cX9_power 9 = .ok (.iload_n 2, 1) := by decide +kernel
theorem dX9_power_10 : decode cX9_power 10 = .ok (.iload_n 0, 1) := by decide +kernel
theorem dX9_power_11 : decode cX9_power 11 = .ok (.imul, 1) := by decide +kernel
theorem dX9_power_12 : decode cX9_power 12 = .ok (.istore_n 2, 1) := by decide +kernel
theorem dX9_power_13 : decode cX9_power 13 = .ok (.iinc 3 1, 3) := by decide +kernel
theorem dX9_power_16 : decode cX9_power 16 = .ok (.goto (-12), 3) := by decide +kernel
theorem dX9_power_19 : decode cX9_power 19 = .ok (.iload_n 2, 1) := by decide +kernel
theorem dX9_power_20 : decode cX9_power 20 = .ok (.ireturn, 1) := by decide +kernel
theorem dX9_noBoy_0 : decode cX9_noBoy 0 = .ok (.iload_n 1, 1) := by decide +kernel
theorem dX9_noBoy_1 : decode cX9_noBoy 1 = .ok (.i2l, 1) := by decide +kernel
theorem dX9_noBoy_2 : decode cX9_noBoy 2 = .ok (.lconst 0, 1) := by decide +kernel
theorem dX9_noBoy_3 : decode cX9_noBoy 3 = .ok (.aload_n 0, 1) := by decide +kernel
theorem dX9_noBoy_4 : decode cX9_noBoy 4 = .ok (.getfield 78, 3) := by decide +kernel
theorem dX9_noBoy_7 : decode cX9_noBoy 7 = .ok (.iconst 1, 1) := by decide +kernel
theorem dX9_noBoy_8 : decode cX9_noBoy 8 = .ok (.isub, 1) := by decide +kernel
theorem dX9_noBoy_9 : decode cX9_noBoy 9 = .ok (.i2l, 1) := by decide +kernel
theorem dX9_noBoy_10 : decode cX9_noBoy 10 = .ok (.invokestatic 81, 3) := by decide +kernel
theorem dX9_noBoy_13 : decode cX9_noBoy 13 = .ok (.ifCond .ne 7, 3) := by decide +kernel
theorem dX9_noBoy_16 : decode cX9_noBoy 16 = .ok (.iconst 1, 1) := by decide +kernel
theorem dX9_noBoy_17 : decode cX9_noBoy 17 = .ok (.goto 4, 3) := by decide +kernel
theorem dX9_noBoy_20 : decode cX9_noBoy 20 = .ok (.iconst 0, 1) := by decide +kernel
theorem dX9_noBoy_21 : decode cX9_noBoy 21 = .ok (.ireturn, 1) := by decide +kernel
theorem dX9_noCell_0 : decode cX9_noCell 0 = .ok (.iload_n 1, 1) := by decide +kernel
theorem dX9_noCell_1 : decode cX9_noCell 1 = .ok (.i2l, 1) := by decide +kernel
theorem dX9_noCell_2 : decode cX9_noCell 2 = .ok (.lconst 0, 1) := by decide +kernel
theorem dX9_noCell_3 : decode cX9_noCell 3 = .ok (.aload_n 0, 1) := by decide +kernel
theorem dX9_noCell_4 : decode cX9_noCell 4 = .ok (.getfield 13, 3) := by decide +kernel
theorem dX9_noCell_7 : decode cX9_noCell 7 = .ok (.aload_n 0, 1) := by decide +kernel
theorem dX9_noCell_8 : decode cX9_noCell 8 = .ok (.getfield 17, 3) := by decide +kernel
theorem dX9_noCell_11 : decode cX9_noCell 11 = .ok (.imul, 1) := by decide +kernel
theorem dX9_noCell_12 : decode cX9_noCell 12 = .ok (.iconst 1, 1) := by decide +kernel
theorem dX9_noCell_13 : decode cX9_noCell 13 = .ok (.isub, 1) := by decide +kernel
theorem dX9_noCell_14 : decode cX9_noCell 14 = .ok (.i2l, 1) := by decide +kernel
theorem dX9_noCell_15 : decode cX9_noCell 15 = .ok (.invokestatic 81, 3) := by decide +kernel
theorem dX9_noCell_18 : decode cX9_noCell 18 = .ok (.ifCond .ne 7, 3) := by decide +kernel
theorem dX9_noCell_21 : decode cX9_noCell 21 = .ok (.iconst 1, 1) := by decide +kernel
theorem dX9_noCell_22 : decode cX9_noCell 22 = .ok (.goto 4, 3) := by decide +kernel
theorem dX9_noCell_25 : decode cX9_noCell 25 = .ok (.iconst 0, 1) := by decide +kernel
theorem dX9_noCell_26 : decode cX9_noCell 26 = .ok (.ireturn, 1) := by decide +kernel
theorem dX9_noWay_0 : decode cX9_noWay 0 = .ok (.iload_n 0, 1) := by decide +kernel
theorem dX9_noWay_1 : decode cX9_noWay 1 = .ok (.i2l, 1) := by decide +kernel
theorem dX9_noWay_2 : decode cX9_noWay 2 = .ok (.lconst 0, 1) := by decide +kernel
theorem dX9_noWay_3 : decode cX9_noWay 3 = .ok (.ldc2_w 85, 3) := by decide +kernel
theorem dX9_noWay_6 : decode cX9_noWay 6 = .ok (.invokestatic 81, 3) := by decide +kernel
theorem dX9_noWay_9 : decode cX9_noWay 9 = .ok (.ifCond .ne 7, 3) := by decide +kernel
theorem dX9_noWay_12 : decode cX9_noWay 12 = .ok (.iconst 1, 1) := by decide +kernel
theorem dX9_noWay_13 : decode cX9_noWay 13 = .ok (.goto 4, 3) := by decide +kernel
theorem dX9_noWay_16 : decode cX9_noWay 16 = .ok (.iconst 0, 1) := by decide +kernel
theorem dX9_noWay_17 : decode cX9_noWay 17 = .ok (.ireturn, 1) := by decide +kernel
theorem dX9_write_0 : decode cX9_write 0 = .ok (.aload_n 0, 1) := by decide +kernel
theorem dX9_write_1 : decode cX9_write 1 = .ok (.iconst 0, 1) := by decide +kernel
theorem dX9_write_2 : decode cX9_write 2 = .ok (.putfield 75, 3) := by decide +kernel
theorem dX9_write_5 : decode cX9_write 5 = .ok (.iload_n 1, 1) := by decide +kernel
theorem dX9_write_6 : decode cX9_write 6 = .ok (.i2l, 1) := by decide +kernel
theorem dX9_write_7 : decode cX9_write 7 = .ok (.lconst 0, 1) := by decide +kernel
theorem dX9_write_8 : decode cX9_write 8 = .ok (.ldc2_w 87, 3) := by decide +kernel
theorem dX9_write_11 : decode cX9_write 11 = .ok (.invokestatic 81, 3) := by decide +kernel
theorem dX9_write_14 : decode cX9_write 14 = .ok (.ifCond .ne 6, 3) := by decide +kernel
theorem dX9_write_17 : decode cX9_write 17 = .ok (.bipush (-2), 2) := by decide +kernel
theorem dX9_write_19 : decode cX9_write 19 = .ok (.ireturn, 1) := by decide +kernel
theorem dX9_write_20 : decode cX9_write 20 = .ok (.aload_n 0, 1) := by decide +kernel
theorem dX9_write_21 : decode cX9_write 21 = .ok (.getfield 89, 3) := by decide +kernel
theorem dX9_write_24 : decode cX9_write 24 = .ok (.bipush 48, 2) := by decide +kernel
theorem dX9_write_26 : decode cX9_write 26 = .ok (.if_icmp .ne 6, 3) := by decide +kernel
theorem dX9_write_29 : decode cX9_write 29 = .ok (.bipush (-4), 2) := by decide +kernel
theorem dX9_write_31 : decode cX9_write 31 = .ok (.ireturn, 1) := by decide +kernel
theorem dX9_write_32 : decode cX9_write 32 = .ok (.aload_n 0, 1) := by decide +kernel
theorem dX9_write_33 : decode cX9_write 33 = .ok (.getfield 7, 3) := by decide +kernel
theorem dX9_write_36 : decode cX9_write 36 = .ok (.aload_n 0, 1) := by decide +kernel
theorem dX9_write_37 : decode cX9_write 37 = .ok (.getfield 89, 3) := by decide +kernel
theorem dX9_write_40 : decode cX9_write 40 = .ok (.iload_n 1, 1) := by decide +kernel
theorem dX9_write_41 : decode cX9_write 41 = .ok (.iastore, 1) := by decide +kernel
theorem dX9_write_42 : decode cX9_write 42 = .ok (.aload_n 0, 1) := by decide +kernel
theorem dX9_write_43 : decode cX9_write 43 = .ok (.dup, 1) := by decide +kernel
theorem dX9_write_44 : decode cX9_write 44 = .ok (.getfield 89, 3) := by decide +kernel
theorem dX9_write_47 : decode cX9_write 47 = .ok (.iconst 1, 1) := by decide +kernel
theorem dX9_write_48 : decode cX9_write 48 = .ok (.iadd, 1) := by decide +kernel
theorem dX9_write_49 : decode cX9_write 49 = .ok (.putfield 89, 3) := by decide +kernel
theorem dX9_write_52 : decode cX9_write 52 = .ok (.aload_n 0, 1) := by decide +kernel
theorem dX9_write_53 : decode cX9_write 53 = .ok (.getfield 89, 3) := by decide +kernel
theorem dX9_write_56 : decode cX9_write 56 = .ok (.ireturn, 1) := by decide +kernel
theorem dX9_wipe_0 : decode cX9_wipe 0 = .ok (.aload_n 0, 1) := by decide +kernel
theorem dX9_wipe_1 : decode cX9_wipe 1 = .ok (.iconst 0, 1) := by decide +kernel
theorem dX9_wipe_2 : decode cX9_wipe 2 = .ok (.putfield 75, 3) := by decide +kernel
theorem dX9_wipe_5 : decode cX9_wipe 5 = .ok (.aload_n 0, 1) := by decide +kernel
theorem dX9_wipe_6 : decode cX9_wipe 6 = .ok (.getfield 89, 3) := by decide +kernel
theorem dX9_wipe_9 : decode cX9_wipe 9 = .ok (.istore_n 1, 1) := by decide +kernel
theorem dX9_wipe_10 : decode cX9_wipe 10 = .ok (.aload_n 0, 1) := by decide +kernel
theorem dX9_wipe_11 : decode cX9_wipe 11 = .ok (.iconst 0, 1) := by decide +kernel
theorem dX9_wipe_12 : decode cX9_wipe 12 = .ok (.putfield 89, 3) := by decide +kernel
theorem dX9_wipe_15 : decode cX9_wipe 15 = .ok (.iload_n 1, 1) := by decide +kernel
theorem dX9_wipe_16 : decode cX9_wipe 16 = .ok (.ireturn, 1) := by decide +kernel
theorem dX9_from_0 : decode cX9_from 0 = .ok (.aload_n 0, 1) := by decide +kernel
theorem dX9_from_1 : decode cX9_from 1 = .ok (.getfield 92, 3) := by decide +kernel
theorem dX9_from_4 : decode cX9_from 4 = .ok (.aload_n 0, 1) := by decide +kernel
theorem dX9_from_5 : decode cX9_from 5 = .ok (.getfield 89, 3) := by decide +kernel
theorem dX9_from_8 : decode cX9_from 8 = .ok (.if_icmp .eq 25, 3) := by decide +kernel
theorem dX9_from_11 : decode cX9_from 11 = .ok (.aload_n 0, 1) := by decide +kernel
theorem dX9_from_12 : decode cX9_from 12 = .ok (.getfield 7, 3) := by decide +kernel
theorem dX9_from_15 : decode cX9_from 15 = .ok (.aload_n 0, 1) := by decide +kernel
theorem dX9_from_16 : decode cX9_from 16 = .ok (.getfield 92, 3) := by decide +kernel
theorem dX9_from_19 : decode cX9_from 19 = .ok (.iaload, 1) := by decide +kernel
theorem dX9_from_20 : decode cX9_from 20 = .ok (.iload_n 1, 1) := by decide +kernel
theorem dX9_from_21 : decode cX9_from 21 = .ok (.isub, 1) := by decide +kernel
theorem dX9_from_22 : decode cX9_from 22 = .ok (.i2l, 1) := by decide +kernel
theorem dX9_from_23 : decode cX9_from 23 = .ok (.iload_n 2, 1) := by decide +kernel
theorem dX9_from_24 : decode cX9_from 24 = .ok (.i2l, 1) := by decide +kernel
theorem dX9_from_25 : decode cX9_from 25 = .ok (.iload_n 3, 1) := by decide +kernel
theorem dX9_from_26 : decode cX9_from 26 = .ok (.i2l, 1) := by decide +kernel
theorem dX9_from_27 : decode cX9_from 27 = .ok (.invokestatic 81, 3) := by decide +kernel
theorem dX9_from_30 : decode cX9_from 30 = .ok (.ifCond .ne 6, 3) := by decide +kernel
theorem dX9_from_33 : decode cX9_from 33 = .ok (.bipush (-9), 2) := by decide +kernel
theorem dX9_from_35 : decode cX9_from 35 = .ok (.ireturn, 1) := by decide +kernel
theorem dX9_from_36 : decode cX9_from 36 = .ok (.aload_n 0, 1) := by decide +kernel
theorem dX9_from_37 : decode cX9_from 37 = .ok (.dup, 1) := by decide +kernel
theorem dX9_from_38 : decode cX9_from 38 = .ok (.getfield 92, 3) := by decide +kernel
theorem dX9_from_41 : decode cX9_from 41 = .ok (.iconst 1, 1) := by decide +kernel
theorem dX9_from_42 : decode cX9_from 42 = .ok (.iadd, 1) := by decide +kernel
theorem dX9_from_43 : decode cX9_from 43 = .ok (.putfield 92, 3) := by decide +kernel
theorem dX9_from_46 : decode cX9_from 46 = .ok (.aload_n 0, 1) := by decide +kernel
theorem dX9_from_47 : decode cX9_from 47 = .ok (.getfield 7, 3) := by decide +kernel
theorem dX9_from_50 : decode cX9_from 50 = .ok (.aload_n 0, 1) := by decide +kernel
theorem dX9_from_51 : decode cX9_from 51 = .ok (.getfield 92, 3) := by decide +kernel
theorem dX9_from_54 : decode cX9_from 54 = .ok (.iconst 1, 1) := by decide +kernel
theorem dX9_from_55 : decode cX9_from 55 = .ok (.isub, 1) := by decide +kernel
theorem dX9_from_56 : decode cX9_from 56 = .ok (.iaload, 1) := by decide +kernel
theorem dX9_from_57 : decode cX9_from 57 = .ok (.iload_n 1, 1) := by decide +kernel
theorem dX9_from_58 : decode cX9_from 58 = .ok (.isub, 1) := by decide +kernel
theorem dX9_from_59 : decode cX9_from 59 = .ok (.ireturn, 1) := by decide +kernel
theorem dX9_readKind_0 : decode cX9_readKind 0 = .ok (.aload_n 0, 1) := by decide +kernel
theorem dX9_readKind_1 : decode cX9_readKind 1 = .ok (.getfield 92, 3) := by decide +kernel
theorem dX9_readKind_4 : decode cX9_readKind 4 = .ok (.aload_n 0, 1) := by decide +kernel
theorem dX9_readKind_5 : decode cX9_readKind 5 = .ok (.getfield 89, 3) := by decide +kernel
theorem dX9_readKind_8 : decode cX9_readKind 8 = .ok (.if_icmp .ne 6, 3) := by decide +kernel
theorem dX9_readKind_11 : decode cX9_readKind 11 = .ok (.bipush (-9), 2) := by decide +kernel
theorem dX9_readKind_13 : decode cX9_readKind 13 = .ok (.ireturn, 1) := by decide +kernel
theorem dX9_readKind_14 : decode cX9_readKind 14 = .ok (.aload_n 0, 1) := by decide +kernel
theorem dX9_readKind_15 : decode cX9_readKind 15 = .ok (.getfield 7, 3) := by decide +kernel
theorem dX9_readKind_18 : decode cX9_readKind 18 = .ok (.aload_n 0, 1) := by decide +kernel
theorem dX9_readKind_19 : decode cX9_readKind 19 = .ok (.getfield 92, 3) := by decide +kernel
theorem dX9_readKind_22 : decode cX9_readKind 22 = .ok (.iaload, 1) := by decide +kernel
theorem dX9_readKind_23 : decode cX9_readKind 23 = .ok (.istore_n 1, 1) := by decide +kernel
theorem dX9_readKind_24 : decode cX9_readKind 24 = .ok (.iload_n 1, 1) := by decide +kernel
theorem dX9_readKind_25 : decode cX9_readKind 25 = .ok (.bipush 108, 2) := by decide +kernel
theorem dX9_readKind_27 : decode cX9_readKind 27 = .ok (.if_icmp .ne 7, 3) := by decide +kernel
theorem dX9_readKind_30 : decode cX9_readKind 30 = .ok (.iconst 0, 1) := by decide +kernel
theorem dX9_readKind_31 : decode cX9_readKind 31 = .ok (.goto 35, 3) := by decide +kernel
theorem dX9_readKind_34 : decode cX9_readKind 34 = .ok (.iload_n 1, 1) := by decide +kernel
theorem dX9_readKind_35 : decode cX9_readKind 35 = .ok (.bipush 116, 2) := by decide +kernel
theorem dX9_readKind_37 : decode cX9_readKind 37 = .ok (.if_icmp .ne 7, 3) := by decide +kernel
theorem dX9_readKind_40 : decode cX9_readKind 40 = .ok (.iconst 1, 1) := by decide +kernel
theorem dX9_readKind_41 : decode cX9_readKind 41 = .ok (.goto 25, 3) := by decide +kernel
theorem dX9_readKind_44 : decode cX9_readKind 44 = .ok (.iload_n 1, 1) := by decide +kernel
theorem dX9_readKind_45 : decode cX9_readKind 45 = .ok (.bipush 98, 2) := by decide +kernel
theorem dX9_readKind_47 : decode cX9_readKind 47 = .ok (.if_icmp .ne 7, 3) := by decide +kernel
theorem dX9_readKind_50 : decode cX9_readKind 50 = .ok (.iconst 2, 1) := by decide +kernel
theorem dX9_readKind_51 : decode cX9_readKind 51 = .ok (.goto 15, 3) := by decide +kernel
theorem dX9_readKind_54 : decode cX9_readKind 54 = .ok (.iload_n 1, 1) := by decide +kernel
theorem dX9_readKind_55 : decode cX9_readKind 55 = .ok (.bipush 114, 2) := by decide +kernel
theorem dX9_readKind_57 : decode cX9_readKind 57 = .ok (.if_icmp .ne 7, 3) := by decide +kernel
theorem dX9_readKind_60 : decode cX9_readKind 60 = .ok (.iconst 3, 1) := by decide +kernel
theorem dX9_readKind_61 : decode cX9_readKind 61 = .ok (.goto 5, 3) := by decide +kernel
theorem dX9_readKind_64 : decode cX9_readKind 64 = .ok (.bipush (-9), 2) := by decide +kernel
theorem dX9_readKind_66 : decode cX9_readKind 66 = .ok (.istore_n 2, 1) := by decide +kernel
theorem dX9_readKind_67 : decode cX9_readKind 67 = .ok (.aload_n 0, 1) := by decide +kernel
theorem dX9_readKind_68 : decode cX9_readKind 68 = .ok (.dup, 1) := by decide +kernel
theorem dX9_readKind_69 : decode cX9_readKind 69 = .ok (.getfield 92, 3) := by decide +kernel
theorem dX9_readKind_72 : decode cX9_readKind 72 = .ok (.iload_n 2, 1) := by decide +kernel
theorem dX9_readKind_73 : decode cX9_readKind 73 = .ok (.bipush (-9), 2) := by decide +kernel
theorem dX9_readKind_75 : decode cX9_readKind 75 = .ok (.if_icmp .ne 7, 3) := by decide +kernel
theorem dX9_readKind_78 : decode cX9_readKind 78 = .ok (.iconst 0, 1) := by decide +kernel
theorem dX9_readKind_79 : decode cX9_readKind 79 = .ok (.goto 4, 3) := by decide +kernel
theorem dX9_readKind_82 : decode cX9_readKind 82 = .ok (.iconst 1, 1) := by decide +kernel
theorem dX9_readKind_83 : decode cX9_readKind 83 = .ok (.iadd, 1) := by decide +kernel
theorem dX9_readKind_84 : decode cX9_readKind 84 = .ok (.putfield 92, 3) := by decide +kernel
theorem dX9_readKind_87 : decode cX9_readKind 87 = .ok (.iload_n 2, 1) := by decide +kernel
theorem dX9_readKind_88 : decode cX9_readKind 88 = .ok (.ireturn, 1) := by decide +kernel
theorem dX9_hasRoom_0 : decode cX9_hasRoom 0 = .ok (.iconst 0, 1) := by decide +kernel
theorem dX9_hasRoom_1 : decode cX9_hasRoom 1 = .ok (.istore_n 1, 1) := by decide +kernel
theorem dX9_hasRoom_2 : decode cX9_hasRoom 2 = .ok (.iconst 0, 1) := by decide +kernel
theorem dX9_hasRoom_3 : decode cX9_hasRoom 3 = .ok (.istore_n 2, 1) := by decide +kernel
theorem dX9_hasRoom_4 : decode cX9_hasRoom 4 = .ok (.iload_n 2, 1) := by decide +kernel
theorem dX9_hasRoom_5 : decode cX9_hasRoom 5 = .ok (.aload_n 0, 1) := by decide +kernel
theorem dX9_hasRoom_6 : decode cX9_hasRoom 6 = .ok (.getfield 95, 3) := by decide +kernel
theorem dX9_hasRoom_9 : decode cX9_hasRoom 9 = .ok (.aload_n 0, 1) := by decide +kernel
theorem dX9_hasRoom_10 : decode cX9_hasRoom 10 = .ok (.getfield 98, 3) := by decide +kernel
theorem dX9_hasRoom_13 : decode cX9_hasRoom 13 = .ok (.imul, 1) := by decide +kernel
theorem dX9_hasRoom_14 : decode cX9_hasRoom 14 = .ok (.if_icmp .ge 29, 3) := by decide +kernel
theorem dX9_hasRoom_17 : decode cX9_hasRoom 17 = .ok (.iload_n 1, 1) := by decide +kernel
theorem dX9_hasRoom_18 : decode cX9_hasRoom 18 = .ok (.ifCond .ne 13, 3) := by decide +kernel
theorem dX9_hasRoom_21 : decode cX9_hasRoom 21 = .ok (.aload_n 0, 1) := by decide +kernel
theorem dX9_hasRoom_22 : decode cX9_hasRoom 22 = .ok (.getfield 29, 3) := by decide +kernel
theorem dX9_hasRoom_25 : decode cX9_hasRoom 25 = .ok (.iload_n 2, 1) := by decide +kernel
theorem dX9_hasRoom_26 : decode cX9_hasRoom 26 = .ok (.iaload, 1) := by decide +kernel
theorem dX9_hasRoom_27 : decode cX9_hasRoom 27 = .ok (.iconst 1, 1) := by decide +kernel
theorem dX9_hasRoom_28 : decode cX9_hasRoom 28 = .ok (.if_icmp .eq 7, 3) := by decide +kernel
theorem dX9_hasRoom_31 : decode cX9_hasRoom 31 = .ok (.iconst 1, 1) := by decide +kernel
theorem dX9_hasRoom_32 : decode cX9_hasRoom 32 = .ok (.goto 4, 3) := by decide +kernel
theorem dX9_hasRoom_35 : decode cX9_hasRoom 35 = .ok (.iconst 0, 1) := by decide +kernel
theorem dX9_hasRoom_36 : decode cX9_hasRoom 36 = .ok (.istore_n 1, 1) := by decide +kernel
theorem dX9_hasRoom_37 : decode cX9_hasRoom 37 = .ok (.iinc 2 1, 3) := by decide +kernel
theorem dX9_hasRoom_40 : decode cX9_hasRoom 40 = .ok (.goto (-36), 3) := by decide +kernel
theorem dX9_hasRoom_43 : decode cX9_hasRoom 43 = .ok (.iload_n 1, 1) := by decide +kernel
theorem dX9_hasRoom_44 : decode cX9_hasRoom 44 = .ok (.ireturn, 1) := by decide +kernel
theorem dX9_readOneBoy_0 : decode cX9_readOneBoy 0 = .ok (.aload_n 0, 1) := by decide +kernel
theorem dX9_readOneBoy_1 : decode cX9_readOneBoy 1 = .ok (.getfield 7, 3) := by decide +kernel
theorem dX9_readOneBoy_4 : decode cX9_readOneBoy 4 = .ok (.aload_n 0, 1) := by decide +kernel
theorem dX9_readOneBoy_5 : decode cX9_readOneBoy 5 = .ok (.getfield 92, 3) := by decide +kernel
theorem dX9_readOneBoy_8 : decode cX9_readOneBoy 8 = .ok (.iaload, 1) := by decide +kernel
theorem dX9_readOneBoy_9 : decode cX9_readOneBoy 9 = .ok (.bipush 80, 2) := by decide +kernel
theorem dX9_readOneBoy_11 : decode cX9_readOneBoy 11 = .ok (.if_icmp .ne 18, 3) := by decide +kernel
theorem dX9_readOneBoy_14 : decode cX9_readOneBoy 14 = .ok (.aload_n 0, 1) := by decide +kernel
theorem dX9_readOneBoy_15 : decode cX9_readOneBoy 15 = .ok (.getfield 101, 3) := by decide +kernel
theorem dX9_readOneBoy_18 : decode cX9_readOneBoy 18 = .ok (.iconst 5, 1) := by decide +kernel
theorem dX9_readOneBoy_19 : decode cX9_readOneBoy 19 = .ok (.if_icmp .eq 10, 3) := by decide +kernel
theorem dX9_readOneBoy_22 : decode cX9_readOneBoy 22 = .ok (.aload_n 0, 1) := by decide +kernel
theorem dX9_readOneBoy_23 : decode cX9_readOneBoy 23 = .ok (.invokevirtual 104, 3) := by decide +kernel
theorem dX9_readOneBoy_26 : decode cX9_readOneBoy 26 = .ok (.ifCond .ne 5, 3) := by decide +kernel
theorem dX9_readOneBoy_29 : decode cX9_readOneBoy 29 = .ok (.iconst 0, 1) := by decide +kernel
theorem dX9_readOneBoy_30 : decode cX9_readOneBoy 30 = .ok (.ireturn, 1) := by decide +kernel
theorem dX9_readOneBoy_31 : decode cX9_readOneBoy 31 = .ok (.aload_n 0, 1) := by decide +kernel
theorem dX9_readOneBoy_32 : decode cX9_readOneBoy 32 = .ok (.dup, 1) := by decide +kernel
theorem dX9_readOneBoy_33 : decode cX9_readOneBoy 33 = .ok (.getfield 92, 3) := by decide +kernel
theorem dX9_readOneBoy_36 : decode cX9_readOneBoy 36 = .ok (.iconst 1, 1) := by decide +kernel
theorem dX9_readOneBoy_37 : decode cX9_readOneBoy 37 = .ok (.iadd, 1) := by decide +kernel
theorem dX9_readOneBoy_38 : decode cX9_readOneBoy 38 = .ok (.putfield 92, 3) := by decide +kernel
theorem dX9_readOneBoy_41 : decode cX9_readOneBoy 41 = .ok (.aload_n 0, 1) := by decide +kernel
theorem dX9_readOneBoy_42 : decode cX9_readOneBoy 42 = .ok (.bipush 97, 2) := by decide +kernel
theorem dX9_readOneBoy_44 : decode cX9_readOneBoy 44 = .ok (.iconst 0, 1) := by decide +kernel
theorem dX9_readOneBoy_45 : decode cX9_readOneBoy 45 = .ok (.aload_n 0, 1) := by decide +kernel
theorem dX9_readOneBoy_46 : decode cX9_readOneBoy 46 = .ok (.getfield 95, 3) := by decide +kernel
theorem dX9_readOneBoy_49 : decode cX9_readOneBoy 49 = .ok (.aload_n 0, 1) := by decide +kernel
theorem dX9_readOneBoy_50 : decode cX9_readOneBoy 50 = .ok (.getfield 98, 3) := by decide +kernel
theorem dX9_readOneBoy_53 : decode cX9_readOneBoy 53 = .ok (.imul, 1) := by decide +kernel
theorem dX9_readOneBoy_54 : decode cX9_readOneBoy 54 = .ok (.iconst 1, 1) := by decide +kernel
theorem dX9_readOneBoy_55 : decode cX9_readOneBoy 55 = .ok (.isub, 1) := by decide +kernel
theorem dX9_readOneBoy_56 : decode cX9_readOneBoy 56 = .ok (.invokevirtual 108, 3) := by decide +kernel
theorem dX9_readOneBoy_59 : decode cX9_readOneBoy 59 = .ok (.istore_n 1, 1) := by decide +kernel
theorem dX9_readOneBoy_60 : decode cX9_readOneBoy 60 = .ok (.iload_n 1, 1) := by decide +kernel
theorem dX9_readOneBoy_61 : decode cX9_readOneBoy 61 = .ok (.bipush (-9), 2) := by decide +kernel
theorem dX9_readOneBoy_63 : decode cX9_readOneBoy 63 = .ok (.if_icmp .eq 25, 3) := by decide +kernel
theorem dX9_readOneBoy_66 : decode cX9_readOneBoy 66 = .ok (.aload_n 0, 1) := by decide +kernel
theorem dX9_readOneBoy_67 : decode cX9_readOneBoy 67 = .ok (.getfield 29, 3) := by decide +kernel
theorem dX9_readOneBoy_70 : decode cX9_readOneBoy 70 = .ok (.iload_n 1, 1) := by decide +kernel
theorem dX9_readOneBoy_71 : decode cX9_readOneBoy 71 = .ok (.iaload, 1) := by decide +kernel
theorem dX9_readOneBoy_72 : decode cX9_readOneBoy 72 = .ok (.iconst 1, 1) := by decide +kernel
theorem dX9_readOneBoy_73 : decode cX9_readOneBoy 73 = .ok (.if_icmp .ne 15, 3) := by decide +kernel
theorem dX9_readOneBoy_76 : decode cX9_readOneBoy 76 = .ok (.aload_n 0, 1) := by decide +kernel
theorem dX9_readOneBoy_77 : decode cX9_readOneBoy 77 = .ok (.dup, 1) := by decide +kernel
theorem dX9_readOneBoy_78 : decode cX9_readOneBoy 78 = .ok (.getfield 92, 3) := by decide +kernel
theorem dX9_readOneBoy_81 : decode cX9_readOneBoy 81 = .ok (.iconst 1, 1) := by decide +kernel
theorem dX9_readOneBoy_82 : decode cX9_readOneBoy 82 = .ok (.isub, 1) := by decide +kernel
theorem dX9_readOneBoy_83 : decode cX9_readOneBoy 83 = .ok (.putfield 92, 3) := by decide +kernel
theorem dX9_readOneBoy_86 : decode cX9_readOneBoy 86 = .ok (.iconst 0, 1) := by decide +kernel
theorem dX9_readOneBoy_87 : decode cX9_readOneBoy 87 = .ok (.ireturn, 1) := by decide +kernel
theorem dX9_readOneBoy_88 : decode cX9_readOneBoy 88 = .ok (.iload_n 1, 1) := by decide +kernel
theorem dX9_readOneBoy_89 : decode cX9_readOneBoy 89 = .ok (.bipush (-9), 2) := by decide +kernel
theorem dX9_readOneBoy_91 : decode cX9_readOneBoy 91 = .ok (.if_icmp .ne 8, 3) := by decide +kernel
theorem dX9_readOneBoy_94 : decode cX9_readOneBoy 94 = .ok (.bipush (-9), 2) := by decide +kernel
theorem dX9_readOneBoy_96 : decode cX9_readOneBoy 96 = .ok (.goto 11, 3) := by decide +kernel
theorem dX9_readOneBoy_99 : decode cX9_readOneBoy 99 = .ok (.aload_n 0, 1) := by decide +kernel
theorem dX9_readOneBoy_100 : decode cX9_readOneBoy 100 = .ok (.bipush 48, 2) := by decide +kernel
theorem dX9_readOneBoy_102 : decode cX9_readOneBoy 102 = .ok (.iconst 0, 1) := by decide +kernel
theorem dX9_readOneBoy_103 : decode cX9_readOneBoy 103 = .ok (.iconst 3, 1) := by decide +kernel
theorem dX9_readOneBoy_104 : decode cX9_readOneBoy 104 = .ok (.invokevirtual 108, 3) := by decide +kernel
theorem dX9_readOneBoy_107 : decode cX9_readOneBoy 107 = .ok (.istore_n 2, 1) := by decide +kernel
theorem dX9_readOneBoy_108 : decode cX9_readOneBoy 108 = .ok (.iload_n 2, 1) := by decide +kernel
theorem dX9_readOneBoy_109 : decode cX9_readOneBoy 109 = .ok (.bipush (-9), 2) := by decide +kernel
theorem dX9_readOneBoy_111 : decode cX9_readOneBoy 111 = .ok (.if_icmp .ne 5, 3) := by decide +kernel
theorem dX9_readOneBoy_114 : decode cX9_readOneBoy 114 = .ok (.iconst 0, 1) := by decide +kernel
theorem dX9_readOneBoy_115 : decode cX9_readOneBoy 115 = .ok (.ireturn, 1) := by decide +kernel
theorem dX9_readOneBoy_116 : decode cX9_readOneBoy 116 = .ok (.aload_n 0, 1) := by decide +kernel
theorem dX9_readOneBoy_117 : decode cX9_readOneBoy 117 = .ok (.getfield 32, 3) := by decide +kernel
theorem dX9_readOneBoy_120 : decode cX9_readOneBoy 120 = .ok (.iconst 2, 1) := by decide +kernel
theorem dX9_readOneBoy_121 : decode cX9_readOneBoy 121 = .ok (.aload_n 0, 1) := by decide +kernel
theorem dX9_readOneBoy_122 : decode cX9_readOneBoy 122 = .ok (.getfield 101, 3) := by decide +kernel
theorem dX9_readOneBoy_125 : decode cX9_readOneBoy 125 = .ok (.imul, 1) := by decide +kernel
theorem dX9_readOneBoy_126 : decode cX9_readOneBoy 126 = .ok (.iload_n 1, 1) := by decide +kernel
theorem dX9_readOneBoy_127 : decode cX9_readOneBoy 127 = .ok (.iastore, 1) := by decide +kernel
theorem dX9_readOneBoy_128 : decode cX9_readOneBoy 128 = .ok (.aload_n 0, 1) := by decide +kernel
theorem dX9_readOneBoy_129 : decode cX9_readOneBoy 129 = .ok (.getfield 32, 3) := by decide +kernel
theorem dX9_readOneBoy_132 : decode cX9_readOneBoy 132 = .ok (.iconst 2, 1) := by decide +kernel
theorem dX9_readOneBoy_133 : decode cX9_readOneBoy 133 = .ok (.aload_n 0, 1) := by decide +kernel
theorem dX9_readOneBoy_134 : decode cX9_readOneBoy 134 = .ok (.getfield 101, 3) := by decide +kernel
theorem dX9_readOneBoy_137 : decode cX9_readOneBoy 137 = .ok (.imul, 1) := by decide +kernel
theorem dX9_readOneBoy_138 : decode cX9_readOneBoy 138 = .ok (.iconst 1, 1) := by decide +kernel
theorem dX9_readOneBoy_139 : decode cX9_readOneBoy 139 = .ok (.iadd, 1) := by decide +kernel
theorem dX9_readOneBoy_140 : decode cX9_readOneBoy 140 = .ok (.iload_n 2, 1) := by decide +kernel
theorem dX9_readOneBoy_141 : decode cX9_readOneBoy 141 = .ok (.iastore, 1) := by decide +kernel
theorem dX9_readOneBoy_142 : decode cX9_readOneBoy 142 = .ok (.aload_n 0, 1) := by decide +kernel
theorem dX9_readOneBoy_143 : decode cX9_readOneBoy 143 = .ok (.dup, 1) := by decide +kernel
theorem dX9_readOneBoy_144 : decode cX9_readOneBoy 144 = .ok (.getfield 101, 3) := by decide +kernel
theorem dX9_readOneBoy_147 : decode cX9_readOneBoy 147 = .ok (.iconst 1, 1) := by decide +kernel
theorem dX9_readOneBoy_148 : decode cX9_readOneBoy 148 = .ok (.iadd, 1) := by decide +kernel
theorem dX9_readOneBoy_149 : decode cX9_readOneBoy 149 = .ok (.putfield 101, 3) := by decide +kernel
theorem dX9_readOneBoy_152 : decode cX9_readOneBoy 152 = .ok (.iconst 1, 1) := by decide +kernel
theorem dX9_readOneBoy_153 : decode cX9_readOneBoy 153 = .ok (.ireturn, 1) := by decide +kernel
theorem dX9_readPattern_0 : decode cX9_readPattern 0 = .ok (.aload_n 0, 1) := by decide +kernel
theorem dX9_readPattern_1 : decode cX9_readPattern 1 = .ok (.aload_n 0, 1) := by decide +kernel
theorem dX9_readPattern_2 : decode cX9_readPattern 2 = .ok (.bipush 48, 2) := by decide +kernel
theorem dX9_readPattern_4 : decode cX9_readPattern 4 = .ok (.iconst 2, 1) := by decide +kernel
theorem dX9_readPattern_5 : decode cX9_readPattern 5 = .ok (.iconst 5, 1) := by decide +kernel
theorem dX9_readPattern_6 : decode cX9_readPattern 6 = .ok (.invokevirtual 108, 3) := by decide +kernel
theorem dX9_readPattern_9 : decode cX9_readPattern 9 = .ok (.putfield 95, 3) := by decide +kernel
theorem dX9_readPattern_12 : decode cX9_readPattern 12 = .ok (.aload_n 0, 1) := by decide +kernel
theorem dX9_readPattern_13 : decode cX9_readPattern 13 = .ok (.aload_n 0, 1) := by decide +kernel
theorem dX9_readPattern_14 : decode cX9_readPattern 14 = .ok (.getfield 95, 3) := by decide +kernel
theorem dX9_readPattern_17 : decode cX9_readPattern 17 = .ok (.bipush (-9), 2) := by decide +kernel
theorem dX9_readPattern_19 : decode cX9_readPattern 19 = .ok (.if_icmp .ne 8, 3) := by decide +kernel
theorem dX9_readPattern_22 : decode cX9_readPattern 22 = .ok (.bipush (-9), 2) := by decide +kernel
theorem dX9_readPattern_24 : decode cX9_readPattern 24 = .ok (.goto 11, 3) := by decide +kernel
theorem dX9_readPattern_27 : decode cX9_readPattern 27 = .ok (.aload_n 0, 1) := by decide +kernel
theorem dX9_readPattern_28 : decode cX9_readPattern 28 = .ok (.bipush 48, 2) := by decide +kernel
theorem dX9_readPattern_30 : decode cX9_readPattern 30 = .ok (.iconst 2, 1) := by decide +kernel
theorem dX9_readPattern_31 : decode cX9_readPattern 31 = .ok (.iconst 4, 1) := by decide +kernel
theorem dX9_readPattern_32 : decode cX9_readPattern 32 = .ok (.invokevirtual 108, 3) := by decide +kernel
theorem dX9_readPattern_35 : decode cX9_readPattern 35 = .ok (.putfield 98, 3) := by decide +kernel
theorem dX9_readPattern_38 : decode cX9_readPattern 38 = .ok (.aload_n 0, 1) := by decide +kernel
theorem dX9_readPattern_39 : decode cX9_readPattern 39 = .ok (.aload_n 0, 1) := by decide +kernel
theorem dX9_readPattern_40 : decode cX9_readPattern 40 = .ok (.getfield 98, 3) := by decide +kernel
theorem dX9_readPattern_43 : decode cX9_readPattern 43 = .ok (.bipush (-9), 2) := by decide +kernel
theorem dX9_readPattern_45 : decode cX9_readPattern 45 = .ok (.if_icmp .ne 8, 3) := by decide +kernel
theorem dX9_readPattern_48 : decode cX9_readPattern 48 = .ok (.bipush (-9), 2) := by decide +kernel
theorem dX9_readPattern_50 : decode cX9_readPattern 50 = .ok (.goto 16, 3) := by decide +kernel
theorem dX9_readPattern_53 : decode cX9_readPattern 53 = .ok (.aload_n 0, 1) := by decide +kernel
theorem dX9_readPattern_54 : decode cX9_readPattern 54 = .ok (.bipush 48, 2) := by decide +kernel
end
section
theorem dX9_readPattern_56 : decode cX9_readPattern 56 = .ok (.iconst 0, 1) := by decide +kernel
theorem dX9_readPattern_57 : decode cX9_readPattern 57 = .ok (.aload_n 0, 1) := by decide +kernel
theorem dX9_readPattern_58 : decode cX9_readPattern 58 = .ok (.getfield 98, 3) := by decide +kernel
theorem dX9_readPattern_61 : decode cX9_readPattern 61 = .ok (.iconst 1, 1) := by decide +kernel
theorem dX9_readPattern_62 : decode cX9_readPattern 62 = .ok (.isub, 1) := by decide +kernel
theorem dX9_readPattern_63 : decode cX9_readPattern 63 = .ok (.invokevirtual 108, 3) := by decide +kernel
theorem dX9_readPattern_66 : decode cX9_readPattern 66 = .ok (.putfield 112, 3) := by decide +kernel
theorem dX9_readPattern_69 : decode cX9_readPattern 69 = .ok (.aload_n 0, 1) := by decide +kernel
theorem dX9_readPattern_70 : decode cX9_readPattern 70 = .ok (.getfield 112, 3) := by decide +kernel
theorem dX9_readPattern_73 : decode cX9_readPattern 73 = .ok (.bipush (-9), 2) := by decide +kernel
theorem dX9_readPattern_75 : decode cX9_readPattern 75 = .ok (.if_icmp .ne 5, 3) := by decide +kernel
theorem dX9_readPattern_78 : decode cX9_readPattern 78 = .ok (.iconst 0, 1) := by decide +kernel
theorem dX9_readPattern_79 : decode cX9_readPattern 79 = .ok (.ireturn, 1) := by decide +kernel
theorem dX9_readPattern_80 : decode cX9_readPattern 80 = .ok (.iconst 0, 1) := by decide +kernel
theorem dX9_readPattern_81 : decode cX9_readPattern 81 = .ok (.istore_n 1, 1) := by decide +kernel
theorem dX9_readPattern_82 : decode cX9_readPattern 82 = .ok (.iload_n 1, 1) := by decide +kernel
theorem dX9_readPattern_83 : decode cX9_readPattern 83 = .ok (.aload_n 0, 1) := by decide +kernel
theorem dX9_readPattern_84 : decode cX9_readPattern 84 = .ok (.getfield 95, 3) := by decide +kernel
theorem dX9_readPattern_87 : decode cX9_readPattern 87 = .ok (.aload_n 0, 1) := by decide +kernel
theorem dX9_readPattern_88 : decode cX9_readPattern 88 = .ok (.getfield 98, 3) := by decide +kernel
theorem dX9_readPattern_91 : decode cX9_readPattern 91 = .ok (.imul, 1) := by decide +kernel
theorem dX9_readPattern_92 : decode cX9_readPattern 92 = .ok (.if_icmp .ge 32, 3) := by decide +kernel
theorem dX9_readPattern_95 : decode cX9_readPattern 95 = .ok (.aload_n 0, 1) := by decide +kernel
theorem dX9_readPattern_96 : decode cX9_readPattern 96 = .ok (.getfield 29, 3) := by decide +kernel
theorem dX9_readPattern_99 : decode cX9_readPattern 99 = .ok (.iload_n 1, 1) := by decide +kernel
theorem dX9_readPattern_100 : decode cX9_readPattern 100 = .ok (.aload_n 0, 1) := by decide +kernel
theorem dX9_readPattern_101 : decode cX9_readPattern 101 = .ok (.invokevirtual 115, 3) := by decide +kernel
theorem dX9_readPattern_104 : decode cX9_readPattern 104 = .ok (.iastore, 1) := by decide +kernel
theorem dX9_readPattern_105 : decode cX9_readPattern 105 = .ok (.aload_n 0, 1) := by decide +kernel
theorem dX9_readPattern_106 : decode cX9_readPattern 106 = .ok (.getfield 29, 3) := by decide +kernel
theorem dX9_readPattern_109 : decode cX9_readPattern 109 = .ok (.iload_n 1, 1) := by decide +kernel
theorem dX9_readPattern_110 : decode cX9_readPattern 110 = .ok (.iaload, 1) := by decide +kernel
theorem dX9_readPattern_111 : decode cX9_readPattern 111 = .ok (.bipush (-9), 2) := by decide +kernel
theorem dX9_readPattern_113 : decode cX9_readPattern 113 = .ok (.if_icmp .ne 5, 3) := by decide +kernel
theorem dX9_readPattern_116 : decode cX9_readPattern 116 = .ok (.iconst 0, 1) := by decide +kernel
theorem dX9_readPattern_117 : decode cX9_readPattern 117 = .ok (.ireturn, 1) := by decide +kernel
theorem dX9_readPattern_118 : decode cX9_readPattern 118 = .ok (.iinc 1 1, 3) := by decide +kernel
theorem dX9_readPattern_121 : decode cX9_readPattern 121 = .ok (.goto (-39), 3) := by decide +kernel
theorem dX9_readPattern_124 : decode cX9_readPattern 124 = .ok (.iconst 1, 1) := by decide +kernel
theorem dX9_readPattern_125 : decode cX9_readPattern 125 = .ok (.ireturn, 1) := by decide +kernel
theorem dX9_readPaper_0 : decode cX9_readPaper 0 = .ok (.aload_n 0, 1) := by decide +kernel
theorem dX9_readPaper_1 : decode cX9_readPaper 1 = .ok (.iconst 0, 1) := by decide +kernel
theorem dX9_readPaper_2 : decode cX9_readPaper 2 = .ok (.putfield 92, 3) := by decide +kernel
theorem dX9_readPaper_5 : decode cX9_readPaper 5 = .ok (.aload_n 0, 1) := by decide +kernel
theorem dX9_readPaper_6 : decode cX9_readPaper 6 = .ok (.iconst 0, 1) := by decide +kernel
theorem dX9_readPaper_7 : decode cX9_readPaper 7 = .ok (.putfield 101, 3) := by decide +kernel
theorem dX9_readPaper_10 : decode cX9_readPaper 10 = .ok (.aload_n 0, 1) := by decide +kernel
theorem dX9_readPaper_11 : decode cX9_readPaper 11 = .ok (.getfield 89, 3) := by decide +kernel
theorem dX9_readPaper_14 : decode cX9_readPaper 14 = .ok (.ifCond .eq 14, 3) := by decide +kernel
theorem dX9_readPaper_17 : decode cX9_readPaper 17 = .ok (.aload_n 0, 1) := by decide +kernel
theorem dX9_readPaper_18 : decode cX9_readPaper 18 = .ok (.getfield 7, 3) := by decide +kernel
theorem dX9_readPaper_21 : decode cX9_readPaper 21 = .ok (.iconst 0, 1) := by decide +kernel
theorem dX9_readPaper_22 : decode cX9_readPaper 22 = .ok (.iaload, 1) := by decide +kernel
theorem dX9_readPaper_23 : decode cX9_readPaper 23 = .ok (.bipush 87, 2) := by decide +kernel
theorem dX9_readPaper_25 : decode cX9_readPaper 25 = .ok (.if_icmp .eq 5, 3) := by decide +kernel
theorem dX9_readPaper_28 : decode cX9_readPaper 28 = .ok (.iconst 0, 1) := by decide +kernel
theorem dX9_readPaper_29 : decode cX9_readPaper 29 = .ok (.ireturn, 1) := by decide +kernel
theorem dX9_readPaper_30 : decode cX9_readPaper 30 = .ok (.aload_n 0, 1) := by decide +kernel
theorem dX9_readPaper_31 : decode cX9_readPaper 31 = .ok (.iconst 1, 1) := by decide +kernel
theorem dX9_readPaper_32 : decode cX9_readPaper 32 = .ok (.putfield 92, 3) := by decide +kernel
theorem dX9_readPaper_35 : decode cX9_readPaper 35 = .ok (.aload_n 0, 1) := by decide +kernel
theorem dX9_readPaper_36 : decode cX9_readPaper 36 = .ok (.invokevirtual 119, 3) := by decide +kernel
theorem dX9_readPaper_39 : decode cX9_readPaper 39 = .ok (.ifCond .ne 8, 3) := by decide +kernel
theorem dX9_readPaper_42 : decode cX9_readPaper 42 = .ok (.aload_n 0, 1) := by decide +kernel
theorem dX9_readPaper_43 : decode cX9_readPaper 43 = .ok (.getfield 92, 3) := by decide +kernel
theorem dX9_readPaper_46 : decode cX9_readPaper 46 = .ok (.ireturn, 1) := by decide +kernel
theorem dX9_readPaper_47 : decode cX9_readPaper 47 = .ok (.aload_n 0, 1) := by decide +kernel
theorem dX9_readPaper_48 : decode cX9_readPaper 48 = .ok (.getfield 92, 3) := by decide +kernel
theorem dX9_readPaper_51 : decode cX9_readPaper 51 = .ok (.aload_n 0, 1) := by decide +kernel
theorem dX9_readPaper_52 : decode cX9_readPaper 52 = .ok (.getfield 89, 3) := by decide +kernel
theorem dX9_readPaper_55 : decode cX9_readPaper 55 = .ok (.if_icmp .ge 15, 3) := by decide +kernel
theorem dX9_readPaper_58 : decode cX9_readPaper 58 = .ok (.aload_n 0, 1) := by decide +kernel
theorem dX9_readPaper_59 : decode cX9_readPaper 59 = .ok (.invokevirtual 122, 3) := by decide +kernel
theorem dX9_readPaper_62 : decode cX9_readPaper 62 = .ok (.ifCond .ne (-15), 3) := by decide +kernel
theorem dX9_readPaper_65 : decode cX9_readPaper 65 = .ok (.aload_n 0, 1) := by decide +kernel
theorem dX9_readPaper_66 : decode cX9_readPaper 66 = .ok (.getfield 92, 3) := by decide +kernel
theorem dX9_readPaper_69 : decode cX9_readPaper 69 = .ok (.ireturn, 1) := by decide +kernel
theorem dX9_readPaper_70 : decode cX9_readPaper 70 = .ok (.bipush (-9), 2) := by decide +kernel
theorem dX9_readPaper_72 : decode cX9_readPaper 72 = .ok (.ireturn, 1) := by decide +kernel
theorem dX9_fault_0 : decode cX9_fault 0 = .ok (.aload_n 0, 1) := by decide +kernel
theorem dX9_fault_1 : decode cX9_fault 1 = .ok (.iconst 0, 1) := by decide +kernel
theorem dX9_fault_2 : decode cX9_fault 2 = .ok (.putfield 75, 3) := by decide +kernel
theorem dX9_fault_5 : decode cX9_fault 5 = .ok (.aload_n 0, 1) := by decide +kernel
theorem dX9_fault_6 : decode cX9_fault 6 = .ok (.invokevirtual 125, 3) := by decide +kernel
theorem dX9_fault_9 : decode cX9_fault 9 = .ok (.ireturn, 1) := by decide +kernel
theorem dX9_paper_0 : decode cX9_paper 0 = .ok (.aload_n 0, 1) := by decide +kernel
theorem dX9_paper_1 : decode cX9_paper 1 = .ok (.iconst 0, 1) := by decide +kernel
theorem dX9_paper_2 : decode cX9_paper 2 = .ok (.putfield 75, 3) := by decide +kernel
theorem dX9_paper_5 : decode cX9_paper 5 = .ok (.aload_n 0, 1) := by decide +kernel
theorem dX9_paper_6 : decode cX9_paper 6 = .ok (.invokevirtual 125, 3) := by decide +kernel
theorem dX9_paper_9 : decode cX9_paper 9 = .ok (.bipush (-9), 2) := by decide +kernel
theorem dX9_paper_11 : decode cX9_paper 11 = .ok (.if_icmp .eq 6, 3) := by decide +kernel
theorem dX9_paper_14 : decode cX9_paper 14 = .ok (.bipush (-3), 2) := by decide +kernel
theorem dX9_paper_16 : decode cX9_paper 16 = .ok (.ireturn, 1) := by decide +kernel
theorem dX9_paper_17 : decode cX9_paper 17 = .ok (.aload_n 0, 1) := by decide +kernel
theorem dX9_paper_18 : decode cX9_paper 18 = .ok (.aload_n 0, 1) := by decide +kernel
theorem dX9_paper_19 : decode cX9_paper 19 = .ok (.getfield 95, 3) := by decide +kernel
theorem dX9_paper_22 : decode cX9_paper 22 = .ok (.putfield 13, 3) := by decide +kernel
theorem dX9_paper_25 : decode cX9_paper 25 = .ok (.aload_n 0, 1) := by decide +kernel
theorem dX9_paper_26 : decode cX9_paper 26 = .ok (.aload_n 0, 1) := by decide +kernel
theorem dX9_paper_27 : decode cX9_paper 27 = .ok (.getfield 98, 3) := by decide +kernel
theorem dX9_paper_30 : decode cX9_paper 30 = .ok (.putfield 17, 3) := by decide +kernel
theorem dX9_paper_33 : decode cX9_paper 33 = .ok (.aload_n 0, 1) := by decide +kernel
theorem dX9_paper_34 : decode cX9_paper 34 = .ok (.aload_n 0, 1) := by decide +kernel
theorem dX9_paper_35 : decode cX9_paper 35 = .ok (.getfield 112, 3) := by decide +kernel
theorem dX9_paper_38 : decode cX9_paper 38 = .ok (.putfield 128, 3) := by decide +kernel
theorem dX9_paper_41 : decode cX9_paper 41 = .ok (.aload_n 0, 1) := by decide +kernel
theorem dX9_paper_42 : decode cX9_paper 42 = .ok (.aload_n 0, 1) := by decide +kernel
theorem dX9_paper_43 : decode cX9_paper 43 = .ok (.getfield 101, 3) := by decide +kernel
theorem dX9_paper_46 : decode cX9_paper 46 = .ok (.putfield 78, 3) := by decide +kernel
theorem dX9_paper_49 : decode cX9_paper 49 = .ok (.iconst 0, 1) := by decide +kernel
theorem dX9_paper_50 : decode cX9_paper 50 = .ok (.istore_n 1, 1) := by decide +kernel
theorem dX9_paper_51 : decode cX9_paper 51 = .ok (.iload_n 1, 1) := by decide +kernel
theorem dX9_paper_52 : decode cX9_paper 52 = .ok (.bipush 20, 2) := by decide +kernel
theorem dX9_paper_54 : decode cX9_paper 54 = .ok (.if_icmp .ge 38, 3) := by decide +kernel
theorem dX9_paper_57 : decode cX9_paper 57 = .ok (.aload_n 0, 1) := by decide +kernel
theorem dX9_paper_58 : decode cX9_paper 58 = .ok (.getfield 20, 3) := by decide +kernel
theorem dX9_paper_61 : decode cX9_paper 61 = .ok (.iload_n 1, 1) := by decide +kernel
theorem dX9_paper_62 : decode cX9_paper 62 = .ok (.iload_n 1, 1) := by decide +kernel
theorem dX9_paper_63 : decode cX9_paper 63 = .ok (.aload_n 0, 1) := by decide +kernel
theorem dX9_paper_64 : decode cX9_paper 64 = .ok (.getfield 13, 3) := by decide +kernel
theorem dX9_paper_67 : decode cX9_paper 67 = .ok (.aload_n 0, 1) := by decide +kernel
theorem dX9_paper_68 : decode cX9_paper 68 = .ok (.getfield 17, 3) := by decide +kernel
theorem dX9_paper_71 : decode cX9_paper 71 = .ok (.imul, 1) := by decide +kernel
theorem dX9_paper_72 : decode cX9_paper 72 = .ok (.if_icmp .ge 12, 3) := by decide +kernel
theorem dX9_paper_75 : decode cX9_paper 75 = .ok (.aload_n 0, 1) := by decide +kernel
theorem dX9_paper_76 : decode cX9_paper 76 = .ok (.getfield 29, 3) := by decide +kernel
theorem dX9_paper_79 : decode cX9_paper 79 = .ok (.iload_n 1, 1) := by decide +kernel
theorem dX9_paper_80 : decode cX9_paper 80 = .ok (.iaload, 1) := by decide +kernel
theorem dX9_paper_81 : decode cX9_paper 81 = .ok (.goto 4, 3) := by decide +kernel
theorem dX9_paper_84 : decode cX9_paper 84 = .ok (.iconst 0, 1) := by decide +kernel
theorem dX9_paper_85 : decode cX9_paper 85 = .ok (.iastore, 1) := by decide +kernel
theorem dX9_paper_86 : decode cX9_paper 86 = .ok (.iinc 1 1, 3) := by decide +kernel
theorem dX9_paper_89 : decode cX9_paper 89 = .ok (.goto (-38), 3) := by decide +kernel
theorem dX9_paper_92 : decode cX9_paper 92 = .ok (.iconst 0, 1) := by decide +kernel
theorem dX9_paper_93 : decode cX9_paper 93 = .ok (.istore_n 1, 1) := by decide +kernel
theorem dX9_paper_94 : decode cX9_paper 94 = .ok (.iload_n 1, 1) := by decide +kernel
theorem dX9_paper_95 : decode cX9_paper 95 = .ok (.bipush 16, 2) := by decide +kernel
theorem dX9_paper_97 : decode cX9_paper 97 = .ok (.if_icmp .ge 16, 3) := by decide +kernel
theorem dX9_paper_100 : decode cX9_paper 100 = .ok (.aload_n 0, 1) := by decide +kernel
theorem dX9_paper_101 : decode cX9_paper 101 = .ok (.getfield 35, 3) := by decide +kernel
theorem dX9_paper_104 : decode cX9_paper 104 = .ok (.iload_n 1, 1) := by decide +kernel
theorem dX9_paper_105 : decode cX9_paper 105 = .ok (.iconst 0, 1) := by decide +kernel
theorem dX9_paper_106 : decode cX9_paper 106 = .ok (.iastore, 1) := by decide +kernel
theorem dX9_paper_107 : decode cX9_paper 107 = .ok (.iinc 1 1, 3) := by decide +kernel
theorem dX9_paper_110 : decode cX9_paper 110 = .ok (.goto (-16), 3) := by decide +kernel
theorem dX9_paper_113 : decode cX9_paper 113 = .ok (.iconst 0, 1) := by decide +kernel
theorem dX9_paper_114 : decode cX9_paper 114 = .ok (.istore_n 1, 1) := by decide +kernel
theorem dX9_paper_115 : decode cX9_paper 115 = .ok (.iload_n 1, 1) := by decide +kernel
theorem dX9_paper_116 : decode cX9_paper 116 = .ok (.aload_n 0, 1) := by decide +kernel
theorem dX9_paper_117 : decode cX9_paper 117 = .ok (.getfield 78, 3) := by decide +kernel
theorem dX9_paper_120 : decode cX9_paper 120 = .ok (.if_icmp .ge 70, 3) := by decide +kernel
theorem dX9_paper_123 : decode cX9_paper 123 = .ok (.aload_n 0, 1) := by decide +kernel
theorem dX9_paper_124 : decode cX9_paper 124 = .ok (.getfield 23, 3) := by decide +kernel
theorem dX9_paper_127 : decode cX9_paper 127 = .ok (.iload_n 1, 1) := by decide +kernel
theorem dX9_paper_128 : decode cX9_paper 128 = .ok (.aload_n 0, 1) := by decide +kernel
theorem dX9_paper_129 : decode cX9_paper 129 = .ok (.getfield 32, 3) := by decide +kernel
theorem dX9_paper_132 : decode cX9_paper 132 = .ok (.iconst 2, 1) := by decide +kernel
theorem dX9_paper_133 : decode cX9_paper 133 = .ok (.iload_n 1, 1) := by decide +kernel
theorem dX9_paper_134 : decode cX9_paper 134 = .ok (.imul, 1) := by decide +kernel
theorem dX9_paper_135 : decode cX9_paper 135 = .ok (.iaload, 1) := by decide +kernel
theorem dX9_paper_136 : decode cX9_paper 136 = .ok (.iastore, 1) := by decide +kernel
theorem dX9_paper_137 : decode cX9_paper 137 = .ok (.aload_n 0, 1) := by decide +kernel
theorem dX9_paper_138 : decode cX9_paper 138 = .ok (.getfield 26, 3) := by decide +kernel
theorem dX9_paper_141 : decode cX9_paper 141 = .ok (.iload_n 1, 1) := by decide +kernel
theorem dX9_paper_142 : decode cX9_paper 142 = .ok (.aload_n 0, 1) := by decide +kernel
theorem dX9_paper_143 : decode cX9_paper 143 = .ok (.getfield 32, 3) := by decide +kernel
theorem dX9_paper_146 : decode cX9_paper 146 = .ok (.iconst 2, 1) := by decide +kernel
theorem dX9_paper_147 : decode cX9_paper 147 = .ok (.iload_n 1, 1) := by decide +kernel
theorem dX9_paper_148 : decode cX9_paper 148 = .ok (.imul, 1) := by decide +kernel
theorem dX9_paper_149 : decode cX9_paper 149 = .ok (.iconst 1, 1) := by decide +kernel
theorem dX9_paper_150 : decode cX9_paper 150 = .ok (.iadd, 1) := by decide +kernel
theorem dX9_paper_151 : decode cX9_paper 151 = .ok (.iaload, 1) := by decide +kernel
theorem dX9_paper_152 : decode cX9_paper 152 = .ok (.iastore, 1) := by decide +kernel
theorem dX9_paper_153 : decode cX9_paper 153 = .ok (.aload_n 0, 1) := by decide +kernel
theorem dX9_paper_154 : decode cX9_paper 154 = .ok (.getfield 35, 3) := by decide +kernel
theorem dX9_paper_157 : decode cX9_paper 157 = .ok (.iload_n 1, 1) := by decide +kernel
theorem dX9_paper_158 : decode cX9_paper 158 = .ok (.aload_n 0, 1) := by decide +kernel
theorem dX9_paper_159 : decode cX9_paper 159 = .ok (.getfield 23, 3) := by decide +kernel
theorem dX9_paper_162 : decode cX9_paper 162 = .ok (.iload_n 1, 1) := by decide +kernel
theorem dX9_paper_163 : decode cX9_paper 163 = .ok (.iaload, 1) := by decide +kernel
theorem dX9_paper_164 : decode cX9_paper 164 = .ok (.iastore, 1) := by decide +kernel
theorem dX9_paper_165 : decode cX9_paper 165 = .ok (.aload_n 0, 1) := by decide +kernel
theorem dX9_paper_166 : decode cX9_paper 166 = .ok (.getfield 35, 3) := by decide +kernel
theorem dX9_paper_169 : decode cX9_paper 169 = .ok (.iconst 5, 1) := by decide +kernel
theorem dX9_paper_170 : decode cX9_paper 170 = .ok (.iload_n 1, 1) := by decide +kernel
theorem dX9_paper_171 : decode cX9_paper 171 = .ok (.iadd, 1) := by decide +kernel
theorem dX9_paper_172 : decode cX9_paper 172 = .ok (.iconst 3, 1) := by decide +kernel
theorem dX9_paper_173 : decode cX9_paper 173 = .ok (.iastore, 1) := by decide +kernel
theorem dX9_paper_174 : decode cX9_paper 174 = .ok (.aload_n 0, 1) := by decide +kernel
theorem dX9_paper_175 : decode cX9_paper 175 = .ok (.getfield 35, 3) := by decide +kernel
theorem dX9_paper_178 : decode cX9_paper 178 = .ok (.bipush 10, 2) := by decide +kernel
theorem dX9_paper_180 : decode cX9_paper 180 = .ok (.iload_n 1, 1) := by decide +kernel
theorem dX9_paper_181 : decode cX9_paper 181 = .ok (.iadd, 1) := by decide +kernel
theorem dX9_paper_182 : decode cX9_paper 182 = .ok (.iconst 3, 1) := by decide +kernel
theorem dX9_paper_183 : decode cX9_paper 183 = .ok (.iastore, 1) := by decide +kernel
theorem dX9_paper_184 : decode cX9_paper 184 = .ok (.iinc 1 1, 3) := by decide +kernel
theorem dX9_paper_187 : decode cX9_paper 187 = .ok (.goto (-72), 3) := by decide +kernel
theorem dX9_paper_190 : decode cX9_paper 190 = .ok (.aload_n 0, 1) := by decide +kernel
theorem dX9_paper_191 : decode cX9_paper 191 = .ok (.iconst 0, 1) := by decide +kernel
theorem dX9_paper_192 : decode cX9_paper 192 = .ok (.putfield 131, 3) := by decide +kernel
theorem dX9_paper_195 : decode cX9_paper 195 = .ok (.aload_n 0, 1) := by decide +kernel
theorem dX9_paper_196 : decode cX9_paper 196 = .ok (.getfield 47, 3) := by decide +kernel
theorem dX9_paper_199 : decode cX9_paper 199 = .ok (.iconst 0, 1) := by decide +kernel
theorem dX9_paper_200 : decode cX9_paper 200 = .ok (.iconst 0, 1) := by decide +kernel
theorem dX9_paper_201 : decode cX9_paper 201 = .ok (.bastore, 1) := by decide +kernel
theorem dX9_paper_202 : decode cX9_paper 202 = .ok (.aload_n 0, 1) := by decide +kernel
theorem dX9_paper_203 : decode cX9_paper 203 = .ok (.getfield 47, 3) := by decide +kernel
theorem dX9_paper_206 : decode cX9_paper 206 = .ok (.iconst 1, 1) := by decide +kernel
theorem dX9_paper_207 : decode cX9_paper 207 = .ok (.iconst 0, 1) := by decide +kernel
theorem dX9_paper_208 : decode cX9_paper 208 = .ok (.bastore, 1) := by decide +kernel
theorem dX9_paper_209 : decode cX9_paper 209 = .ok (.bipush 100, 2) := by decide +kernel
theorem dX9_paper_211 : decode cX9_paper 211 = .ok (.aload_n 0, 1) := by decide +kernel
theorem dX9_paper_212 : decode cX9_paper 212 = .ok (.getfield 13, 3) := by decide +kernel
theorem dX9_paper_215 : decode cX9_paper 215 = .ok (.imul, 1) := by decide +kernel
theorem dX9_paper_216 : decode cX9_paper 216 = .ok (.bipush 10, 2) := by decide +kernel
theorem dX9_paper_218 : decode cX9_paper 218 = .ok (.aload_n 0, 1) := by decide +kernel
theorem dX9_paper_219 : decode cX9_paper 219 = .ok (.getfield 17, 3) := by decide +kernel
theorem dX9_paper_222 : decode cX9_paper 222 = .ok (.imul, 1) := by decide +kernel
theorem dX9_paper_223 : decode cX9_paper 223 = .ok (.iadd, 1) := by decide +kernel
theorem dX9_paper_224 : decode cX9_paper 224 = .ok (.aload_n 0, 1) := by decide +kernel
theorem dX9_paper_225 : decode cX9_paper 225 = .ok (.getfield 78, 3) := by decide +kernel
theorem dX9_paper_228 : decode cX9_paper 228 = .ok (.iadd, 1) := by decide +kernel
theorem dX9_paper_229 : decode cX9_paper 229 = .ok (.ireturn, 1) := by decide +kernel
theorem dX9_kindOf_0 : decode cX9_kindOf 0 = .ok (.aload_n 1, 1) := by decide +kernel
theorem dX9_kindOf_1 : decode cX9_kindOf 1 = .ok (.bipush 15, 2) := by decide +kernel
theorem dX9_kindOf_3 : decode cX9_kindOf 3 = .ok (.iaload, 1) := by decide +kernel
theorem dX9_kindOf_4 : decode cX9_kindOf 4 = .ok (.iload_n 2, 1) := by decide +kernel
theorem dX9_kindOf_5 : decode cX9_kindOf 5 = .ok (.invokestatic 134, 3) := by decide +kernel
theorem dX9_kindOf_8 : decode cX9_kindOf 8 = .ok (.ifCond .eq 7, 3) := by decide +kernel
theorem dX9_kindOf_11 : decode cX9_kindOf 11 = .ok (.iconst 0, 1) := by decide +kernel
theorem dX9_kindOf_12 : decode cX9_kindOf 12 = .ok (.goto 9, 3) := by decide +kernel
theorem dX9_kindOf_15 : decode cX9_kindOf 15 = .ok (.aload_n 0, 1) := by decide +kernel
theorem dX9_kindOf_16 : decode cX9_kindOf 16 = .ok (.getfield 20, 3) := by decide +kernel
theorem dX9_kindOf_19 : decode cX9_kindOf 19 = .ok (.iload_n 2, 1) := by decide +kernel
theorem dX9_kindOf_20 : decode cX9_kindOf 20 = .ok (.iaload, 1) := by decide +kernel
theorem dX9_kindOf_21 : decode cX9_kindOf 21 = .ok (.ireturn, 1) := by decide +kernel
theorem dX9_goWay_0 : decode cX9_goWay 0 = .ok (.aload_n 0, 1) := by decide +kernel
theorem dX9_goWay_1 : decode cX9_goWay 1 = .ok (.getfield 60, 3) := by decide +kernel
theorem dX9_goWay_4 : decode cX9_goWay 4 = .ok (.iconst 0, 1) := by decide +kernel
theorem dX9_goWay_5 : decode cX9_goWay 5 = .ok (.iaload, 1) := by decide +kernel
theorem dX9_goWay_6 : decode cX9_goWay 6 = .ok (.aload_n 0, 1) := by decide +kernel
theorem dX9_goWay_7 : decode cX9_goWay 7 = .ok (.getfield 13, 3) := by decide +kernel
theorem dX9_goWay_10 : decode cX9_goWay 10 = .ok (.idiv, 1) := by decide +kernel
theorem dX9_goWay_11 : decode cX9_goWay 11 = .ok (.istore_n 3, 1) := by decide +kernel
theorem dX9_goWay_12 : decode cX9_goWay 12 = .ok (.aload_n 0, 1) := by decide +kernel
theorem dX9_goWay_13 : decode cX9_goWay 13 = .ok (.getfield 60, 3) := by decide +kernel
theorem dX9_goWay_16 : decode cX9_goWay 16 = .ok (.iconst 0, 1) := by decide +kernel
theorem dX9_goWay_17 : decode cX9_goWay 17 = .ok (.iaload, 1) := by decide +kernel
theorem dX9_goWay_18 : decode cX9_goWay 18 = .ok (.aload_n 0, 1) := by decide +kernel
theorem dX9_goWay_19 : decode cX9_goWay 19 = .ok (.getfield 13, 3) := by decide +kernel
theorem dX9_goWay_22 : decode cX9_goWay 22 = .ok (.irem, 1) := by decide +kernel
theorem dX9_goWay_23 : decode cX9_goWay 23 = .ok (.istore 4, 2) := by decide +kernel
theorem dX9_goWay_25 : decode cX9_goWay 25 = .ok (.iload_n 2, 1) := by decide +kernel
theorem dX9_goWay_26 : decode cX9_goWay 26 = .ok (.ifCond .eq 7, 3) := by decide +kernel
theorem dX9_goWay_29 : decode cX9_goWay 29 = .ok (.iconst 0, 1) := by decide +kernel
theorem dX9_goWay_30 : decode cX9_goWay 30 = .ok (.goto 7, 3) := by decide +kernel
theorem dX9_goWay_33 : decode cX9_goWay 33 = .ok (.aload_n 0, 1) := by decide +kernel
theorem dX9_goWay_34 : decode cX9_goWay 34 = .ok (.getfield 128, 3) := by decide +kernel
theorem dX9_goWay_37 : decode cX9_goWay 37 = .ok (.istore 5, 2) := by decide +kernel
theorem dX9_goWay_39 : decode cX9_goWay 39 = .ok (.iload_n 1, 1) := by decide +kernel
theorem dX9_goWay_40 : decode cX9_goWay 40 = .ok (.ifCond .ne 81, 3) := by decide +kernel
theorem dX9_goWay_43 : decode cX9_goWay 43 = .ok (.iload 4, 2) := by decide +kernel
theorem dX9_goWay_45 : decode cX9_goWay 45 = .ok (.ifCond .ne 7, 3) := by decide +kernel
theorem dX9_goWay_48 : decode cX9_goWay 48 = .ok (.iconst 1, 1) := by decide +kernel
theorem dX9_goWay_49 : decode cX9_goWay 49 = .ok (.goto 4, 3) := by decide +kernel
theorem dX9_goWay_52 : decode cX9_goWay 52 = .ok (.iconst 0, 1) := by decide +kernel
theorem dX9_goWay_53 : decode cX9_goWay 53 = .ok (.istore 6, 2) := by decide +kernel
theorem dX9_goWay_55 : decode cX9_goWay 55 = .ok (.iload 6, 2) := by decide +kernel
theorem dX9_goWay_57 : decode cX9_goWay 57 = .ok (.ifCond .eq 20, 3) := by decide +kernel
theorem dX9_goWay_60 : decode cX9_goWay 60 = .ok (.iload_n 3, 1) := by decide +kernel
theorem dX9_goWay_61 : decode cX9_goWay 61 = .ok (.aload_n 0, 1) := by decide +kernel
theorem dX9_goWay_62 : decode cX9_goWay 62 = .ok (.getfield 17, 3) := by decide +kernel
theorem dX9_goWay_65 : decode cX9_goWay 65 = .ok (.iadd, 1) := by decide +kernel
theorem dX9_goWay_66 : decode cX9_goWay 66 = .ok (.iload 5, 2) := by decide +kernel
theorem dX9_goWay_68 : decode cX9_goWay 68 = .ok (.isub, 1) := by decide +kernel
theorem dX9_goWay_69 : decode cX9_goWay 69 = .ok (.aload_n 0, 1) := by decide +kernel
theorem dX9_goWay_70 : decode cX9_goWay 70 = .ok (.getfield 17, 3) := by decide +kernel
theorem dX9_goWay_73 : decode cX9_goWay 73 = .ok (.irem, 1) := by decide +kernel
theorem dX9_goWay_74 : decode cX9_goWay 74 = .ok (.goto 4, 3) := by decide +kernel
theorem dX9_goWay_77 : decode cX9_goWay 77 = .ok (.iload_n 3, 1) := by decide +kernel
theorem dX9_goWay_78 : decode cX9_goWay 78 = .ok (.istore_n 3, 1) := by decide +kernel
theorem dX9_goWay_79 : decode cX9_goWay 79 = .ok (.aload_n 0, 1) := by decide +kernel
theorem dX9_goWay_80 : decode cX9_goWay 80 = .ok (.getfield 60, 3) := by decide +kernel
theorem dX9_goWay_83 : decode cX9_goWay 83 = .ok (.iconst 1, 1) := by decide +kernel
theorem dX9_goWay_84 : decode cX9_goWay 84 = .ok (.dup2, 1) := by decide +kernel
theorem dX9_goWay_85 : decode cX9_goWay 85 = .ok (.iaload, 1) := by decide +kernel
theorem dX9_goWay_86 : decode cX9_goWay 86 = .ok (.iload 6, 2) := by decide +kernel
theorem dX9_goWay_88 : decode cX9_goWay 88 = .ok (.ifCond .eq 7, 3) := by decide +kernel
theorem dX9_goWay_91 : decode cX9_goWay 91 = .ok (.iconst 1, 1) := by decide +kernel
theorem dX9_goWay_92 : decode cX9_goWay 92 = .ok (.goto 4, 3) := by decide +kernel
theorem dX9_goWay_95 : decode cX9_goWay 95 = .ok (.iconst 0, 1) := by decide +kernel
theorem dX9_goWay_96 : decode cX9_goWay 96 = .ok (.isub, 1) := by decide +kernel
theorem dX9_goWay_97 : decode cX9_goWay 97 = .ok (.iastore, 1) := by decide +kernel
theorem dX9_goWay_98 : decode cX9_goWay 98 = .ok (.iload 6, 2) := by decide +kernel
theorem dX9_goWay_100 : decode cX9_goWay 100 = .ok (.ifCond .eq 12, 3) := by decide +kernel
theorem dX9_goWay_103 : decode cX9_goWay 103 = .ok (.aload_n 0, 1) := by decide +kernel
theorem dX9_goWay_104 : decode cX9_goWay 104 = .ok (.getfield 13, 3) := by decide +kernel
theorem dX9_goWay_107 : decode cX9_goWay 107 = .ok (.iconst 1, 1) := by decide +kernel
theorem dX9_goWay_108 : decode cX9_goWay 108 = .ok (.isub, 1) := by decide +kernel
theorem dX9_goWay_109 : decode cX9_goWay 109 = .ok (.goto 7, 3) := by decide +kernel
theorem dX9_goWay_112 : decode cX9_goWay 112 = .ok (.iload 4, 2) := by decide +kernel
theorem dX9_goWay_114 : decode cX9_goWay 114 = .ok (.iconst 1, 1) := by decide +kernel
theorem dX9_goWay_115 : decode cX9_goWay 115 = .ok (.isub, 1) := by decide +kernel
theorem dX9_goWay_116 : decode cX9_goWay 116 = .ok (.istore 4, 2) := by decide +kernel
theorem dX9_goWay_118 : decode cX9_goWay 118 = .ok (.goto 167, 3) := by decide +kernel
theorem dX9_goWay_121 : decode cX9_goWay 121 = .ok (.iload_n 1, 1) := by decide +kernel
theorem dX9_goWay_122 : decode cX9_goWay 122 = .ok (.iconst 1, 1) := by decide +kernel
theorem dX9_goWay_123 : decode cX9_goWay 123 = .ok (.if_icmp .ne 77, 3) := by decide +kernel
theorem dX9_goWay_126 : decode cX9_goWay 126 = .ok (.iload 4, 2) := by decide +kernel
theorem dX9_goWay_128 : decode cX9_goWay 128 = .ok (.aload_n 0, 1) := by decide +kernel
theorem dX9_goWay_129 : decode cX9_goWay 129 = .ok (.getfield 13, 3) := by decide +kernel
theorem dX9_goWay_132 : decode cX9_goWay 132 = .ok (.iconst 1, 1) := by decide +kernel
theorem dX9_goWay_133 : decode cX9_goWay 133 = .ok (.isub, 1) := by decide +kernel
theorem dX9_goWay_134 : decode cX9_goWay 134 = .ok (.if_icmp .ne 7, 3) := by decide +kernel
theorem dX9_goWay_137 : decode cX9_goWay 137 = .ok (.iconst 1, 1) := by decide +kernel
theorem dX9_goWay_138 : decode cX9_goWay 138 = .ok (.goto 4, 3) := by decide +kernel
theorem dX9_goWay_141 : decode cX9_goWay 141 = .ok (.iconst 0, 1) := by decide +kernel
theorem dX9_goWay_142 : decode cX9_goWay 142 = .ok (.istore 6, 2) := by decide +kernel
theorem dX9_goWay_144 : decode cX9_goWay 144 = .ok (.iload 6, 2) := by decide +kernel
theorem dX9_goWay_146 : decode cX9_goWay 146 = .ok (.ifCond .eq 15, 3) := by decide +kernel
theorem dX9_goWay_149 : decode cX9_goWay 149 = .ok (.iload_n 3, 1) := by decide +kernel
theorem dX9_goWay_150 : decode cX9_goWay 150 = .ok (.iload 5, 2) := by decide +kernel
theorem dX9_goWay_152 : decode cX9_goWay 152 = .ok (.iadd, 1) := by decide +kernel
theorem dX9_goWay_153 : decode cX9_goWay 153 = .ok (.aload_n 0, 1) := by decide +kernel
theorem dX9_goWay_154 : decode cX9_goWay 154 = .ok (.getfield 17, 3) := by decide +kernel
theorem dX9_goWay_157 : decode cX9_goWay 157 = .ok (.irem, 1) := by decide +kernel
theorem dX9_goWay_158 : decode cX9_goWay 158 = .ok (.goto 4, 3) := by decide +kernel
theorem dX9_goWay_161 : decode cX9_goWay 161 = .ok (.iload_n 3, 1) := by decide +kernel
theorem dX9_goWay_162 : decode cX9_goWay 162 = .ok (.istore_n 3, 1) := by decide +kernel
theorem dX9_goWay_163 : decode cX9_goWay 163 = .ok (.aload_n 0, 1) := by decide +kernel
theorem dX9_goWay_164 : decode cX9_goWay 164 = .ok (.getfield 60, 3) := by decide +kernel
theorem dX9_goWay_167 : decode cX9_goWay 167 = .ok (.iconst 1, 1) := by decide +kernel
theorem dX9_goWay_168 : decode cX9_goWay 168 = .ok (.dup2, 1) := by decide +kernel
theorem dX9_goWay_169 : decode cX9_goWay 169 = .ok (.iaload, 1) := by decide +kernel
theorem dX9_goWay_170 : decode cX9_goWay 170 = .ok (.iload 6, 2) := by decide +kernel
theorem dX9_goWay_172 : decode cX9_goWay 172 = .ok (.ifCond .eq 7, 3) := by decide +kernel
theorem dX9_goWay_175 : decode cX9_goWay 175 = .ok (.iconst 1, 1) := by decide +kernel
theorem dX9_goWay_176 : decode cX9_goWay 176 = .ok (.goto 4, 3) := by decide +kernel
theorem dX9_goWay_179 : decode cX9_goWay 179 = .ok (.iconst 0, 1) := by decide +kernel
theorem dX9_goWay_180 : decode cX9_goWay 180 = .ok (.iadd, 1) := by decide +kernel
theorem dX9_goWay_181 : decode cX9_goWay 181 = .ok (.iastore, 1) := by decide +kernel
theorem dX9_goWay_182 : decode cX9_goWay 182 = .ok (.iload 6, 2) := by decide +kernel
theorem dX9_goWay_184 : decode cX9_goWay 184 = .ok (.ifCond .eq 7, 3) := by decide +kernel
theorem dX9_goWay_187 : decode cX9_goWay 187 = .ok (.iconst 0, 1) := by decide +kernel
theorem dX9_goWay_188 : decode cX9_goWay 188 = .ok (.goto 7, 3) := by decide +kernel
theorem dX9_goWay_191 : decode cX9_goWay 191 = .ok (.iload 4, 2) := by decide +kernel
theorem dX9_goWay_193 : decode cX9_goWay 193 = .ok (.iconst 1, 1) := by decide +kernel
theorem dX9_goWay_194 : decode cX9_goWay 194 = .ok (.iadd, 1) := by decide +kernel
theorem dX9_goWay_195 : decode cX9_goWay 195 = .ok (.istore 4, 2) := by decide +kernel
theorem dX9_goWay_197 : decode cX9_goWay 197 = .ok (.goto 88, 3) := by decide +kernel
theorem dX9_goWay_200 : decode cX9_goWay 200 = .ok (.iload_n 1, 1) := by decide +kernel
theorem dX9_goWay_201 : decode cX9_goWay 201 = .ok (.iconst 2, 1) := by decide +kernel
theorem dX9_goWay_202 : decode cX9_goWay 202 = .ok (.if_icmp .ne 41, 3) := by decide +kernel
theorem dX9_goWay_205 : decode cX9_goWay 205 = .ok (.aload_n 0, 1) := by decide +kernel
theorem dX9_goWay_206 : decode cX9_goWay 206 = .ok (.getfield 60, 3) := by decide +kernel
theorem dX9_goWay_209 : decode cX9_goWay 209 = .ok (.iconst 2, 1) := by decide +kernel
theorem dX9_goWay_210 : decode cX9_goWay 210 = .ok (.dup2, 1) := by decide +kernel
theorem dX9_goWay_211 : decode cX9_goWay 211 = .ok (.iaload, 1) := by decide +kernel
theorem dX9_goWay_212 : decode cX9_goWay 212 = .ok (.iload_n 3, 1) := by decide +kernel
theorem dX9_goWay_213 : decode cX9_goWay 213 = .ok (.ifCond .ne 7, 3) := by decide +kernel
theorem dX9_goWay_216 : decode cX9_goWay 216 = .ok (.iconst 1, 1) := by decide +kernel
theorem dX9_goWay_217 : decode cX9_goWay 217 = .ok (.goto 4, 3) := by decide +kernel
theorem dX9_goWay_220 : decode cX9_goWay 220 = .ok (.iconst 0, 1) := by decide +kernel
theorem dX9_goWay_221 : decode cX9_goWay 221 = .ok (.isub, 1) := by decide +kernel
theorem dX9_goWay_222 : decode cX9_goWay 222 = .ok (.iastore, 1) := by decide +kernel
theorem dX9_goWay_223 : decode cX9_goWay 223 = .ok (.iload_n 3, 1) := by decide +kernel
theorem dX9_goWay_224 : decode cX9_goWay 224 = .ok (.ifCond .ne 12, 3) := by decide +kernel
theorem dX9_goWay_227 : decode cX9_goWay 227 = .ok (.aload_n 0, 1) := by decide +kernel
theorem dX9_goWay_228 : decode cX9_goWay 228 = .ok (.getfield 17, 3) := by decide +kernel
theorem dX9_goWay_231 : decode cX9_goWay 231 = .ok (.iconst 1, 1) := by decide +kernel
theorem dX9_goWay_232 : decode cX9_goWay 232 = .ok (.isub, 1) := by decide +kernel
theorem dX9_goWay_233 : decode cX9_goWay 233 = .ok (.goto 6, 3) := by decide +kernel
theorem dX9_goWay_236 : decode cX9_goWay 236 = .ok (.iload_n 3, 1) := by decide +kernel
theorem dX9_goWay_237 : decode cX9_goWay 237 = .ok (.iconst 1, 1) := by decide +kernel
theorem dX9_goWay_238 : decode cX9_goWay 238 = .ok (.isub, 1) := by decide +kernel
theorem dX9_goWay_239 : decode cX9_goWay 239 = .ok (.istore_n 3, 1) := by decide +kernel
theorem dX9_goWay_240 : decode cX9_goWay 240 = .ok (.goto 45, 3) := by decide +kernel
theorem dX9_goWay_243 : decode cX9_goWay 243 = .ok (.aload_n 0, 1) := by decide +kernel
theorem dX9_goWay_244 : decode cX9_goWay 244 = .ok (.getfield 60, 3) := by decide +kernel
theorem dX9_goWay_247 : decode cX9_goWay 247 = .ok (.iconst 2, 1) := by decide +kernel
theorem dX9_goWay_248 : decode cX9_goWay 248 = .ok (.dup2, 1) := by decide +kernel
theorem dX9_goWay_249 : decode cX9_goWay 249 = .ok (.iaload, 1) := by decide +kernel
theorem dX9_goWay_250 : decode cX9_goWay 250 = .ok (.iload_n 3, 1) := by decide +kernel
theorem dX9_goWay_251 : decode cX9_goWay 251 = .ok (.aload_n 0, 1) := by decide +kernel
theorem dX9_goWay_252 : decode cX9_goWay 252 = .ok (.getfield 17, 3) := by decide +kernel
theorem dX9_goWay_255 : decode cX9_goWay 255 = .ok (.iconst 1, 1) := by decide +kernel
theorem dX9_goWay_256 : decode cX9_goWay 256 = .ok (.isub, 1) := by decide +kernel
theorem dX9_goWay_257 : decode cX9_goWay 257 = .ok (.if_icmp .ne 7, 3) := by decide +kernel
theorem dX9_goWay_260 : decode cX9_goWay 260 = .ok (.iconst 1, 1) := by decide +kernel
theorem dX9_goWay_261 : decode cX9_goWay 261 = .ok (.goto 4, 3) := by decide +kernel
theorem dX9_goWay_264 : decode cX9_goWay 264 = .ok (.iconst 0, 1) := by decide +kernel
theorem dX9_goWay_265 : decode cX9_goWay 265 = .ok (.iadd, 1) := by decide +kernel
theorem dX9_goWay_266 : decode cX9_goWay 266 = .ok (.iastore, 1) := by decide +kernel
theorem dX9_goWay_267 : decode cX9_goWay 267 = .ok (.iload_n 3, 1) := by decide +kernel
theorem dX9_goWay_268 : decode cX9_goWay 268 = .ok (.aload_n 0, 1) := by decide +kernel
theorem dX9_goWay_269 : decode cX9_goWay 269 = .ok (.getfield 17, 3) := by decide +kernel
theorem dX9_goWay_272 : decode cX9_goWay 272 = .ok (.iconst 1, 1) := by decide +kernel
theorem dX9_goWay_273 : decode cX9_goWay 273 = .ok (.isub, 1) := by decide +kernel
theorem dX9_goWay_274 : decode cX9_goWay 274 = .ok (.if_icmp .ne 7, 3) := by decide +kernel
theorem dX9_goWay_277 : decode cX9_goWay 277 = .ok (.iconst 0, 1) := by decide +kernel
theorem dX9_goWay_278 : decode cX9_goWay 278 = .ok (.goto 6, 3) := by decide +kernel
theorem dX9_goWay_281 : decode cX9_goWay 281 = .ok (.iload_n 3, 1) := by decide +kernel
theorem dX9_goWay_282 : decode cX9_goWay 282 = .ok (.iconst 1, 1) := by decide +kernel
theorem dX9_goWay_283 : decode cX9_goWay 283 = .ok (.iadd, 1) := by decide +kernel
theorem dX9_goWay_284 : decode cX9_goWay 284 = .ok (.istore_n 3, 1) := by decide +kernel
theorem dX9_goWay_285 : decode cX9_goWay 285 = .ok (.aload_n 0, 1) := by decide +kernel
theorem dX9_goWay_286 : decode cX9_goWay 286 = .ok (.getfield 60, 3) := by decide +kernel
theorem dX9_goWay_289 : decode cX9_goWay 289 = .ok (.iconst 0, 1) := by decide +kernel
theorem dX9_goWay_290 : decode cX9_goWay 290 = .ok (.iload_n 3, 1) := by decide +kernel
theorem dX9_goWay_291 : decode cX9_goWay 291 = .ok (.aload_n 0, 1) := by decide +kernel
theorem dX9_goWay_292 : decode cX9_goWay 292 = .ok (.getfield 13, 3) := by decide +kernel
theorem dX9_goWay_295 : decode cX9_goWay 295 = .ok (.imul, 1) := by decide +kernel
theorem dX9_goWay_296 : decode cX9_goWay 296 = .ok (.iload 4, 2) := by decide +kernel
theorem dX9_goWay_298 : decode cX9_goWay 298 = .ok (.iadd, 1) := by decide +kernel
theorem dX9_goWay_299 : decode cX9_goWay 299 = .ok (.iastore, 1) := by decide +kernel
theorem dX9_goWay_300 : decode cX9_goWay 300 = .ok (.return_, 1) := by decide +kernel
theorem dX9_isThere_0 : decode cX9_isThere 0 = .ok (.aload_n 0, 1) := by decide +kernel
theorem dX9_isThere_1 : decode cX9_isThere 1 = .ok (.getfield 60, 3) := by decide +kernel
theorem dX9_isThere_4 : decode cX9_isThere 4 = .ok (.iconst 1, 1) := by decide +kernel
theorem dX9_isThere_5 : decode cX9_isThere 5 = .ok (.iaload, 1) := by decide +kernel
theorem dX9_isThere_6 : decode cX9_isThere 6 = .ok (.i2l, 1) := by decide +kernel
theorem dX9_isThere_7 : decode cX9_isThere 7 = .ok (.lconst 0, 1) := by decide +kernel
theorem dX9_isThere_8 : decode cX9_isThere 8 = .ok (.ldc2_w 138, 3) := by decide +kernel
theorem dX9_isThere_11 : decode cX9_isThere 11 = .ok (.invokestatic 81, 3) := by decide +kernel
theorem dX9_isThere_14 : decode cX9_isThere 14 = .ok (.ifCond .eq 24, 3) := by decide +kernel
theorem dX9_isThere_17 : decode cX9_isThere 17 = .ok (.aload_n 0, 1) := by decide +kernel
theorem dX9_isThere_18 : decode cX9_isThere 18 = .ok (.getfield 60, 3) := by decide +kernel
theorem dX9_isThere_21 : decode cX9_isThere 21 = .ok (.iconst 2, 1) := by decide +kernel
theorem dX9_isThere_22 : decode cX9_isThere 22 = .ok (.iaload, 1) := by decide +kernel
theorem dX9_isThere_23 : decode cX9_isThere 23 = .ok (.i2l, 1) := by decide +kernel
theorem dX9_isThere_24 : decode cX9_isThere 24 = .ok (.lconst 0, 1) := by decide +kernel
theorem dX9_isThere_25 : decode cX9_isThere 25 = .ok (.ldc2_w 138, 3) := by decide +kernel
theorem dX9_isThere_28 : decode cX9_isThere 28 = .ok (.invokestatic 81, 3) := by decide +kernel
theorem dX9_isThere_31 : decode cX9_isThere 31 = .ok (.ifCond .eq 7, 3) := by decide +kernel
theorem dX9_isThere_34 : decode cX9_isThere 34 = .ok (.iconst 1, 1) := by decide +kernel
theorem dX9_isThere_35 : decode cX9_isThere 35 = .ok (.goto 4, 3) := by decide +kernel
theorem dX9_isThere_38 : decode cX9_isThere 38 = .ok (.iconst 0, 1) := by decide +kernel
theorem dX9_isThere_39 : decode cX9_isThere 39 = .ok (.ireturn, 1) := by decide +kernel
theorem dX9_cellBeside_0 : decode cX9_cellBeside 0 = .ok (.aload_n 0, 1) := by decide +kernel
theorem dX9_cellBeside_1 : decode cX9_cellBeside 1 = .ok (.getfield 60, 3) := by decide +kernel
theorem dX9_cellBeside_4 : decode cX9_cellBeside 4 = .ok (.iconst 0, 1) := by decide +kernel
theorem dX9_cellBeside_5 : decode cX9_cellBeside 5 = .ok (.iload_n 1, 1) := by decide +kernel
theorem dX9_cellBeside_6 : decode cX9_cellBeside 6 = .ok (.iastore, 1) := by decide +kernel
theorem dX9_cellBeside_7 : decode cX9_cellBeside 7 = .ok (.aload_n 0, 1) := by decide +kernel
theorem dX9_cellBeside_8 : decode cX9_cellBeside 8 = .ok (.getfield 60, 3) := by decide +kernel
theorem dX9_cellBeside_11 : decode cX9_cellBeside 11 = .ok (.iconst 1, 1) := by decide +kernel
theorem dX9_cellBeside_12 : decode cX9_cellBeside 12 = .ok (.iconst 3, 1) := by decide +kernel
theorem dX9_cellBeside_13 : decode cX9_cellBeside 13 = .ok (.iastore, 1) := by decide +kernel
theorem dX9_cellBeside_14 : decode cX9_cellBeside 14 = .ok (.aload_n 0, 1) := by decide +kernel
theorem dX9_cellBeside_15 : decode cX9_cellBeside 15 = .ok (.getfield 60, 3) := by decide +kernel
theorem dX9_cellBeside_18 : decode cX9_cellBeside 18 = .ok (.iconst 2, 1) := by decide +kernel
theorem dX9_cellBeside_19 : decode cX9_cellBeside 19 = .ok (.iconst 3, 1) := by decide +kernel
theorem dX9_cellBeside_20 : decode cX9_cellBeside 20 = .ok (.iastore, 1) := by decide +kernel
theorem dX9_cellBeside_21 : decode cX9_cellBeside 21 = .ok (.aload_n 0, 1) := by decide +kernel
theorem dX9_cellBeside_22 : decode cX9_cellBeside 22 = .ok (.iload_n 2, 1) := by decide +kernel
theorem dX9_cellBeside_23 : decode cX9_cellBeside 23 = .ok (.iload_n 3, 1) := by decide +kernel
theorem dX9_cellBeside_24 : decode cX9_cellBeside 24 = .ok (.invokevirtual 140, 3) := by decide +kernel
theorem dX9_cellBeside_27 : decode cX9_cellBeside 27 = .ok (.aload_n 0, 1) := by decide +kernel
theorem dX9_cellBeside_28 : decode cX9_cellBeside 28 = .ok (.getfield 60, 3) := by decide +kernel
theorem dX9_cellBeside_31 : decode cX9_cellBeside 31 = .ok (.iconst 0, 1) := by decide +kernel
theorem dX9_cellBeside_32 : decode cX9_cellBeside 32 = .ok (.iaload, 1) := by decide +kernel
theorem dX9_cellBeside_33 : decode cX9_cellBeside 33 = .ok (.ireturn, 1) := by decide +kernel
theorem dX9_canBe_0 : decode cX9_canBe 0 = .ok (.aload_n 0, 1) := by decide +kernel
theorem dX9_canBe_1 : decode cX9_canBe 1 = .ok (.aload_n 1, 1) := by decide +kernel
theorem dX9_canBe_2 : decode cX9_canBe 2 = .ok (.iload_n 3, 1) := by decide +kernel
theorem dX9_canBe_3 : decode cX9_canBe 3 = .ok (.invokevirtual 144, 3) := by decide +kernel
theorem dX9_canBe_6 : decode cX9_canBe 6 = .ok (.istore 4, 2) := by decide +kernel
theorem dX9_canBe_8 : decode cX9_canBe 8 = .ok (.aload_n 0, 1) := by decide +kernel
theorem dX9_canBe_9 : decode cX9_canBe 9 = .ok (.getfield 26, 3) := by decide +kernel
theorem dX9_canBe_12 : decode cX9_canBe 12 = .ok (.iload_n 2, 1) := by decide +kernel
theorem dX9_canBe_13 : decode cX9_canBe 13 = .ok (.iaload, 1) := by decide +kernel
theorem dX9_canBe_14 : decode cX9_canBe 14 = .ok (.iconst 1, 1) := by decide +kernel
theorem dX9_canBe_15 : decode cX9_canBe 15 = .ok (.if_icmp .eq 25, 3) := by decide +kernel
theorem dX9_canBe_18 : decode cX9_canBe 18 = .ok (.iload 4, 2) := by decide +kernel
theorem dX9_canBe_20 : decode cX9_canBe 20 = .ok (.iconst 1, 1) := by decide +kernel
theorem dX9_canBe_21 : decode cX9_canBe 21 = .ok (.if_icmp .eq 23, 3) := by decide +kernel
theorem dX9_canBe_24 : decode cX9_canBe 24 = .ok (.aload_n 0, 1) := by decide +kernel
theorem dX9_canBe_25 : decode cX9_canBe 25 = .ok (.getfield 26, 3) := by decide +kernel
theorem dX9_canBe_28 : decode cX9_canBe 28 = .ok (.iload_n 2, 1) := by decide +kernel
theorem dX9_canBe_29 : decode cX9_canBe 29 = .ok (.iaload, 1) := by decide +kernel
theorem dX9_canBe_30 : decode cX9_canBe 30 = .ok (.iconst 2, 1) := by decide +kernel
theorem dX9_canBe_31 : decode cX9_canBe 31 = .ok (.if_icmp .ne 9, 3) := by decide +kernel
theorem dX9_canBe_34 : decode cX9_canBe 34 = .ok (.iload 4, 2) := by decide +kernel
theorem dX9_canBe_36 : decode cX9_canBe 36 = .ok (.iconst 2, 1) := by decide +kernel
theorem dX9_canBe_37 : decode cX9_canBe 37 = .ok (.if_icmp .eq 7, 3) := by decide +kernel
theorem dX9_canBe_40 : decode cX9_canBe 40 = .ok (.iconst 1, 1) := by decide +kernel
theorem dX9_canBe_41 : decode cX9_canBe 41 = .ok (.goto 4, 3) := by decide +kernel
theorem dX9_canBe_44 : decode cX9_canBe 44 = .ok (.iconst 0, 1) := by decide +kernel
theorem dX9_canBe_45 : decode cX9_canBe 45 = .ok (.ireturn, 1) := by decide +kernel
theorem dX9_stand_0 : decode cX9_stand 0 = .ok (.aload_n 0, 1) := by decide +kernel
theorem dX9_stand_1 : decode cX9_stand 1 = .ok (.getfield 60, 3) := by decide +kernel
theorem dX9_stand_4 : decode cX9_stand 4 = .ok (.iconst 0, 1) := by decide +kernel
theorem dX9_stand_5 : decode cX9_stand 5 = .ok (.aload_n 1, 1) := by decide +kernel
theorem dX9_stand_6 : decode cX9_stand 6 = .ok (.iload_n 2, 1) := by decide +kernel
theorem dX9_stand_7 : decode cX9_stand 7 = .ok (.iaload, 1) := by decide +kernel
theorem dX9_stand_8 : decode cX9_stand 8 = .ok (.iastore, 1) := by decide +kernel
theorem dX9_stand_9 : decode cX9_stand 9 = .ok (.aload_n 0, 1) := by decide +kernel
theorem dX9_stand_10 : decode cX9_stand 10 = .ok (.getfield 60, 3) := by decide +kernel
theorem dX9_stand_13 : decode cX9_stand 13 = .ok (.iconst 1, 1) := by decide +kernel
theorem dX9_stand_14 : decode cX9_stand 14 = .ok (.aload_n 1, 1) := by decide +kernel
theorem dX9_stand_15 : decode cX9_stand 15 = .ok (.iconst 5, 1) := by decide +kernel
theorem dX9_stand_16 : decode cX9_stand 16 = .ok (.iload_n 2, 1) := by decide +kernel
theorem dX9_stand_17 : decode cX9_stand 17 = .ok (.iadd, 1) := by decide +kernel
theorem dX9_stand_18 : decode cX9_stand 18 = .ok (.iaload, 1) := by decide +kernel
theorem dX9_stand_19 : decode cX9_stand 19 = .ok (.iastore, 1) := by decide +kernel
theorem dX9_stand_20 : decode cX9_stand 20 = .ok (.aload_n 0, 1) := by decide +kernel
theorem dX9_stand_21 : decode cX9_stand 21 = .ok (.getfield 60, 3) := by decide +kernel
theorem dX9_stand_24 : decode cX9_stand 24 = .ok (.iconst 2, 1) := by decide +kernel
theorem dX9_stand_25 : decode cX9_stand 25 = .ok (.aload_n 1, 1) := by decide +kernel
theorem dX9_stand_26 : decode cX9_stand 26 = .ok (.bipush 10, 2) := by decide +kernel
theorem dX9_stand_28 : decode cX9_stand 28 = .ok (.iload_n 2, 1) := by decide +kernel
theorem dX9_stand_29 : decode cX9_stand 29 = .ok (.iadd, 1) := by decide +kernel
theorem dX9_stand_30 : decode cX9_stand 30 = .ok (.iaload, 1) := by decide +kernel
theorem dX9_stand_31 : decode cX9_stand 31 = .ok (.iastore, 1) := by decide +kernel
theorem dX9_stand_32 : decode cX9_stand 32 = .ok (.return_, 1) := by decide +kernel
theorem dX9_canGo_0 : decode cX9_canGo 0 = .ok (.aload_n 0, 1) := by decide +kernel
theorem dX9_canGo_1 : decode cX9_canGo 1 = .ok (.aload_n 1, 1) := by decide +kernel
theorem dX9_canGo_2 : decode cX9_canGo 2 = .ok (.iload_n 2, 1) := by decide +kernel
theorem dX9_canGo_3 : decode cX9_canGo 3 = .ok (.invokevirtual 148, 3) := by decide +kernel
theorem dX9_canGo_6 : decode cX9_canGo 6 = .ok (.aload_n 0, 1) := by decide +kernel
theorem dX9_canGo_7 : decode cX9_canGo 7 = .ok (.iload_n 3, 1) := by decide +kernel
theorem dX9_canGo_8 : decode cX9_canGo 8 = .ok (.aload_n 0, 1) := by decide +kernel
theorem dX9_canGo_9 : decode cX9_canGo 9 = .ok (.getfield 26, 3) := by decide +kernel
theorem dX9_canGo_12 : decode cX9_canGo 12 = .ok (.iload_n 2, 1) := by decide +kernel
theorem dX9_canGo_13 : decode cX9_canGo 13 = .ok (.iaload, 1) := by decide +kernel
theorem dX9_canGo_14 : decode cX9_canGo 14 = .ok (.iconst 3, 1) := by decide +kernel
theorem dX9_canGo_15 : decode cX9_canGo 15 = .ok (.if_icmp .ne 7, 3) := by decide +kernel
theorem dX9_canGo_18 : decode cX9_canGo 18 = .ok (.iconst 1, 1) := by decide +kernel
theorem dX9_canGo_19 : decode cX9_canGo 19 = .ok (.goto 4, 3) := by decide +kernel
theorem dX9_canGo_22 : decode cX9_canGo 22 = .ok (.iconst 0, 1) := by decide +kernel
theorem dX9_canGo_23 : decode cX9_canGo 23 = .ok (.invokevirtual 140, 3) := by decide +kernel
theorem dX9_canGo_26 : decode cX9_canGo 26 = .ok (.aload_n 0, 1) := by decide +kernel
theorem dX9_canGo_27 : decode cX9_canGo 27 = .ok (.invokevirtual 152, 3) := by decide +kernel
theorem dX9_canGo_30 : decode cX9_canGo 30 = .ok (.ifCond .eq 22, 3) := by decide +kernel
theorem dX9_canGo_33 : decode cX9_canGo 33 = .ok (.aload_n 0, 1) := by decide +kernel
theorem dX9_canGo_34 : decode cX9_canGo 34 = .ok (.aload_n 1, 1) := by decide +kernel
theorem dX9_canGo_35 : decode cX9_canGo 35 = .ok (.iload_n 2, 1) := by decide +kernel
theorem dX9_canGo_36 : decode cX9_canGo 36 = .ok (.aload_n 0, 1) := by decide +kernel
theorem dX9_canGo_37 : decode cX9_canGo 37 = .ok (.getfield 60, 3) := by decide +kernel
theorem dX9_canGo_40 : decode cX9_canGo 40 = .ok (.iconst 0, 1) := by decide +kernel
theorem dX9_canGo_41 : decode cX9_canGo 41 = .ok (.iaload, 1) := by decide +kernel
theorem dX9_canGo_42 : decode cX9_canGo 42 = .ok (.invokevirtual 155, 3) := by decide +kernel
theorem dX9_canGo_45 : decode cX9_canGo 45 = .ok (.ifCond .eq 7, 3) := by decide +kernel
theorem dX9_canGo_48 : decode cX9_canGo 48 = .ok (.iconst 1, 1) := by decide +kernel
theorem dX9_canGo_49 : decode cX9_canGo 49 = .ok (.goto 4, 3) := by decide +kernel
theorem dX9_canGo_52 : decode cX9_canGo 52 = .ok (.iconst 0, 1) := by decide +kernel
theorem dX9_canGo_53 : decode cX9_canGo 53 = .ok (.ireturn, 1) := by decide +kernel
theorem dX9_goStep_0 : decode cX9_goStep 0 = .ok (.aload_n 0, 1) := by decide +kernel
theorem dX9_goStep_1 : decode cX9_goStep 1 = .ok (.aload_n 1, 1) := by decide +kernel
theorem dX9_goStep_2 : decode cX9_goStep 2 = .ok (.iload_n 2, 1) := by decide +kernel
theorem dX9_goStep_3 : decode cX9_goStep 3 = .ok (.iload_n 3, 1) := by decide +kernel
theorem dX9_goStep_4 : decode cX9_goStep 4 = .ok (.invokevirtual 159, 3) := by decide +kernel
theorem dX9_goStep_7 : decode cX9_goStep 7 = .ok (.istore 4, 2) := by decide +kernel
theorem dX9_goStep_9 : decode cX9_goStep 9 = .ok (.iload 4, 2) := by decide +kernel
theorem dX9_goStep_11 : decode cX9_goStep 11 = .ok (.ifCond .eq 35, 3) := by decide +kernel
theorem dX9_goStep_14 : decode cX9_goStep 14 = .ok (.aload_n 1, 1) := by decide +kernel
theorem dX9_goStep_15 : decode cX9_goStep 15 = .ok (.iload_n 2, 1) := by decide +kernel
theorem dX9_goStep_16 : decode cX9_goStep 16 = .ok (.aload_n 0, 1) := by decide +kernel
theorem dX9_goStep_17 : decode cX9_goStep 17 = .ok (.getfield 60, 3) := by decide +kernel
theorem dX9_goStep_20 : decode cX9_goStep 20 = .ok (.iconst 0, 1) := by decide +kernel
theorem dX9_goStep_21 : decode cX9_goStep 21 = .ok (.iaload, 1) := by decide +kernel
theorem dX9_goStep_22 : decode cX9_goStep 22 = .ok (.iastore, 1) := by decide +kernel
theorem dX9_goStep_23 : decode cX9_goStep 23 = .ok (.aload_n 1, 1) := by decide +kernel
theorem dX9_goStep_24 : decode cX9_goStep 24 = .ok (.iconst 5, 1) := by decide +kernel
theorem dX9_goStep_25 : decode cX9_goStep 25 = .ok (.iload_n 2, 1) := by decide +kernel
theorem dX9_goStep_26 : decode cX9_goStep 26 = .ok (.iadd, 1) := by decide +kernel
theorem dX9_goStep_27 : decode cX9_goStep 27 = .ok (.aload_n 0, 1) := by decide +kernel
theorem dX9_goStep_28 : decode cX9_goStep 28 = .ok (.getfield 60, 3) := by decide +kernel
theorem dX9_goStep_31 : decode cX9_goStep 31 = .ok (.iconst 1, 1) := by decide +kernel
theorem dX9_goStep_32 : decode cX9_goStep 32 = .ok (.iaload, 1) := by decide +kernel
theorem dX9_goStep_33 : decode cX9_goStep 33 = .ok (.iastore, 1) := by decide +kernel
theorem dX9_goStep_34 : decode cX9_goStep 34 = .ok (.aload_n 1, 1) := by decide +kernel
theorem dX9_goStep_35 : decode cX9_goStep 35 = .ok (.bipush 10, 2) := by decide +kernel
theorem dX9_goStep_37 : decode cX9_goStep 37 = .ok (.iload_n 2, 1) := by decide +kernel
theorem dX9_goStep_38 : decode cX9_goStep 38 = .ok (.iadd, 1) := by decide +kernel
theorem dX9_goStep_39 : decode cX9_goStep 39 = .ok (.aload_n 0, 1) := by decide +kernel
theorem dX9_goStep_40 : decode cX9_goStep 40 = .ok (.getfield 60, 3) := by decide +kernel
theorem dX9_goStep_43 : decode cX9_goStep 43 = .ok (.iconst 2, 1) := by decide +kernel
theorem dX9_goStep_44 : decode cX9_goStep 44 = .ok (.iaload, 1) := by decide +kernel
theorem dX9_goStep_45 : decode cX9_goStep 45 = .ok (.iastore, 1) := by decide +kernel
theorem dX9_goStep_46 : decode cX9_goStep 46 = .ok (.iload 4, 2) := by decide +kernel
theorem dX9_goStep_48 : decode cX9_goStep 48 = .ok (.ireturn, 1) := by decide +kernel
theorem dX9_isHome_0 : decode cX9_isHome 0 = .ok (.aload_n 1, 1) := by decide +kernel
theorem dX9_isHome_1 : decode cX9_isHome 1 = .ok (.iload_n 2, 1) := by decide +kernel
theorem dX9_isHome_2 : decode cX9_isHome 2 = .ok (.iaload, 1) := by decide +kernel
theorem dX9_isHome_3 : decode cX9_isHome 3 = .ok (.aload_n 0, 1) := by decide +kernel
theorem dX9_isHome_4 : decode cX9_isHome 4 = .ok (.getfield 23, 3) := by decide +kernel
theorem dX9_isHome_7 : decode cX9_isHome 7 = .ok (.iload_n 2, 1) := by decide +kernel
theorem dX9_isHome_8 : decode cX9_isHome 8 = .ok (.iaload, 1) := by decide +kernel
theorem dX9_isHome_9 : decode cX9_isHome 9 = .ok (.if_icmp .ne 26, 3) := by decide +kernel
theorem dX9_isHome_12 : decode cX9_isHome 12 = .ok (.aload_n 1, 1) := by decide +kernel
theorem dX9_isHome_13 : decode cX9_isHome 13 = .ok (.iconst 5, 1) := by decide +kernel
theorem dX9_isHome_14 : decode cX9_isHome 14 = .ok (.iload_n 2, 1) := by decide +kernel
theorem dX9_isHome_15 : decode cX9_isHome 15 = .ok (.iadd, 1) := by decide +kernel
theorem dX9_isHome_16 : decode cX9_isHome 16 = .ok (.iaload, 1) := by decide +kernel
theorem dX9_isHome_17 : decode cX9_isHome 17 = .ok (.iconst 3, 1) := by decide +kernel
theorem dX9_isHome_18 : decode cX9_isHome 18 = .ok (.if_icmp .ne 17, 3) := by decide +kernel
theorem dX9_isHome_21 : decode cX9_isHome 21 = .ok (.aload_n 1, 1) := by decide +kernel
theorem dX9_isHome_22 : decode cX9_isHome 22 = .ok (.bipush 10, 2) := by decide +kernel
theorem dX9_isHome_24 : decode cX9_isHome 24 = .ok (.iload_n 2, 1) := by decide +kernel
theorem dX9_isHome_25 : decode cX9_isHome 25 = .ok (.iadd, 1) := by decide +kernel
theorem dX9_isHome_26 : decode cX9_isHome 26 = .ok (.iaload, 1) := by decide +kernel
theorem dX9_isHome_27 : decode cX9_isHome 27 = .ok (.iconst 3, 1) := by decide +kernel
theorem dX9_isHome_28 : decode cX9_isHome 28 = .ok (.if_icmp .ne 7, 3) := by decide +kernel
theorem dX9_isHome_31 : decode cX9_isHome 31 = .ok (.iconst 1, 1) := by decide +kernel
theorem dX9_isHome_32 : decode cX9_isHome 32 = .ok (.goto 4, 3) := by decide +kernel
theorem dX9_isHome_35 : decode cX9_isHome 35 = .ok (.iconst 0, 1) := by decide +kernel
theorem dX9_isHome_36 : decode cX9_isHome 36 = .ok (.ireturn, 1) := by decide +kernel
theorem dX9_homes_0 : decode cX9_homes 0 = .ok (.iconst 0, 1) := by decide +kernel
theorem dX9_homes_1 : decode cX9_homes 1 = .ok (.istore_n 2, 1) := by decide +kernel
theorem dX9_homes_2 : decode cX9_homes 2 = .ok (.iconst 0, 1) := by decide +kernel
theorem dX9_homes_3 : decode cX9_homes 3 = .ok (.istore_n 3, 1) := by decide +kernel
theorem dX9_homes_4 : decode cX9_homes 4 = .ok (.iload_n 3, 1) := by decide +kernel
theorem dX9_homes_5 : decode cX9_homes 5 = .ok (.aload_n 0, 1) := by decide +kernel
theorem dX9_homes_6 : decode cX9_homes 6 = .ok (.getfield 78, 3) := by decide +kernel
theorem dX9_homes_9 : decode cX9_homes 9 = .ok (.if_icmp .ge 28, 3) := by decide +kernel
theorem dX9_homes_12 : decode cX9_homes 12 = .ok (.iload_n 2, 1) := by decide +kernel
theorem dX9_homes_13 : decode cX9_homes 13 = .ok (.aload_n 0, 1) := by decide +kernel
theorem dX9_homes_14 : decode cX9_homes 14 = .ok (.aload_n 1, 1) := by decide +kernel
theorem dX9_homes_15 : decode cX9_homes 15 = .ok (.iload_n 3, 1) := by decide +kernel
theorem dX9_homes_16 : decode cX9_homes 16 = .ok (.invokevirtual 162, 3) := by decide +kernel
theorem dX9_homes_19 : decode cX9_homes 19 = .ok (.ifCond .eq 9, 3) := by decide +kernel
theorem dX9_homes_22 : decode cX9_homes 22 = .ok (.iconst 1, 1) := by decide +kernel
theorem dX9_homes_23 : decode cX9_homes 23 = .ok (.iload_n 3, 1) := by decide +kernel
theorem dX9_homes_24 : decode cX9_homes 24 = .ok (.ishl, 1) := by decide +kernel
theorem dX9_homes_25 : decode cX9_homes 25 = .ok (.goto 4, 3) := by decide +kernel
theorem dX9_homes_28 : decode cX9_homes 28 = .ok (.iconst 0, 1) := by decide +kernel
theorem dX9_homes_29 : decode cX9_homes 29 = .ok (.ior, 1) := by decide +kernel
theorem dX9_homes_30 : decode cX9_homes 30 = .ok (.istore_n 2, 1) := by decide +kernel
theorem dX9_homes_31 : decode cX9_homes 31 = .ok (.iinc 3 1, 3) := by decide +kernel
theorem dX9_homes_34 : decode cX9_homes 34 = .ok (.goto (-30), 3) := by decide +kernel
theorem dX9_homes_37 : decode cX9_homes 37 = .ok (.iload_n 2, 1) := by decide +kernel
theorem dX9_homes_38 : decode cX9_homes 38 = .ok (.ireturn, 1) := by decide +kernel
theorem dX9_away_0 : decode cX9_away 0 = .ok (.aload_n 0, 1) := by decide +kernel
theorem dX9_away_1 : decode cX9_away 1 = .ok (.getfield 78, 3) := by decide +kernel
theorem dX9_away_4 : decode cX9_away 4 = .ok (.aload_n 0, 1) := by decide +kernel
theorem dX9_away_5 : decode cX9_away 5 = .ok (.aload_n 1, 1) := by decide +kernel
theorem dX9_away_6 : decode cX9_away 6 = .ok (.invokevirtual 166, 3) := by decide +kernel
theorem dX9_away_9 : decode cX9_away 9 = .ok (.invokestatic 170, 3) := by decide +kernel
theorem dX9_away_12 : decode cX9_away 12 = .ok (.isub, 1) := by decide +kernel
theorem dX9_away_13 : decode cX9_away 13 = .ok (.ireturn, 1) := by decide +kernel
theorem dX9_cellsOf_0 : decode cX9_cellsOf 0 = .ok (.iconst 0, 1) := by decide +kernel
theorem dX9_cellsOf_1 : decode cX9_cellsOf 1 = .ok (.istore_n 2, 1) := by decide +kernel
theorem dX9_cellsOf_2 : decode cX9_cellsOf 2 = .ok (.iconst 0, 1) := by decide +kernel
theorem dX9_cellsOf_3 : decode cX9_cellsOf 3 = .ok (.istore_n 3, 1) := by decide +kernel
theorem dX9_cellsOf_4 : decode cX9_cellsOf 4 = .ok (.iload_n 3, 1) := by decide +kernel
theorem dX9_cellsOf_5 : decode cX9_cellsOf 5 = .ok (.aload_n 0, 1) := by decide +kernel
theorem dX9_cellsOf_6 : decode cX9_cellsOf 6 = .ok (.getfield 13, 3) := by decide +kernel
theorem dX9_cellsOf_9 : decode cX9_cellsOf 9 = .ok (.aload_n 0, 1) := by decide +kernel
theorem dX9_cellsOf_10 : decode cX9_cellsOf 10 = .ok (.getfield 17, 3) := by decide +kernel
theorem dX9_cellsOf_13 : decode cX9_cellsOf 13 = .ok (.imul, 1) := by decide +kernel
theorem dX9_cellsOf_14 : decode cX9_cellsOf 14 = .ok (.if_icmp .ge 32, 3) := by decide +kernel
theorem dX9_cellsOf_17 : decode cX9_cellsOf 17 = .ok (.iload_n 2, 1) := by decide +kernel
theorem dX9_cellsOf_18 : decode cX9_cellsOf 18 = .ok (.aload_n 0, 1) := by decide +kernel
theorem dX9_cellsOf_19 : decode cX9_cellsOf 19 = .ok (.aload_n 0, 1) := by decide +kernel
theorem dX9_cellsOf_20 : decode cX9_cellsOf 20 = .ok (.getfield 35, 3) := by decide +kernel
theorem dX9_cellsOf_23 : decode cX9_cellsOf 23 = .ok (.iload_n 3, 1) := by decide +kernel
theorem dX9_cellsOf_24 : decode cX9_cellsOf 24 = .ok (.invokevirtual 144, 3) := by decide +kernel
theorem dX9_cellsOf_27 : decode cX9_cellsOf 27 = .ok (.iload_n 1, 1) := by decide +kernel
theorem dX9_cellsOf_28 : decode cX9_cellsOf 28 = .ok (.if_icmp .ne 9, 3) := by decide +kernel
theorem dX9_cellsOf_31 : decode cX9_cellsOf 31 = .ok (.iconst 1, 1) := by decide +kernel
theorem dX9_cellsOf_32 : decode cX9_cellsOf 32 = .ok (.iload_n 3, 1) := by decide +kernel
theorem dX9_cellsOf_33 : decode cX9_cellsOf 33 = .ok (.ishl, 1) := by decide +kernel
theorem dX9_cellsOf_34 : decode cX9_cellsOf 34 = .ok (.goto 4, 3) := by decide +kernel
theorem dX9_cellsOf_37 : decode cX9_cellsOf 37 = .ok (.iconst 0, 1) := by decide +kernel
theorem dX9_cellsOf_38 : decode cX9_cellsOf 38 = .ok (.ior, 1) := by decide +kernel
theorem dX9_cellsOf_39 : decode cX9_cellsOf 39 = .ok (.istore_n 2, 1) := by decide +kernel
theorem dX9_cellsOf_40 : decode cX9_cellsOf 40 = .ok (.iinc 3 1, 3) := by decide +kernel
theorem dX9_cellsOf_43 : decode cX9_cellsOf 43 = .ok (.goto (-39), 3) := by decide +kernel
theorem dX9_cellsOf_46 : decode cX9_cellsOf 46 = .ok (.iload_n 2, 1) := by decide +kernel
theorem dX9_cellsOf_47 : decode cX9_cellsOf 47 = .ok (.ireturn, 1) := by decide +kernel
theorem dX9_about_0 : decode cX9_about 0 = .ok (.aload_n 0, 1) := by decide +kernel
theorem dX9_about_1 : decode cX9_about 1 = .ok (.iconst 0, 1) := by decide +kernel
theorem dX9_about_2 : decode cX9_about 2 = .ok (.putfield 75, 3) := by decide +kernel
theorem dX9_about_5 : decode cX9_about 5 = .ok (.iload_n 1, 1) := by decide +kernel
theorem dX9_about_6 : decode cX9_about 6 = .ok (.tableswitch 110 0 10 #[58, 63, 68, 73, 78, 78, 78, 86, 95, 100, 105], 58) := by decide +kernel
theorem dX9_about_64 : decode cX9_about 64 = .ok (.aload_n 0, 1) := by decide +kernel
theorem dX9_about_65 : decode cX9_about 65 = .ok (.getfield 13, 3) := by decide +kernel
theorem dX9_about_68 : decode cX9_about 68 = .ok (.ireturn, 1) := by decide +kernel
theorem dX9_about_69 : decode cX9_about 69 = .ok (.aload_n 0, 1) := by decide +kernel
theorem dX9_about_70 : decode cX9_about 70 = .ok (.getfield 17, 3) := by decide +kernel
theorem dX9_about_73 : decode cX9_about 73 = .ok (.ireturn, 1) := by decide +kernel
theorem dX9_about_74 : decode cX9_about 74 = .ok (.aload_n 0, 1) := by decide +kernel
theorem dX9_about_75 : decode cX9_about 75 = .ok (.getfield 128, 3) := by decide +kernel
theorem dX9_about_78 : decode cX9_about 78 = .ok (.ireturn, 1) := by decide +kernel
theorem dX9_about_79 : decode cX9_about 79 = .ok (.aload_n 0, 1) := by decide +kernel
theorem dX9_about_80 : decode cX9_about 80 = .ok (.getfield 78, 3) := by decide +kernel
theorem dX9_about_83 : decode cX9_about 83 = .ok (.ireturn, 1) := by decide +kernel
theorem dX9_about_84 : decode cX9_about 84 = .ok (.aload_n 0, 1) := by decide +kernel
theorem dX9_about_85 : decode cX9_about 85 = .ok (.iload_n 1, 1) := by decide +kernel
theorem dX9_about_86 : decode cX9_about 86 = .ok (.iconst 3, 1) := by decide +kernel
theorem dX9_about_87 : decode cX9_about 87 = .ok (.isub, 1) := by decide +kernel
theorem dX9_about_88 : decode cX9_about 88 = .ok (.invokevirtual 174, 3) := by decide +kernel
theorem dX9_about_91 : decode cX9_about 91 = .ok (.ireturn, 1) := by decide +kernel
theorem dX9_about_92 : decode cX9_about 92 = .ok (.aload_n 0, 1) := by decide +kernel
theorem dX9_about_93 : decode cX9_about 93 = .ok (.aload_n 0, 1) := by decide +kernel
theorem dX9_about_94 : decode cX9_about 94 = .ok (.getfield 35, 3) := by decide +kernel
theorem dX9_about_97 : decode cX9_about 97 = .ok (.invokevirtual 166, 3) := by decide +kernel
theorem dX9_about_100 : decode cX9_about 100 = .ok (.ireturn, 1) := by decide +kernel
theorem dX9_about_101 : decode cX9_about 101 = .ok (.aload_n 0, 1) := by decide +kernel
theorem dX9_about_102 : decode cX9_about 102 = .ok (.getfield 131, 3) := by decide +kernel
theorem dX9_about_105 : decode cX9_about 105 = .ok (.ireturn, 1) := by decide +kernel
theorem dX9_about_106 : decode cX9_about 106 = .ok (.aload_n 0, 1) := by decide +kernel
theorem dX9_about_107 : decode cX9_about 107 = .ok (.getfield 177, 3) := by decide +kernel
theorem dX9_about_110 : decode cX9_about 110 = .ok (.ireturn, 1) := by decide +kernel
theorem dX9_about_111 : decode cX9_about 111 = .ok (.aload_n 0, 1) := by decide +kernel
theorem dX9_about_112 : decode cX9_about 112 = .ok (.getfield 89, 3) := by decide +kernel
theorem dX9_about_115 : decode cX9_about 115 = .ok (.ireturn, 1) := by decide +kernel
theorem dX9_about_116 : decode cX9_about 116 = .ok (.bipush (-2), 2) := by decide +kernel
theorem dX9_about_118 : decode cX9_about 118 = .ok (.ireturn, 1) := by decide +kernel
theorem dX9_cell_0 : decode cX9_cell 0 = .ok (.aload_n 0, 1) := by decide +kernel
theorem dX9_cell_1 : decode cX9_cell 1 = .ok (.iconst 0, 1) := by decide +kernel
theorem dX9_cell_2 : decode cX9_cell 2 = .ok (.putfield 75, 3) := by decide +kernel
theorem dX9_cell_5 : decode cX9_cell 5 = .ok (.aload_n 0, 1) := by decide +kernel
theorem dX9_cell_6 : decode cX9_cell 6 = .ok (.iload_n 1, 1) := by decide +kernel
theorem dX9_cell_7 : decode cX9_cell 7 = .ok (.invokevirtual 180, 3) := by decide +kernel
theorem dX9_cell_10 : decode cX9_cell 10 = .ok (.ifCond .eq 7, 3) := by decide +kernel
theorem dX9_cell_13 : decode cX9_cell 13 = .ok (.iconst (-1), 1) := by decide +kernel
theorem dX9_cell_14 : decode cX9_cell 14 = .ok (.goto 12, 3) := by decide +kernel
theorem dX9_cell_17 : decode cX9_cell 17 = .ok (.aload_n 0, 1) := by decide +kernel
theorem dX9_cell_18 : decode cX9_cell 18 = .ok (.aload_n 0, 1) := by decide +kernel
theorem dX9_cell_19 : decode cX9_cell 19 = .ok (.getfield 35, 3) := by decide +kernel
theorem dX9_cell_22 : decode cX9_cell 22 = .ok (.iload_n 1, 1) := by decide +kernel
theorem dX9_cell_23 : decode cX9_cell 23 = .ok (.invokevirtual 144, 3) := by decide +kernel
theorem dX9_cell_26 : decode cX9_cell 26 = .ok (.ireturn, 1) := by decide +kernel
theorem dX9_beside_0 : decode cX9_beside 0 = .ok (.aload_n 0, 1) := by decide +kernel
theorem dX9_beside_1 : decode cX9_beside 1 = .ok (.iconst 0, 1) := by decide +kernel
theorem dX9_beside_2 : decode cX9_beside 2 = .ok (.putfield 75, 3) := by decide +kernel
theorem dX9_beside_5 : decode cX9_beside 5 = .ok (.aload_n 0, 1) := by decide +kernel
theorem dX9_beside_6 : decode cX9_beside 6 = .ok (.iload_n 1, 1) := by decide +kernel
theorem dX9_beside_7 : decode cX9_beside 7 = .ok (.invokevirtual 180, 3) := by decide +kernel
theorem dX9_beside_10 : decode cX9_beside 10 = .ok (.ifCond .eq 5, 3) := by decide +kernel
theorem dX9_beside_13 : decode cX9_beside 13 = .ok (.iconst (-1), 1) := by decide +kernel
theorem dX9_beside_14 : decode cX9_beside 14 = .ok (.ireturn, 1) := by decide +kernel
theorem dX9_beside_15 : decode cX9_beside 15 = .ok (.iload_n 2, 1) := by decide +kernel
theorem dX9_beside_16 : decode cX9_beside 16 = .ok (.invokestatic 184, 3) := by decide +kernel
theorem dX9_beside_19 : decode cX9_beside 19 = .ok (.ifCond .eq 8, 3) := by decide +kernel
theorem dX9_beside_22 : decode cX9_beside 22 = .ok (.bipush (-2), 2) := by decide +kernel
theorem dX9_beside_24 : decode cX9_beside 24 = .ok (.goto 10, 3) := by decide +kernel
theorem dX9_beside_27 : decode cX9_beside 27 = .ok (.aload_n 0, 1) := by decide +kernel
theorem dX9_beside_28 : decode cX9_beside 28 = .ok (.iload_n 1, 1) := by decide +kernel
theorem dX9_beside_29 : decode cX9_beside 29 = .ok (.iload_n 2, 1) := by decide +kernel
theorem dX9_beside_30 : decode cX9_beside 30 = .ok (.iload_n 3, 1) := by decide +kernel
theorem dX9_beside_31 : decode cX9_beside 31 = .ok (.invokevirtual 187, 3) := by decide +kernel
theorem dX9_beside_34 : decode cX9_beside 34 = .ok (.ireturn, 1) := by decide +kernel
theorem dX9_waysOf_0 : decode cX9_waysOf 0 = .ok (.iconst 0, 1) := by decide +kernel
theorem dX9_waysOf_1 : decode cX9_waysOf 1 = .ok (.istore_n 2, 1) := by decide +kernel
theorem dX9_waysOf_2 : decode cX9_waysOf 2 = .ok (.iconst 0, 1) := by decide +kernel
theorem dX9_waysOf_3 : decode cX9_waysOf 3 = .ok (.istore_n 3, 1) := by decide +kernel
theorem dX9_waysOf_4 : decode cX9_waysOf 4 = .ok (.iload_n 3, 1) := by decide +kernel
theorem dX9_waysOf_5 : decode cX9_waysOf 5 = .ok (.iconst 4, 1) := by decide +kernel
theorem dX9_waysOf_6 : decode cX9_waysOf 6 = .ok (.if_icmp .ge 32, 3) := by decide +kernel
theorem dX9_waysOf_9 : decode cX9_waysOf 9 = .ok (.iload_n 2, 1) := by decide +kernel
theorem dX9_waysOf_10 : decode cX9_waysOf 10 = .ok (.aload_n 0, 1) := by decide +kernel
theorem dX9_waysOf_11 : decode cX9_waysOf 11 = .ok (.aload_n 0, 1) := by decide +kernel
theorem dX9_waysOf_12 : decode cX9_waysOf 12 = .ok (.getfield 35, 3) := by decide +kernel
theorem dX9_waysOf_15 : decode cX9_waysOf 15 = .ok (.iload_n 1, 1) := by decide +kernel
theorem dX9_waysOf_16 : decode cX9_waysOf 16 = .ok (.iload_n 3, 1) := by decide +kernel
theorem dX9_waysOf_17 : decode cX9_waysOf 17 = .ok (.invokevirtual 159, 3) := by decide +kernel
theorem dX9_waysOf_20 : decode cX9_waysOf 20 = .ok (.ifCond .eq 9, 3) := by decide +kernel
theorem dX9_waysOf_23 : decode cX9_waysOf 23 = .ok (.iconst 1, 1) := by decide +kernel
theorem dX9_waysOf_24 : decode cX9_waysOf 24 = .ok (.iload_n 3, 1) := by decide +kernel
theorem dX9_waysOf_25 : decode cX9_waysOf 25 = .ok (.ishl, 1) := by decide +kernel
theorem dX9_waysOf_26 : decode cX9_waysOf 26 = .ok (.goto 4, 3) := by decide +kernel
theorem dX9_waysOf_29 : decode cX9_waysOf 29 = .ok (.iconst 0, 1) := by decide +kernel
theorem dX9_waysOf_30 : decode cX9_waysOf 30 = .ok (.ior, 1) := by decide +kernel
theorem dX9_waysOf_31 : decode cX9_waysOf 31 = .ok (.istore_n 2, 1) := by decide +kernel
theorem dX9_waysOf_32 : decode cX9_waysOf 32 = .ok (.iinc 3 1, 3) := by decide +kernel
theorem dX9_waysOf_35 : decode cX9_waysOf 35 = .ok (.goto (-31), 3) := by decide +kernel
theorem dX9_waysOf_38 : decode cX9_waysOf 38 = .ok (.iload_n 2, 1) := by decide +kernel
theorem dX9_waysOf_39 : decode cX9_waysOf 39 = .ok (.ireturn, 1) := by decide +kernel
theorem dX9_boy_0 : decode cX9_boy 0 = .ok (.aload_n 0, 1) := by decide +kernel
theorem dX9_boy_1 : decode cX9_boy 1 = .ok (.iconst 0, 1) := by decide +kernel
theorem dX9_boy_2 : decode cX9_boy 2 = .ok (.putfield 75, 3) := by decide +kernel
theorem dX9_boy_5 : decode cX9_boy 5 = .ok (.aload_n 0, 1) := by decide +kernel
theorem dX9_boy_6 : decode cX9_boy 6 = .ok (.iload_n 1, 1) := by decide +kernel
theorem dX9_boy_7 : decode cX9_boy 7 = .ok (.invokevirtual 191, 3) := by decide +kernel
theorem dX9_boy_10 : decode cX9_boy 10 = .ok (.ifCond .eq 5, 3) := by decide +kernel
theorem dX9_boy_13 : decode cX9_boy 13 = .ok (.iconst (-1), 1) := by decide +kernel
theorem dX9_boy_14 : decode cX9_boy 14 = .ok (.ireturn, 1) := by decide +kernel
theorem dX9_boy_15 : decode cX9_boy 15 = .ok (.iload_n 2, 1) := by decide +kernel
theorem dX9_boy_16 : decode cX9_boy 16 = .ok (.tableswitch 86 0 5 #[40, 47, 54, 61, 70, 80], 40) := by decide +kernel
theorem dX9_boy_56 : decode cX9_boy 56 = .ok (.aload_n 0, 1) := by decide +kernel
theorem dX9_boy_57 : decode cX9_boy 57 = .ok (.getfield 35, 3) := by decide +kernel
theorem dX9_boy_60 : decode cX9_boy 60 = .ok (.iload_n 1, 1) := by decide +kernel
theorem dX9_boy_61 : decode cX9_boy 61 = .ok (.iaload, 1) := by decide +kernel
theorem dX9_boy_62 : decode cX9_boy 62 = .ok (.ireturn, 1) := by decide +kernel
theorem dX9_boy_63 : decode cX9_boy 63 = .ok (.aload_n 0, 1) := by decide +kernel
theorem dX9_boy_64 : decode cX9_boy 64 = .ok (.getfield 26, 3) := by decide +kernel
theorem dX9_boy_67 : decode cX9_boy 67 = .ok (.iload_n 1, 1) := by decide +kernel
theorem dX9_boy_68 : decode cX9_boy 68 = .ok (.iaload, 1) := by decide +kernel
theorem dX9_boy_69 : decode cX9_boy 69 = .ok (.ireturn, 1) := by decide +kernel
theorem dX9_boy_70 : decode cX9_boy 70 = .ok (.aload_n 0, 1) := by decide +kernel
theorem dX9_boy_71 : decode cX9_boy 71 = .ok (.getfield 23, 3) := by decide +kernel
theorem dX9_boy_74 : decode cX9_boy 74 = .ok (.iload_n 1, 1) := by decide +kernel
theorem dX9_boy_75 : decode cX9_boy 75 = .ok (.iaload, 1) := by decide +kernel
theorem dX9_boy_76 : decode cX9_boy 76 = .ok (.ireturn, 1) := by decide +kernel
theorem dX9_boy_77 : decode cX9_boy 77 = .ok (.aload_n 0, 1) := by decide +kernel
theorem dX9_boy_78 : decode cX9_boy 78 = .ok (.getfield 35, 3) := by decide +kernel
theorem dX9_boy_81 : decode cX9_boy 81 = .ok (.iconst 5, 1) := by decide +kernel
theorem dX9_boy_82 : decode cX9_boy 82 = .ok (.iload_n 1, 1) := by decide +kernel
theorem dX9_boy_83 : decode cX9_boy 83 = .ok (.iadd, 1) := by decide +kernel
theorem dX9_boy_84 : decode cX9_boy 84 = .ok (.iaload, 1) := by decide +kernel
theorem dX9_boy_85 : decode cX9_boy 85 = .ok (.ireturn, 1) := by decide +kernel
theorem dX9_boy_86 : decode cX9_boy 86 = .ok (.aload_n 0, 1) := by decide +kernel
theorem dX9_boy_87 : decode cX9_boy 87 = .ok (.getfield 35, 3) := by decide +kernel
theorem dX9_boy_90 : decode cX9_boy 90 = .ok (.bipush 10, 2) := by decide +kernel
theorem dX9_boy_92 : decode cX9_boy 92 = .ok (.iload_n 1, 1) := by decide +kernel
theorem dX9_boy_93 : decode cX9_boy 93 = .ok (.iadd, 1) := by decide +kernel
theorem dX9_boy_94 : decode cX9_boy 94 = .ok (.iaload, 1) := by decide +kernel
theorem dX9_boy_95 : decode cX9_boy 95 = .ok (.ireturn, 1) := by decide +kernel
theorem dX9_boy_96 : decode cX9_boy 96 = .ok (.aload_n 0, 1) := by decide +kernel
theorem dX9_boy_97 : decode cX9_boy 97 = .ok (.iload_n 1, 1) := by decide +kernel
theorem dX9_boy_98 : decode cX9_boy 98 = .ok (.invokevirtual 194, 3) := by decide +kernel
theorem dX9_boy_101 : decode cX9_boy 101 = .ok (.ireturn, 1) := by decide +kernel
theorem dX9_boy_102 : decode cX9_boy 102 = .ok (.bipush (-2), 2) := by decide +kernel
theorem dX9_boy_104 : decode cX9_boy 104 = .ok (.ireturn, 1) := by decide +kernel
theorem dX9_note_0 : decode cX9_note 0 = .ok (.aload_n 0, 1) := by decide +kernel
theorem dX9_note_1 : decode cX9_note 1 = .ok (.getfield 131, 3) := by decide +kernel
theorem dX9_note_4 : decode cX9_note 4 = .ok (.bipush 14, 2) := by decide +kernel
theorem dX9_note_6 : decode cX9_note 6 = .ok (.if_icmp .ne 43, 3) := by decide +kernel
theorem dX9_note_9 : decode cX9_note 9 = .ok (.iconst 0, 1) := by decide +kernel
theorem dX9_note_10 : decode cX9_note 10 = .ok (.istore_n 1, 1) := by decide +kernel
theorem dX9_note_11 : decode cX9_note 11 = .ok (.iload_n 1, 1) := by decide +kernel
theorem dX9_note_12 : decode cX9_note 12 = .ok (.sipush 208, 3) := by decide +kernel
theorem dX9_note_15 : decode cX9_note 15 = .ok (.if_icmp .ge 24, 3) := by decide +kernel
theorem dX9_note_18 : decode cX9_note 18 = .ok (.aload_n 0, 1) := by decide +kernel
theorem dX9_note_19 : decode cX9_note 19 = .ok (.getfield 41, 3) := by decide +kernel
theorem dX9_note_22 : decode cX9_note 22 = .ok (.iload_n 1, 1) := by decide +kernel
theorem dX9_note_23 : decode cX9_note 23 = .ok (.aload_n 0, 1) := by decide +kernel
theorem dX9_note_24 : decode cX9_note 24 = .ok (.getfield 41, 3) := by decide +kernel
theorem dX9_note_27 : decode cX9_note 27 = .ok (.iload_n 1, 1) := by decide +kernel
theorem dX9_note_28 : decode cX9_note 28 = .ok (.bipush 16, 2) := by decide +kernel
theorem dX9_note_30 : decode cX9_note 30 = .ok (.iadd, 1) := by decide +kernel
theorem dX9_note_31 : decode cX9_note 31 = .ok (.iaload, 1) := by decide +kernel
theorem dX9_note_32 : decode cX9_note 32 = .ok (.iastore, 1) := by decide +kernel
theorem dX9_note_33 : decode cX9_note 33 = .ok (.iinc 1 1, 3) := by decide +kernel
theorem dX9_note_36 : decode cX9_note 36 = .ok (.goto (-25), 3) := by decide +kernel
theorem dX9_note_39 : decode cX9_note 39 = .ok (.aload_n 0, 1) := by decide +kernel
theorem dX9_note_40 : decode cX9_note 40 = .ok (.dup, 1) := by decide +kernel
theorem dX9_note_41 : decode cX9_note 41 = .ok (.getfield 131, 3) := by decide +kernel
theorem dX9_note_44 : decode cX9_note 44 = .ok (.iconst 1, 1) := by decide +kernel
theorem dX9_note_45 : decode cX9_note 45 = .ok (.isub, 1) := by decide +kernel
theorem dX9_note_46 : decode cX9_note 46 = .ok (.putfield 131, 3) := by decide +kernel
theorem dX9_note_49 : decode cX9_note 49 = .ok (.iconst 0, 1) := by decide +kernel
theorem dX9_note_50 : decode cX9_note 50 = .ok (.istore_n 1, 1) := by decide +kernel
theorem dX9_note_51 : decode cX9_note 51 = .ok (.iload_n 1, 1) := by decide +kernel
theorem dX9_note_52 : decode cX9_note 52 = .ok (.bipush 16, 2) := by decide +kernel
theorem dX9_note_54 : decode cX9_note 54 = .ok (.if_icmp .ge 29, 3) := by decide +kernel
theorem dX9_note_57 : decode cX9_note 57 = .ok (.aload_n 0, 1) := by decide +kernel
theorem dX9_note_58 : decode cX9_note 58 = .ok (.getfield 41, 3) := by decide +kernel
theorem dX9_note_61 : decode cX9_note 61 = .ok (.bipush 16, 2) := by decide +kernel
theorem dX9_note_63 : decode cX9_note 63 = .ok (.aload_n 0, 1) := by decide +kernel
theorem dX9_note_64 : decode cX9_note 64 = .ok (.getfield 131, 3) := by decide +kernel
theorem dX9_note_67 : decode cX9_note 67 = .ok (.imul, 1) := by decide +kernel
theorem dX9_note_68 : decode cX9_note 68 = .ok (.iload_n 1, 1) := by decide +kernel
theorem dX9_note_69 : decode cX9_note 69 = .ok (.iadd, 1) := by decide +kernel
theorem dX9_note_70 : decode cX9_note 70 = .ok (.aload_n 0, 1) := by decide +kernel
theorem dX9_note_71 : decode cX9_note 71 = .ok (.getfield 35, 3) := by decide +kernel
theorem dX9_note_74 : decode cX9_note 74 = .ok (.iload_n 1, 1) := by decide +kernel
theorem dX9_note_75 : decode cX9_note 75 = .ok (.iaload, 1) := by decide +kernel
theorem dX9_note_76 : decode cX9_note 76 = .ok (.iastore, 1) := by decide +kernel
theorem dX9_note_77 : decode cX9_note 77 = .ok (.iinc 1 1, 3) := by decide +kernel
theorem dX9_note_80 : decode cX9_note 80 = .ok (.goto (-29), 3) := by decide +kernel
theorem dX9_note_83 : decode cX9_note 83 = .ok (.aload_n 0, 1) := by decide +kernel
theorem dX9_note_84 : decode cX9_note 84 = .ok (.dup, 1) := by decide +kernel
theorem dX9_note_85 : decode cX9_note 85 = .ok (.getfield 131, 3) := by decide +kernel
theorem dX9_note_88 : decode cX9_note 88 = .ok (.iconst 1, 1) := by decide +kernel
theorem dX9_note_89 : decode cX9_note 89 = .ok (.iadd, 1) := by decide +kernel
theorem dX9_note_90 : decode cX9_note 90 = .ok (.putfield 131, 3) := by decide +kernel
theorem dX9_note_93 : decode cX9_note 93 = .ok (.return_, 1) := by decide +kernel
theorem dX9_step_0 : decode cX9_step 0 = .ok (.aload_n 0, 1) := by decide +kernel
theorem dX9_step_1 : decode cX9_step 1 = .ok (.iconst 0, 1) := by decide +kernel
theorem dX9_step_2 : decode cX9_step 2 = .ok (.putfield 75, 3) := by decide +kernel
theorem dX9_step_5 : decode cX9_step 5 = .ok (.aload_n 0, 1) := by decide +kernel
theorem dX9_step_6 : decode cX9_step 6 = .ok (.iload_n 1, 1) := by decide +kernel
theorem dX9_step_7 : decode cX9_step 7 = .ok (.invokevirtual 191, 3) := by decide +kernel
theorem dX9_step_10 : decode cX9_step 10 = .ok (.ifCond .eq 5, 3) := by decide +kernel
theorem dX9_step_13 : decode cX9_step 13 = .ok (.iconst (-1), 1) := by decide +kernel
theorem dX9_step_14 : decode cX9_step 14 = .ok (.ireturn, 1) := by decide +kernel
theorem dX9_step_15 : decode cX9_step 15 = .ok (.iload_n 2, 1) := by decide +kernel
theorem dX9_step_16 : decode cX9_step 16 = .ok (.invokestatic 184, 3) := by decide +kernel
theorem dX9_step_19 : decode cX9_step 19 = .ok (.ifCond .eq 6, 3) := by decide +kernel
theorem dX9_step_22 : decode cX9_step 22 = .ok (.bipush (-2), 2) := by decide +kernel
theorem dX9_step_24 : decode cX9_step 24 = .ok (.ireturn, 1) := by decide +kernel
theorem dX9_step_25 : decode cX9_step 25 = .ok (.aload_n 0, 1) := by decide +kernel
theorem dX9_step_26 : decode cX9_step 26 = .ok (.aload_n 0, 1) := by decide +kernel
theorem dX9_step_27 : decode cX9_step 27 = .ok (.getfield 35, 3) := by decide +kernel
theorem dX9_step_30 : decode cX9_step 30 = .ok (.iload_n 1, 1) := by decide +kernel
theorem dX9_step_31 : decode cX9_step 31 = .ok (.iload_n 2, 1) := by decide +kernel
theorem dX9_step_32 : decode cX9_step 32 = .ok (.invokevirtual 159, 3) := by decide +kernel
theorem dX9_step_35 : decode cX9_step 35 = .ok (.ifCond .ne 6, 3) := by decide +kernel
theorem dX9_step_38 : decode cX9_step 38 = .ok (.bipush (-3), 2) := by decide +kernel
theorem dX9_step_40 : decode cX9_step 40 = .ok (.ireturn, 1) := by decide +kernel
theorem dX9_step_41 : decode cX9_step 41 = .ok (.aload_n 0, 1) := by decide +kernel
theorem dX9_step_42 : decode cX9_step 42 = .ok (.invokevirtual 197, 3) := by decide +kernel
theorem dX9_step_45 : decode cX9_step 45 = .ok (.aload_n 0, 1) := by decide +kernel
theorem dX9_step_46 : decode cX9_step 46 = .ok (.aload_n 0, 1) := by decide +kernel
theorem dX9_step_47 : decode cX9_step 47 = .ok (.getfield 35, 3) := by decide +kernel
theorem dX9_step_50 : decode cX9_step 50 = .ok (.iload_n 1, 1) := by decide +kernel
theorem dX9_step_51 : decode cX9_step 51 = .ok (.iload_n 2, 1) := by decide +kernel
theorem dX9_step_52 : decode cX9_step 52 = .ok (.invokevirtual 200, 3) := by decide +kernel
theorem dX9_step_55 : decode cX9_step 55 = .ok (.pop, 1) := by decide +kernel
theorem dX9_step_56 : decode cX9_step 56 = .ok (.aload_n 0, 1) := by decide +kernel
theorem dX9_step_57 : decode cX9_step 57 = .ok (.getfield 35, 3) := by decide +kernel
theorem dX9_step_60 : decode cX9_step 60 = .ok (.iload_n 1, 1) := by decide +kernel
theorem dX9_step_61 : decode cX9_step 61 = .ok (.iaload, 1) := by decide +kernel
theorem dX9_step_62 : decode cX9_step 62 = .ok (.ireturn, 1) := by decide +kernel
theorem dX9_hears_0 : decode cX9_hears 0 = .ok (.aload_n 1, 1) := by decide +kernel
theorem dX9_hears_1 : decode cX9_hears 1 = .ok (.iload_n 2, 1) := by decide +kernel
theorem dX9_hears_2 : decode cX9_hears 2 = .ok (.iaload, 1) := by decide +kernel
theorem dX9_hears_3 : decode cX9_hears 3 = .ok (.iload_n 3, 1) := by decide +kernel
theorem dX9_hears_4 : decode cX9_hears 4 = .ok (.if_icmp .ne 7, 3) := by decide +kernel
theorem dX9_hears_7 : decode cX9_hears 7 = .ok (.iconst 1, 1) := by decide +kernel
theorem dX9_hears_8 : decode cX9_hears 8 = .ok (.goto 4, 3) := by decide +kernel
theorem dX9_hears_11 : decode cX9_hears 11 = .ok (.iconst 0, 1) := by decide +kernel
theorem dX9_hears_12 : decode cX9_hears 12 = .ok (.istore 4, 2) := by decide +kernel
theorem dX9_hears_14 : decode cX9_hears 14 = .ok (.iconst 0, 1) := by decide +kernel
theorem dX9_hears_15 : decode cX9_hears 15 = .ok (.istore 5, 2) := by decide +kernel
theorem dX9_hears_17 : decode cX9_hears 17 = .ok (.iload 5, 2) := by decide +kernel
theorem dX9_hears_19 : decode cX9_hears 19 = .ok (.iconst 4, 1) := by decide +kernel
theorem dX9_hears_20 : decode cX9_hears 20 = .ok (.if_icmp .ge 49, 3) := by decide +kernel
theorem dX9_hears_23 : decode cX9_hears 23 = .ok (.iload 4, 2) := by decide +kernel
theorem dX9_hears_25 : decode cX9_hears 25 = .ok (.ifCond .ne 31, 3) := by decide +kernel
theorem dX9_hears_28 : decode cX9_hears 28 = .ok (.aload_n 0, 1) := by decide +kernel
theorem dX9_hears_29 : decode cX9_hears 29 = .ok (.aload_n 1, 1) := by decide +kernel
theorem dX9_hears_30 : decode cX9_hears 30 = .ok (.iload_n 2, 1) := by decide +kernel
theorem dX9_hears_31 : decode cX9_hears 31 = .ok (.iaload, 1) := by decide +kernel
theorem dX9_hears_32 : decode cX9_hears 32 = .ok (.iload 5, 2) := by decide +kernel
theorem dX9_hears_34 : decode cX9_hears 34 = .ok (.aload_n 0, 1) := by decide +kernel
theorem dX9_hears_35 : decode cX9_hears 35 = .ok (.getfield 26, 3) := by decide +kernel
theorem dX9_hears_38 : decode cX9_hears 38 = .ok (.iload_n 2, 1) := by decide +kernel
theorem dX9_hears_39 : decode cX9_hears 39 = .ok (.iaload, 1) := by decide +kernel
theorem dX9_hears_40 : decode cX9_hears 40 = .ok (.iconst 3, 1) := by decide +kernel
theorem dX9_hears_41 : decode cX9_hears 41 = .ok (.if_icmp .ne 7, 3) := by decide +kernel
theorem dX9_hears_44 : decode cX9_hears 44 = .ok (.iconst 1, 1) := by decide +kernel
theorem dX9_hears_45 : decode cX9_hears 45 = .ok (.goto 4, 3) := by decide +kernel
theorem dX9_hears_48 : decode cX9_hears 48 = .ok (.iconst 0, 1) := by decide +kernel
theorem dX9_hears_49 : decode cX9_hears 49 = .ok (.invokevirtual 187, 3) := by decide +kernel
theorem dX9_hears_52 : decode cX9_hears 52 = .ok (.iload_n 3, 1) := by decide +kernel
theorem dX9_hears_53 : decode cX9_hears 53 = .ok (.if_icmp .ne 7, 3) := by decide +kernel
theorem dX9_hears_56 : decode cX9_hears 56 = .ok (.iconst 1, 1) := by decide +kernel
theorem dX9_hears_57 : decode cX9_hears 57 = .ok (.goto 4, 3) := by decide +kernel
theorem dX9_hears_60 : decode cX9_hears 60 = .ok (.iconst 0, 1) := by decide +kernel
theorem dX9_hears_61 : decode cX9_hears 61 = .ok (.istore 4, 2) := by decide +kernel
theorem dX9_hears_63 : decode cX9_hears 63 = .ok (.iinc 5 1, 3) := by decide +kernel
theorem dX9_hears_66 : decode cX9_hears 66 = .ok (.goto (-49), 3) := by decide +kernel
theorem dX9_hears_69 : decode cX9_hears 69 = .ok (.iload 4, 2) := by decide +kernel
theorem dX9_hears_71 : decode cX9_hears 71 = .ok (.ireturn, 1) := by decide +kernel
theorem dX9_goCall_0 : decode cX9_goCall 0 = .ok (.iconst 0, 1) := by decide +kernel
theorem dX9_goCall_1 : decode cX9_goCall 1 = .ok (.istore_n 3, 1) := by decide +kernel
theorem dX9_goCall_2 : decode cX9_goCall 2 = .ok (.iload_n 3, 1) := by decide +kernel
theorem dX9_goCall_3 : decode cX9_goCall 3 = .ok (.aload_n 0, 1) := by decide +kernel
theorem dX9_goCall_4 : decode cX9_goCall 4 = .ok (.getfield 78, 3) := by decide +kernel
theorem dX9_goCall_7 : decode cX9_goCall 7 = .ok (.if_icmp .ge 41, 3) := by decide +kernel
theorem dX9_goCall_10 : decode cX9_goCall 10 = .ok (.aload_n 0, 1) := by decide +kernel
theorem dX9_goCall_11 : decode cX9_goCall 11 = .ok (.aload_n 1, 1) := by decide +kernel
theorem dX9_goCall_12 : decode cX9_goCall 12 = .ok (.iload_n 3, 1) := by decide +kernel
theorem dX9_goCall_13 : decode cX9_goCall 13 = .ok (.iload_n 2, 1) := by decide +kernel
theorem dX9_goCall_14 : decode cX9_goCall 14 = .ok (.invokevirtual 203, 3) := by decide +kernel
theorem dX9_goCall_17 : decode cX9_goCall 17 = .ok (.ifCond .eq 25, 3) := by decide +kernel
theorem dX9_goCall_20 : decode cX9_goCall 20 = .ok (.aload_n 1, 1) := by decide +kernel
theorem dX9_goCall_21 : decode cX9_goCall 21 = .ok (.iload_n 3, 1) := by decide +kernel
theorem dX9_goCall_22 : decode cX9_goCall 22 = .ok (.aload_n 0, 1) := by decide +kernel
theorem dX9_goCall_23 : decode cX9_goCall 23 = .ok (.getfield 23, 3) := by decide +kernel
theorem dX9_goCall_26 : decode cX9_goCall 26 = .ok (.iload_n 3, 1) := by decide +kernel
theorem dX9_goCall_27 : decode cX9_goCall 27 = .ok (.iaload, 1) := by decide +kernel
theorem dX9_goCall_28 : decode cX9_goCall 28 = .ok (.iastore, 1) := by decide +kernel
theorem dX9_goCall_29 : decode cX9_goCall 29 = .ok (.aload_n 1, 1) := by decide +kernel
theorem dX9_goCall_30 : decode cX9_goCall 30 = .ok (.iconst 5, 1) := by decide +kernel
theorem dX9_goCall_31 : decode cX9_goCall 31 = .ok (.iload_n 3, 1) := by decide +kernel
theorem dX9_goCall_32 : decode cX9_goCall 32 = .ok (.iadd, 1) := by decide +kernel
theorem dX9_goCall_33 : decode cX9_goCall 33 = .ok (.iconst 3, 1) := by decide +kernel
theorem dX9_goCall_34 : decode cX9_goCall 34 = .ok (.iastore, 1) := by decide +kernel
theorem dX9_goCall_35 : decode cX9_goCall 35 = .ok (.aload_n 1, 1) := by decide +kernel
theorem dX9_goCall_36 : decode cX9_goCall 36 = .ok (.bipush 10, 2) := by decide +kernel
theorem dX9_goCall_38 : decode cX9_goCall 38 = .ok (.iload_n 3, 1) := by decide +kernel
theorem dX9_goCall_39 : decode cX9_goCall 39 = .ok (.iadd, 1) := by decide +kernel
theorem dX9_goCall_40 : decode cX9_goCall 40 = .ok (.iconst 3, 1) := by decide +kernel
theorem dX9_goCall_41 : decode cX9_goCall 41 = .ok (.iastore, 1) := by decide +kernel
theorem dX9_goCall_42 : decode cX9_goCall 42 = .ok (.iinc 3 1, 3) := by decide +kernel
theorem dX9_goCall_45 : decode cX9_goCall 45 = .ok (.goto (-43), 3) := by decide +kernel
theorem dX9_goCall_48 : decode cX9_goCall 48 = .ok (.return_, 1) := by decide +kernel
theorem dX9_call_0 : decode cX9_call 0 = .ok (.aload_n 0, 1) := by decide +kernel
theorem dX9_call_1 : decode cX9_call 1 = .ok (.iconst 0, 1) := by decide +kernel
theorem dX9_call_2 : decode cX9_call 2 = .ok (.putfield 75, 3) := by decide +kernel
theorem dX9_call_5 : decode cX9_call 5 = .ok (.aload_n 0, 1) := by decide +kernel
theorem dX9_call_6 : decode cX9_call 6 = .ok (.iload_n 1, 1) := by decide +kernel
theorem dX9_call_7 : decode cX9_call 7 = .ok (.invokevirtual 180, 3) := by decide +kernel
theorem dX9_call_10 : decode cX9_call 10 = .ok (.ifCond .eq 5, 3) := by decide +kernel
theorem dX9_call_13 : decode cX9_call 13 = .ok (.iconst (-1), 1) := by decide +kernel
theorem dX9_call_14 : decode cX9_call 14 = .ok (.ireturn, 1) := by decide +kernel
theorem dX9_call_15 : decode cX9_call 15 = .ok (.aload_n 0, 1) := by decide +kernel
theorem dX9_call_16 : decode cX9_call 16 = .ok (.invokevirtual 197, 3) := by decide +kernel
theorem dX9_call_19 : decode cX9_call 19 = .ok (.aload_n 0, 1) := by decide +kernel
theorem dX9_call_20 : decode cX9_call 20 = .ok (.aload_n 0, 1) := by decide +kernel
theorem dX9_call_21 : decode cX9_call 21 = .ok (.getfield 35, 3) := by decide +kernel
theorem dX9_call_24 : decode cX9_call 24 = .ok (.invokevirtual 206, 3) := by decide +kernel
theorem dX9_call_27 : decode cX9_call 27 = .ok (.istore_n 2, 1) := by decide +kernel
theorem dX9_call_28 : decode cX9_call 28 = .ok (.aload_n 0, 1) := by decide +kernel
theorem dX9_call_29 : decode cX9_call 29 = .ok (.aload_n 0, 1) := by decide +kernel
theorem dX9_call_30 : decode cX9_call 30 = .ok (.getfield 35, 3) := by decide +kernel
theorem dX9_call_33 : decode cX9_call 33 = .ok (.iload_n 1, 1) := by decide +kernel
theorem dX9_call_34 : decode cX9_call 34 = .ok (.invokevirtual 209, 3) := by decide +kernel
theorem dX9_call_37 : decode cX9_call 37 = .ok (.iload_n 2, 1) := by decide +kernel
theorem dX9_call_38 : decode cX9_call 38 = .ok (.aload_n 0, 1) := by decide +kernel
theorem dX9_call_39 : decode cX9_call 39 = .ok (.aload_n 0, 1) := by decide +kernel
theorem dX9_call_40 : decode cX9_call 40 = .ok (.getfield 35, 3) := by decide +kernel
theorem dX9_call_43 : decode cX9_call 43 = .ok (.invokevirtual 206, 3) := by decide +kernel
theorem dX9_call_46 : decode cX9_call 46 = .ok (.isub, 1) := by decide +kernel
theorem dX9_call_47 : decode cX9_call 47 = .ok (.ireturn, 1) := by decide +kernel
theorem dX9_cut_0 : decode cX9_cut 0 = .ok (.aload_n 0, 1) := by decide +kernel
theorem dX9_cut_1 : decode cX9_cut 1 = .ok (.iconst 0, 1) := by decide +kernel
theorem dX9_cut_2 : decode cX9_cut 2 = .ok (.putfield 75, 3) := by decide +kernel
theorem dX9_cut_5 : decode cX9_cut 5 = .ok (.aload_n 0, 1) := by decide +kernel
theorem dX9_cut_6 : decode cX9_cut 6 = .ok (.iload_n 1, 1) := by decide +kernel
theorem dX9_cut_7 : decode cX9_cut 7 = .ok (.invokevirtual 180, 3) := by decide +kernel
theorem dX9_cut_10 : decode cX9_cut 10 = .ok (.ifCond .eq 5, 3) := by decide +kernel
theorem dX9_cut_13 : decode cX9_cut 13 = .ok (.iconst (-1), 1) := by decide +kernel
theorem dX9_cut_14 : decode cX9_cut 14 = .ok (.ireturn, 1) := by decide +kernel
theorem dX9_cut_15 : decode cX9_cut 15 = .ok (.aload_n 0, 1) := by decide +kernel
theorem dX9_cut_16 : decode cX9_cut 16 = .ok (.aload_n 0, 1) := by decide +kernel
theorem dX9_cut_17 : decode cX9_cut 17 = .ok (.getfield 35, 3) := by decide +kernel
theorem dX9_cut_20 : decode cX9_cut 20 = .ok (.iload_n 1, 1) := by decide +kernel
theorem dX9_cut_21 : decode cX9_cut 21 = .ok (.invokevirtual 144, 3) := by decide +kernel
theorem dX9_cut_24 : decode cX9_cut 24 = .ok (.iconst 1, 1) := by decide +kernel
theorem dX9_cut_25 : decode cX9_cut 25 = .ok (.if_icmp .eq 6, 3) := by decide +kernel
theorem dX9_cut_28 : decode cX9_cut 28 = .ok (.bipush (-3), 2) := by decide +kernel
theorem dX9_cut_30 : decode cX9_cut 30 = .ok (.ireturn, 1) := by decide +kernel
theorem dX9_cut_31 : decode cX9_cut 31 = .ok (.aload_n 0, 1) := by decide +kernel
theorem dX9_cut_32 : decode cX9_cut 32 = .ok (.invokevirtual 197, 3) := by decide +kernel
theorem dX9_cut_35 : decode cX9_cut 35 = .ok (.aload_n 0, 1) := by decide +kernel
theorem dX9_cut_36 : decode cX9_cut 36 = .ok (.getfield 35, 3) := by decide +kernel
theorem dX9_cut_39 : decode cX9_cut 39 = .ok (.bipush 15, 2) := by decide +kernel
theorem dX9_cut_41 : decode cX9_cut 41 = .ok (.dup2, 1) := by decide +kernel
theorem dX9_cut_42 : decode cX9_cut 42 = .ok (.iaload, 1) := by decide +kernel
theorem dX9_cut_43 : decode cX9_cut 43 = .ok (.iconst 1, 1) := by decide +kernel
theorem dX9_cut_44 : decode cX9_cut 44 = .ok (.iload_n 1, 1) := by decide +kernel
theorem dX9_cut_45 : decode cX9_cut 45 = .ok (.ishl, 1) := by decide +kernel
theorem dX9_cut_46 : decode cX9_cut 46 = .ok (.ior, 1) := by decide +kernel
theorem dX9_cut_47 : decode cX9_cut 47 = .ok (.iastore, 1) := by decide +kernel
theorem dX9_cut_48 : decode cX9_cut 48 = .ok (.aload_n 0, 1) := by decide +kernel
theorem dX9_cut_49 : decode cX9_cut 49 = .ok (.iconst 1, 1) := by decide +kernel
theorem dX9_cut_50 : decode cX9_cut 50 = .ok (.invokevirtual 174, 3) := by decide +kernel
theorem dX9_cut_53 : decode cX9_cut 53 = .ok (.invokestatic 170, 3) := by decide +kernel
theorem dX9_cut_56 : decode cX9_cut 56 = .ok (.ireturn, 1) := by decide +kernel
theorem dX9_undo_0 : decode cX9_undo 0 = .ok (.aload_n 0, 1) := by decide +kernel
theorem dX9_undo_1 : decode cX9_undo 1 = .ok (.iconst 0, 1) := by decide +kernel
theorem dX9_undo_2 : decode cX9_undo 2 = .ok (.putfield 75, 3) := by decide +kernel
theorem dX9_undo_5 : decode cX9_undo 5 = .ok (.aload_n 0, 1) := by decide +kernel
theorem dX9_undo_6 : decode cX9_undo 6 = .ok (.getfield 131, 3) := by decide +kernel
theorem dX9_undo_9 : decode cX9_undo 9 = .ok (.ifCond .ne 6, 3) := by decide +kernel
theorem dX9_undo_12 : decode cX9_undo 12 = .ok (.bipush (-3), 2) := by decide +kernel
theorem dX9_undo_14 : decode cX9_undo 14 = .ok (.ireturn, 1) := by decide +kernel
theorem dX9_undo_15 : decode cX9_undo 15 = .ok (.aload_n 0, 1) := by decide +kernel
theorem dX9_undo_16 : decode cX9_undo 16 = .ok (.dup, 1) := by decide +kernel
theorem dX9_undo_17 : decode cX9_undo 17 = .ok (.getfield 131, 3) := by decide +kernel
theorem dX9_undo_20 : decode cX9_undo 20 = .ok (.iconst 1, 1) := by decide +kernel
theorem dX9_undo_21 : decode cX9_undo 21 = .ok (.isub, 1) := by decide +kernel
theorem dX9_undo_22 : decode cX9_undo 22 = .ok (.putfield 131, 3) := by decide +kernel
theorem dX9_undo_25 : decode cX9_undo 25 = .ok (.iconst 0, 1) := by decide +kernel
theorem dX9_undo_26 : decode cX9_undo 26 = .ok (.istore_n 1, 1) := by decide +kernel
theorem dX9_undo_27 : decode cX9_undo 27 = .ok (.iload_n 1, 1) := by decide +kernel
theorem dX9_undo_28 : decode cX9_undo 28 = .ok (.bipush 16, 2) := by decide +kernel
theorem dX9_undo_30 : decode cX9_undo 30 = .ok (.if_icmp .ge 29, 3) := by decide +kernel
theorem dX9_undo_33 : decode cX9_undo 33 = .ok (.aload_n 0, 1) := by decide +kernel
theorem dX9_undo_34 : decode cX9_undo 34 = .ok (.getfield 35, 3) := by decide +kernel
theorem dX9_undo_37 : decode cX9_undo 37 = .ok (.iload_n 1, 1) := by decide +kernel
theorem dX9_undo_38 : decode cX9_undo 38 = .ok (.aload_n 0, 1) := by decide +kernel
theorem dX9_undo_39 : decode cX9_undo 39 = .ok (.getfield 41, 3) := by decide +kernel
theorem dX9_undo_42 : decode cX9_undo 42 = .ok (.bipush 16, 2) := by decide +kernel
theorem dX9_undo_44 : decode cX9_undo 44 = .ok (.aload_n 0, 1) := by decide +kernel
theorem dX9_undo_45 : decode cX9_undo 45 = .ok (.getfield 131, 3) := by decide +kernel
theorem dX9_undo_48 : decode cX9_undo 48 = .ok (.imul, 1) := by decide +kernel
theorem dX9_undo_49 : decode cX9_undo 49 = .ok (.iload_n 1, 1) := by decide +kernel
theorem dX9_undo_50 : decode cX9_undo 50 = .ok (.iadd, 1) := by decide +kernel
theorem dX9_undo_51 : decode cX9_undo 51 = .ok (.iaload, 1) := by decide +kernel
theorem dX9_undo_52 : decode cX9_undo 52 = .ok (.iastore, 1) := by decide +kernel
theorem dX9_undo_53 : decode cX9_undo 53 = .ok (.iinc 1 1, 3) := by decide +kernel
theorem dX9_undo_56 : decode cX9_undo 56 = .ok (.goto (-29), 3) := by decide +kernel
theorem dX9_undo_59 : decode cX9_undo 59 = .ok (.aload_n 0, 1) := by decide +kernel
theorem dX9_undo_60 : decode cX9_undo 60 = .ok (.getfield 131, 3) := by decide +kernel
theorem dX9_undo_63 : decode cX9_undo 63 = .ok (.ireturn, 1) := by decide +kernel
theorem dX9_begin_0 : decode cX9_begin 0 = .ok (.iconst 0, 1) := by decide +kernel
theorem dX9_begin_1 : decode cX9_begin 1 = .ok (.istore_n 1, 1) := by decide +kernel
theorem dX9_begin_2 : decode cX9_begin 2 = .ok (.iload_n 1, 1) := by decide +kernel
theorem dX9_begin_3 : decode cX9_begin 3 = .ok (.bipush 16, 2) := by decide +kernel
theorem dX9_begin_5 : decode cX9_begin 5 = .ok (.if_icmp .ge 21, 3) := by decide +kernel
theorem dX9_begin_8 : decode cX9_begin 8 = .ok (.aload_n 0, 1) := by decide +kernel
theorem dX9_begin_9 : decode cX9_begin 9 = .ok (.getfield 38, 3) := by decide +kernel
theorem dX9_begin_12 : decode cX9_begin 12 = .ok (.iload_n 1, 1) := by decide +kernel
theorem dX9_begin_13 : decode cX9_begin 13 = .ok (.aload_n 0, 1) := by decide +kernel
theorem dX9_begin_14 : decode cX9_begin 14 = .ok (.getfield 35, 3) := by decide +kernel
theorem dX9_begin_17 : decode cX9_begin 17 = .ok (.iload_n 1, 1) := by decide +kernel
theorem dX9_begin_18 : decode cX9_begin 18 = .ok (.iaload, 1) := by decide +kernel
theorem dX9_begin_19 : decode cX9_begin 19 = .ok (.iastore, 1) := by decide +kernel
theorem dX9_begin_20 : decode cX9_begin 20 = .ok (.iinc 1 1, 3) := by decide +kernel
theorem dX9_begin_23 : decode cX9_begin 23 = .ok (.goto (-21), 3) := by decide +kernel
theorem dX9_begin_26 : decode cX9_begin 26 = .ok (.return_, 1) := by decide +kernel
theorem dX9_spotNumber_0 : decode cX9_spotNumber 0 = .ok (.aload_n 0, 1) := by decide +kernel
theorem dX9_spotNumber_1 : decode cX9_spotNumber 1 = .ok (.getfield 60, 3) := by decide +kernel
theorem dX9_spotNumber_4 : decode cX9_spotNumber 4 = .ok (.iconst 0, 1) := by decide +kernel
theorem dX9_spotNumber_5 : decode cX9_spotNumber 5 = .ok (.iaload, 1) := by decide +kernel
theorem dX9_spotNumber_6 : decode cX9_spotNumber 6 = .ok (.bipush 7, 2) := by decide +kernel
theorem dX9_spotNumber_8 : decode cX9_spotNumber 8 = .ok (.imul, 1) := by decide +kernel
theorem dX9_spotNumber_9 : decode cX9_spotNumber 9 = .ok (.aload_n 0, 1) := by decide +kernel
theorem dX9_spotNumber_10 : decode cX9_spotNumber 10 = .ok (.getfield 60, 3) := by decide +kernel
theorem dX9_spotNumber_13 : decode cX9_spotNumber 13 = .ok (.iconst 1, 1) := by decide +kernel
theorem dX9_spotNumber_14 : decode cX9_spotNumber 14 = .ok (.iaload, 1) := by decide +kernel
theorem dX9_spotNumber_15 : decode cX9_spotNumber 15 = .ok (.iadd, 1) := by decide +kernel
theorem dX9_spotNumber_16 : decode cX9_spotNumber 16 = .ok (.bipush 7, 2) := by decide +kernel
theorem dX9_spotNumber_18 : decode cX9_spotNumber 18 = .ok (.imul, 1) := by decide +kernel
theorem dX9_spotNumber_19 : decode cX9_spotNumber 19 = .ok (.aload_n 0, 1) := by decide +kernel
theorem dX9_spotNumber_20 : decode cX9_spotNumber 20 = .ok (.getfield 60, 3) := by decide +kernel
theorem dX9_spotNumber_23 : decode cX9_spotNumber 23 = .ok (.iconst 2, 1) := by decide +kernel
theorem dX9_spotNumber_24 : decode cX9_spotNumber 24 = .ok (.iaload, 1) := by decide +kernel
theorem dX9_spotNumber_25 : decode cX9_spotNumber 25 = .ok (.iadd, 1) := by decide +kernel
theorem dX9_spotNumber_26 : decode cX9_spotNumber 26 = .ok (.ireturn, 1) := by decide +kernel
theorem dX9_layFar_0 : decode cX9_layFar 0 = .ok (.iconst 0, 1) := by decide +kernel
theorem dX9_layFar_1 : decode cX9_layFar 1 = .ok (.istore_n 2, 1) := by decide +kernel
theorem dX9_layFar_2 : decode cX9_layFar 2 = .ok (.iload_n 2, 1) := by decide +kernel
theorem dX9_layFar_3 : decode cX9_layFar 3 = .ok (.sipush 980, 3) := by decide +kernel
theorem dX9_layFar_6 : decode cX9_layFar 6 = .ok (.if_icmp .ge 17, 3) := by decide +kernel
theorem dX9_layFar_9 : decode cX9_layFar 9 = .ok (.aload_n 0, 1) := by decide +kernel
theorem dX9_layFar_10 : decode cX9_layFar 10 = .ok (.getfield 63, 3) := by decide +kernel
theorem dX9_layFar_13 : decode cX9_layFar 13 = .ok (.iload_n 2, 1) := by decide +kernel
theorem dX9_layFar_14 : decode cX9_layFar 14 = .ok (.bipush (-9), 2) := by decide +kernel
theorem dX9_layFar_16 : decode cX9_layFar 16 = .ok (.iastore, 1) := by decide +kernel
theorem dX9_layFar_17 : decode cX9_layFar 17 = .ok (.iinc 2 1, 3) := by decide +kernel
theorem dX9_layFar_20 : decode cX9_layFar 20 = .ok (.goto (-18), 3) := by decide +kernel
theorem dX9_layFar_23 : decode cX9_layFar 23 = .ok (.aload_n 0, 1) := by decide +kernel
theorem dX9_layFar_24 : decode cX9_layFar 24 = .ok (.aload_n 0, 1) := by decide +kernel
theorem dX9_layFar_25 : decode cX9_layFar 25 = .ok (.getfield 35, 3) := by decide +kernel
theorem dX9_layFar_28 : decode cX9_layFar 28 = .ok (.iload_n 1, 1) := by decide +kernel
theorem dX9_layFar_29 : decode cX9_layFar 29 = .ok (.invokevirtual 148, 3) := by decide +kernel
theorem dX9_layFar_32 : decode cX9_layFar 32 = .ok (.aload_n 0, 1) := by decide +kernel
theorem dX9_layFar_33 : decode cX9_layFar 33 = .ok (.invokevirtual 212, 3) := by decide +kernel
theorem dX9_layFar_36 : decode cX9_layFar 36 = .ok (.istore_n 2, 1) := by decide +kernel
theorem dX9_layFar_37 : decode cX9_layFar 37 = .ok (.iconst 0, 1) := by decide +kernel
theorem dX9_layFar_38 : decode cX9_layFar 38 = .ok (.istore_n 3, 1) := by decide +kernel
theorem dX9_layFar_39 : decode cX9_layFar 39 = .ok (.iconst 1, 1) := by decide +kernel
theorem dX9_layFar_40 : decode cX9_layFar 40 = .ok (.istore 4, 2) := by decide +kernel
theorem dX9_layFar_42 : decode cX9_layFar 42 = .ok (.aload_n 0, 1) := by decide +kernel
theorem dX9_layFar_43 : decode cX9_layFar 43 = .ok (.getfield 63, 3) := by decide +kernel
theorem dX9_layFar_46 : decode cX9_layFar 46 = .ok (.iload_n 2, 1) := by decide +kernel
theorem dX9_layFar_47 : decode cX9_layFar 47 = .ok (.iconst 0, 1) := by decide +kernel
theorem dX9_layFar_48 : decode cX9_layFar 48 = .ok (.iastore, 1) := by decide +kernel
end
section
theorem dX9_layFar_49 : decode cX9_layFar 49 = .ok (.aload_n 0, 1) := by decide +kernel
theorem dX9_layFar_50 : decode cX9_layFar 50 = .ok (.getfield 66, 3) := by decide +kernel
theorem dX9_layFar_53 : decode cX9_layFar 53 = .ok (.iconst 0, 1) := by decide +kernel
theorem dX9_layFar_54 : decode cX9_layFar 54 = .ok (.iload_n 2, 1) := by decide +kernel
theorem dX9_layFar_55 : decode cX9_layFar 55 = .ok (.iastore, 1) := by decide +kernel
theorem dX9_layFar_56 : decode cX9_layFar 56 = .ok (.iload_n 3, 1) := by decide +kernel
theorem dX9_layFar_57 : decode cX9_layFar 57 = .ok (.iload 4, 2) := by decide +kernel
theorem dX9_layFar_59 : decode cX9_layFar 59 = .ok (.if_icmp .ge 177, 3) := by decide +kernel
theorem dX9_layFar_62 : decode cX9_layFar 62 = .ok (.aload_n 0, 1) := by decide +kernel
theorem dX9_layFar_63 : decode cX9_layFar 63 = .ok (.getfield 66, 3) := by decide +kernel
theorem dX9_layFar_66 : decode cX9_layFar 66 = .ok (.iload_n 3, 1) := by decide +kernel
theorem dX9_layFar_67 : decode cX9_layFar 67 = .ok (.iaload, 1) := by decide +kernel
theorem dX9_layFar_68 : decode cX9_layFar 68 = .ok (.istore 5, 2) := by decide +kernel
theorem dX9_layFar_70 : decode cX9_layFar 70 = .ok (.iinc 3 1, 3) := by decide +kernel
theorem dX9_layFar_73 : decode cX9_layFar 73 = .ok (.iconst 0, 1) := by decide +kernel
theorem dX9_layFar_74 : decode cX9_layFar 74 = .ok (.istore 6, 2) := by decide +kernel
theorem dX9_layFar_76 : decode cX9_layFar 76 = .ok (.iload 6, 2) := by decide +kernel
theorem dX9_layFar_78 : decode cX9_layFar 78 = .ok (.iconst 4, 1) := by decide +kernel
theorem dX9_layFar_79 : decode cX9_layFar 79 = .ok (.if_icmp .ge 154, 3) := by decide +kernel
theorem dX9_layFar_82 : decode cX9_layFar 82 = .ok (.aload_n 0, 1) := by decide +kernel
theorem dX9_layFar_83 : decode cX9_layFar 83 = .ok (.getfield 60, 3) := by decide +kernel
theorem dX9_layFar_86 : decode cX9_layFar 86 = .ok (.iconst 0, 1) := by decide +kernel
theorem dX9_layFar_87 : decode cX9_layFar 87 = .ok (.iload 5, 2) := by decide +kernel
theorem dX9_layFar_89 : decode cX9_layFar 89 = .ok (.bipush 49, 2) := by decide +kernel
theorem dX9_layFar_91 : decode cX9_layFar 91 = .ok (.idiv, 1) := by decide +kernel
theorem dX9_layFar_92 : decode cX9_layFar 92 = .ok (.iastore, 1) := by decide +kernel
theorem dX9_layFar_93 : decode cX9_layFar 93 = .ok (.aload_n 0, 1) := by decide +kernel
theorem dX9_layFar_94 : decode cX9_layFar 94 = .ok (.getfield 60, 3) := by decide +kernel
theorem dX9_layFar_97 : decode cX9_layFar 97 = .ok (.iconst 1, 1) := by decide +kernel
theorem dX9_layFar_98 : decode cX9_layFar 98 = .ok (.iload 5, 2) := by decide +kernel
theorem dX9_layFar_100 : decode cX9_layFar 100 = .ok (.bipush 7, 2) := by decide +kernel
theorem dX9_layFar_102 : decode cX9_layFar 102 = .ok (.idiv, 1) := by decide +kernel
theorem dX9_layFar_103 : decode cX9_layFar 103 = .ok (.bipush 7, 2) := by decide +kernel
theorem dX9_layFar_105 : decode cX9_layFar 105 = .ok (.irem, 1) := by decide +kernel
theorem dX9_layFar_106 : decode cX9_layFar 106 = .ok (.iastore, 1) := by decide +kernel
theorem dX9_layFar_107 : decode cX9_layFar 107 = .ok (.aload_n 0, 1) := by decide +kernel
theorem dX9_layFar_108 : decode cX9_layFar 108 = .ok (.getfield 60, 3) := by decide +kernel
theorem dX9_layFar_111 : decode cX9_layFar 111 = .ok (.iconst 2, 1) := by decide +kernel
theorem dX9_layFar_112 : decode cX9_layFar 112 = .ok (.iload 5, 2) := by decide +kernel
theorem dX9_layFar_114 : decode cX9_layFar 114 = .ok (.bipush 7, 2) := by decide +kernel
theorem dX9_layFar_116 : decode cX9_layFar 116 = .ok (.irem, 1) := by decide +kernel
theorem dX9_layFar_117 : decode cX9_layFar 117 = .ok (.iastore, 1) := by decide +kernel
theorem dX9_layFar_118 : decode cX9_layFar 118 = .ok (.aload_n 0, 1) := by decide +kernel
theorem dX9_layFar_119 : decode cX9_layFar 119 = .ok (.iload 6, 2) := by decide +kernel
theorem dX9_layFar_121 : decode cX9_layFar 121 = .ok (.aload_n 0, 1) := by decide +kernel
theorem dX9_layFar_122 : decode cX9_layFar 122 = .ok (.getfield 26, 3) := by decide +kernel
theorem dX9_layFar_125 : decode cX9_layFar 125 = .ok (.iload_n 1, 1) := by decide +kernel
theorem dX9_layFar_126 : decode cX9_layFar 126 = .ok (.iaload, 1) := by decide +kernel
theorem dX9_layFar_127 : decode cX9_layFar 127 = .ok (.iconst 3, 1) := by decide +kernel
theorem dX9_layFar_128 : decode cX9_layFar 128 = .ok (.if_icmp .ne 7, 3) := by decide +kernel
theorem dX9_layFar_131 : decode cX9_layFar 131 = .ok (.iconst 1, 1) := by decide +kernel
theorem dX9_layFar_132 : decode cX9_layFar 132 = .ok (.goto 4, 3) := by decide +kernel
theorem dX9_layFar_135 : decode cX9_layFar 135 = .ok (.iconst 0, 1) := by decide +kernel
theorem dX9_layFar_136 : decode cX9_layFar 136 = .ok (.invokevirtual 140, 3) := by decide +kernel
theorem dX9_layFar_139 : decode cX9_layFar 139 = .ok (.aload_n 0, 1) := by decide +kernel
theorem dX9_layFar_140 : decode cX9_layFar 140 = .ok (.invokevirtual 152, 3) := by decide +kernel
theorem dX9_layFar_143 : decode cX9_layFar 143 = .ok (.ifCond .eq 25, 3) := by decide +kernel
theorem dX9_layFar_146 : decode cX9_layFar 146 = .ok (.aload_n 0, 1) := by decide +kernel
theorem dX9_layFar_147 : decode cX9_layFar 147 = .ok (.aload_n 0, 1) := by decide +kernel
theorem dX9_layFar_148 : decode cX9_layFar 148 = .ok (.getfield 35, 3) := by decide +kernel
theorem dX9_layFar_151 : decode cX9_layFar 151 = .ok (.iload_n 1, 1) := by decide +kernel
theorem dX9_layFar_152 : decode cX9_layFar 152 = .ok (.aload_n 0, 1) := by decide +kernel
theorem dX9_layFar_153 : decode cX9_layFar 153 = .ok (.getfield 60, 3) := by decide +kernel
theorem dX9_layFar_156 : decode cX9_layFar 156 = .ok (.iconst 0, 1) := by decide +kernel
theorem dX9_layFar_157 : decode cX9_layFar 157 = .ok (.iaload, 1) := by decide +kernel
theorem dX9_layFar_158 : decode cX9_layFar 158 = .ok (.invokevirtual 155, 3) := by decide +kernel
theorem dX9_layFar_161 : decode cX9_layFar 161 = .ok (.ifCond .eq 7, 3) := by decide +kernel
theorem dX9_layFar_164 : decode cX9_layFar 164 = .ok (.iconst 1, 1) := by decide +kernel
theorem dX9_layFar_165 : decode cX9_layFar 165 = .ok (.goto 4, 3) := by decide +kernel
theorem dX9_layFar_168 : decode cX9_layFar 168 = .ok (.iconst 0, 1) := by decide +kernel
theorem dX9_layFar_169 : decode cX9_layFar 169 = .ok (.istore 7, 2) := by decide +kernel
theorem dX9_layFar_171 : decode cX9_layFar 171 = .ok (.iload 7, 2) := by decide +kernel
theorem dX9_layFar_173 : decode cX9_layFar 173 = .ok (.ifCond .eq 10, 3) := by decide +kernel
theorem dX9_layFar_176 : decode cX9_layFar 176 = .ok (.aload_n 0, 1) := by decide +kernel
theorem dX9_layFar_177 : decode cX9_layFar 177 = .ok (.invokevirtual 212, 3) := by decide +kernel
theorem dX9_layFar_180 : decode cX9_layFar 180 = .ok (.goto 5, 3) := by decide +kernel
theorem dX9_layFar_183 : decode cX9_layFar 183 = .ok (.iload 5, 2) := by decide +kernel
theorem dX9_layFar_185 : decode cX9_layFar 185 = .ok (.istore 8, 2) := by decide +kernel
theorem dX9_layFar_187 : decode cX9_layFar 187 = .ok (.aload_n 0, 1) := by decide +kernel
theorem dX9_layFar_188 : decode cX9_layFar 188 = .ok (.getfield 63, 3) := by decide +kernel
theorem dX9_layFar_191 : decode cX9_layFar 191 = .ok (.iload 8, 2) := by decide +kernel
theorem dX9_layFar_193 : decode cX9_layFar 193 = .ok (.iaload, 1) := by decide +kernel
theorem dX9_layFar_194 : decode cX9_layFar 194 = .ok (.bipush (-9), 2) := by decide +kernel
theorem dX9_layFar_196 : decode cX9_layFar 196 = .ok (.if_icmp .ne 31, 3) := by decide +kernel
theorem dX9_layFar_199 : decode cX9_layFar 199 = .ok (.aload_n 0, 1) := by decide +kernel
theorem dX9_layFar_200 : decode cX9_layFar 200 = .ok (.getfield 63, 3) := by decide +kernel
theorem dX9_layFar_203 : decode cX9_layFar 203 = .ok (.iload 8, 2) := by decide +kernel
theorem dX9_layFar_205 : decode cX9_layFar 205 = .ok (.aload_n 0, 1) := by decide +kernel
theorem dX9_layFar_206 : decode cX9_layFar 206 = .ok (.getfield 63, 3) := by decide +kernel
theorem dX9_layFar_209 : decode cX9_layFar 209 = .ok (.iload 5, 2) := by decide +kernel
theorem dX9_layFar_211 : decode cX9_layFar 211 = .ok (.iaload, 1) := by decide +kernel
theorem dX9_layFar_212 : decode cX9_layFar 212 = .ok (.iconst 1, 1) := by decide +kernel
theorem dX9_layFar_213 : decode cX9_layFar 213 = .ok (.iadd, 1) := by decide +kernel
theorem dX9_layFar_214 : decode cX9_layFar 214 = .ok (.iastore, 1) := by decide +kernel
theorem dX9_layFar_215 : decode cX9_layFar 215 = .ok (.aload_n 0, 1) := by decide +kernel
theorem dX9_layFar_216 : decode cX9_layFar 216 = .ok (.getfield 66, 3) := by decide +kernel
theorem dX9_layFar_219 : decode cX9_layFar 219 = .ok (.iload 4, 2) := by decide +kernel
theorem dX9_layFar_221 : decode cX9_layFar 221 = .ok (.iload 8, 2) := by decide +kernel
theorem dX9_layFar_223 : decode cX9_layFar 223 = .ok (.iastore, 1) := by decide +kernel
theorem dX9_layFar_224 : decode cX9_layFar 224 = .ok (.iinc 4 1, 3) := by decide +kernel
theorem dX9_layFar_227 : decode cX9_layFar 227 = .ok (.iinc 6 1, 3) := by decide +kernel
theorem dX9_layFar_230 : decode cX9_layFar 230 = .ok (.goto (-154), 3) := by decide +kernel
theorem dX9_layFar_233 : decode cX9_layFar 233 = .ok (.goto (-177), 3) := by decide +kernel
theorem dX9_layFar_236 : decode cX9_layFar 236 = .ok (.return_, 1) := by decide +kernel
theorem dX9_far_0 : decode cX9_far 0 = .ok (.aload_n 0, 1) := by decide +kernel
theorem dX9_far_1 : decode cX9_far 1 = .ok (.iconst 0, 1) := by decide +kernel
theorem dX9_far_2 : decode cX9_far 2 = .ok (.putfield 75, 3) := by decide +kernel
theorem dX9_far_5 : decode cX9_far 5 = .ok (.aload_n 0, 1) := by decide +kernel
theorem dX9_far_6 : decode cX9_far 6 = .ok (.iload_n 1, 1) := by decide +kernel
theorem dX9_far_7 : decode cX9_far 7 = .ok (.invokevirtual 191, 3) := by decide +kernel
theorem dX9_far_10 : decode cX9_far 10 = .ok (.ifCond .eq 5, 3) := by decide +kernel
theorem dX9_far_13 : decode cX9_far 13 = .ok (.iconst (-1), 1) := by decide +kernel
theorem dX9_far_14 : decode cX9_far 14 = .ok (.ireturn, 1) := by decide +kernel
theorem dX9_far_15 : decode cX9_far 15 = .ok (.aload_n 0, 1) := by decide +kernel
theorem dX9_far_16 : decode cX9_far 16 = .ok (.iload_n 1, 1) := by decide +kernel
theorem dX9_far_17 : decode cX9_far 17 = .ok (.invokevirtual 215, 3) := by decide +kernel
theorem dX9_far_20 : decode cX9_far 20 = .ok (.aload_n 0, 1) := by decide +kernel
theorem dX9_far_21 : decode cX9_far 21 = .ok (.getfield 63, 3) := by decide +kernel
theorem dX9_far_24 : decode cX9_far 24 = .ok (.aload_n 0, 1) := by decide +kernel
theorem dX9_far_25 : decode cX9_far 25 = .ok (.getfield 23, 3) := by decide +kernel
theorem dX9_far_28 : decode cX9_far 28 = .ok (.iload_n 1, 1) := by decide +kernel
theorem dX9_far_29 : decode cX9_far 29 = .ok (.iaload, 1) := by decide +kernel
theorem dX9_far_30 : decode cX9_far 30 = .ok (.bipush 7, 2) := by decide +kernel
theorem dX9_far_32 : decode cX9_far 32 = .ok (.imul, 1) := by decide +kernel
theorem dX9_far_33 : decode cX9_far 33 = .ok (.iconst 3, 1) := by decide +kernel
theorem dX9_far_34 : decode cX9_far 34 = .ok (.iadd, 1) := by decide +kernel
theorem dX9_far_35 : decode cX9_far 35 = .ok (.bipush 7, 2) := by decide +kernel
theorem dX9_far_37 : decode cX9_far 37 = .ok (.imul, 1) := by decide +kernel
theorem dX9_far_38 : decode cX9_far 38 = .ok (.iconst 3, 1) := by decide +kernel
theorem dX9_far_39 : decode cX9_far 39 = .ok (.iadd, 1) := by decide +kernel
theorem dX9_far_40 : decode cX9_far 40 = .ok (.iaload, 1) := by decide +kernel
theorem dX9_far_41 : decode cX9_far 41 = .ok (.ireturn, 1) := by decide +kernel
theorem dX9_reachOf_0 : decode cX9_reachOf 0 = .ok (.aload_n 0, 1) := by decide +kernel
theorem dX9_reachOf_1 : decode cX9_reachOf 1 = .ok (.iload_n 1, 1) := by decide +kernel
theorem dX9_reachOf_2 : decode cX9_reachOf 2 = .ok (.invokevirtual 215, 3) := by decide +kernel
theorem dX9_reachOf_5 : decode cX9_reachOf 5 = .ok (.iconst 0, 1) := by decide +kernel
theorem dX9_reachOf_6 : decode cX9_reachOf 6 = .ok (.istore_n 3, 1) := by decide +kernel
theorem dX9_reachOf_7 : decode cX9_reachOf 7 = .ok (.iconst 0, 1) := by decide +kernel
theorem dX9_reachOf_8 : decode cX9_reachOf 8 = .ok (.istore 4, 2) := by decide +kernel
theorem dX9_reachOf_10 : decode cX9_reachOf 10 = .ok (.iload 4, 2) := by decide +kernel
theorem dX9_reachOf_12 : decode cX9_reachOf 12 = .ok (.sipush 980, 3) := by decide +kernel
theorem dX9_reachOf_15 : decode cX9_reachOf 15 = .ok (.if_icmp .ge 46, 3) := by decide +kernel
theorem dX9_reachOf_18 : decode cX9_reachOf 18 = .ok (.iload_n 3, 1) := by decide +kernel
theorem dX9_reachOf_19 : decode cX9_reachOf 19 = .ok (.aload_n 0, 1) := by decide +kernel
theorem dX9_reachOf_20 : decode cX9_reachOf 20 = .ok (.getfield 63, 3) := by decide +kernel
theorem dX9_reachOf_23 : decode cX9_reachOf 23 = .ok (.iload 4, 2) := by decide +kernel
theorem dX9_reachOf_25 : decode cX9_reachOf 25 = .ok (.iaload, 1) := by decide +kernel
theorem dX9_reachOf_26 : decode cX9_reachOf 26 = .ok (.bipush (-9), 2) := by decide +kernel
theorem dX9_reachOf_28 : decode cX9_reachOf 28 = .ok (.if_icmp .eq 24, 3) := by decide +kernel
theorem dX9_reachOf_31 : decode cX9_reachOf 31 = .ok (.aload_n 0, 1) := by decide +kernel
theorem dX9_reachOf_32 : decode cX9_reachOf 32 = .ok (.getfield 63, 3) := by decide +kernel
theorem dX9_reachOf_35 : decode cX9_reachOf 35 = .ok (.iload 4, 2) := by decide +kernel
theorem dX9_reachOf_37 : decode cX9_reachOf 37 = .ok (.iaload, 1) := by decide +kernel
theorem dX9_reachOf_38 : decode cX9_reachOf 38 = .ok (.iload_n 2, 1) := by decide +kernel
theorem dX9_reachOf_39 : decode cX9_reachOf 39 = .ok (.if_icmp .gt 13, 3) := by decide +kernel
theorem dX9_reachOf_42 : decode cX9_reachOf 42 = .ok (.iconst 1, 1) := by decide +kernel
theorem dX9_reachOf_43 : decode cX9_reachOf 43 = .ok (.iload 4, 2) := by decide +kernel
theorem dX9_reachOf_45 : decode cX9_reachOf 45 = .ok (.bipush 49, 2) := by decide +kernel
theorem dX9_reachOf_47 : decode cX9_reachOf 47 = .ok (.idiv, 1) := by decide +kernel
theorem dX9_reachOf_48 : decode cX9_reachOf 48 = .ok (.ishl, 1) := by decide +kernel
theorem dX9_reachOf_49 : decode cX9_reachOf 49 = .ok (.goto 4, 3) := by decide +kernel
theorem dX9_reachOf_52 : decode cX9_reachOf 52 = .ok (.iconst 0, 1) := by decide +kernel
theorem dX9_reachOf_53 : decode cX9_reachOf 53 = .ok (.ior, 1) := by decide +kernel
theorem dX9_reachOf_54 : decode cX9_reachOf 54 = .ok (.istore_n 3, 1) := by decide +kernel
theorem dX9_reachOf_55 : decode cX9_reachOf 55 = .ok (.iinc 4 1, 3) := by decide +kernel
theorem dX9_reachOf_58 : decode cX9_reachOf 58 = .ok (.goto (-48), 3) := by decide +kernel
theorem dX9_reachOf_61 : decode cX9_reachOf 61 = .ok (.iload_n 3, 1) := by decide +kernel
theorem dX9_reachOf_62 : decode cX9_reachOf 62 = .ok (.ireturn, 1) := by decide +kernel
theorem dX9_reach_0 : decode cX9_reach 0 = .ok (.aload_n 0, 1) := by decide +kernel
theorem dX9_reach_1 : decode cX9_reach 1 = .ok (.iconst 0, 1) := by decide +kernel
theorem dX9_reach_2 : decode cX9_reach 2 = .ok (.putfield 75, 3) := by decide +kernel
theorem dX9_reach_5 : decode cX9_reach 5 = .ok (.aload_n 0, 1) := by decide +kernel
theorem dX9_reach_6 : decode cX9_reach 6 = .ok (.iload_n 1, 1) := by decide +kernel
theorem dX9_reach_7 : decode cX9_reach 7 = .ok (.invokevirtual 191, 3) := by decide +kernel
theorem dX9_reach_10 : decode cX9_reach 10 = .ok (.ifCond .eq 5, 3) := by decide +kernel
theorem dX9_reach_13 : decode cX9_reach 13 = .ok (.iconst (-1), 1) := by decide +kernel
theorem dX9_reach_14 : decode cX9_reach 14 = .ok (.ireturn, 1) := by decide +kernel
theorem dX9_reach_15 : decode cX9_reach 15 = .ok (.iload_n 2, 1) := by decide +kernel
theorem dX9_reach_16 : decode cX9_reach 16 = .ok (.i2l, 1) := by decide +kernel
theorem dX9_reach_17 : decode cX9_reach 17 = .ok (.lconst 0, 1) := by decide +kernel
theorem dX9_reach_18 : decode cX9_reach 18 = .ok (.ldc2_w 219, 3) := by decide +kernel
theorem dX9_reach_21 : decode cX9_reach 21 = .ok (.invokestatic 81, 3) := by decide +kernel
theorem dX9_reach_24 : decode cX9_reach 24 = .ok (.ifCond .eq 12, 3) := by decide +kernel
theorem dX9_reach_27 : decode cX9_reach 27 = .ok (.aload_n 0, 1) := by decide +kernel
theorem dX9_reach_28 : decode cX9_reach 28 = .ok (.iload_n 1, 1) := by decide +kernel
theorem dX9_reach_29 : decode cX9_reach 29 = .ok (.iload_n 2, 1) := by decide +kernel
theorem dX9_reach_30 : decode cX9_reach 30 = .ok (.invokevirtual 221, 3) := by decide +kernel
theorem dX9_reach_33 : decode cX9_reach 33 = .ok (.goto 5, 3) := by decide +kernel
theorem dX9_reach_36 : decode cX9_reach 36 = .ok (.bipush (-2), 2) := by decide +kernel
theorem dX9_reach_38 : decode cX9_reach 38 = .ok (.ireturn, 1) := by decide +kernel
theorem dX9_again_0 : decode cX9_again 0 = .ok (.aload_n 0, 1) := by decide +kernel
theorem dX9_again_1 : decode cX9_again 1 = .ok (.iconst 0, 1) := by decide +kernel
theorem dX9_again_2 : decode cX9_again 2 = .ok (.putfield 75, 3) := by decide +kernel
theorem dX9_again_5 : decode cX9_again 5 = .ok (.aload_n 0, 1) := by decide +kernel
theorem dX9_again_6 : decode cX9_again 6 = .ok (.iload_n 1, 1) := by decide +kernel
theorem dX9_again_7 : decode cX9_again 7 = .ok (.invokevirtual 191, 3) := by decide +kernel
theorem dX9_again_10 : decode cX9_again 10 = .ok (.ifCond .eq 5, 3) := by decide +kernel
theorem dX9_again_13 : decode cX9_again 13 = .ok (.iconst (-1), 1) := by decide +kernel
theorem dX9_again_14 : decode cX9_again 14 = .ok (.ireturn, 1) := by decide +kernel
theorem dX9_again_15 : decode cX9_again 15 = .ok (.iload_n 2, 1) := by decide +kernel
theorem dX9_again_16 : decode cX9_again 16 = .ok (.invokestatic 184, 3) := by decide +kernel
theorem dX9_again_19 : decode cX9_again 19 = .ok (.ifCond .eq 6, 3) := by decide +kernel
theorem dX9_again_22 : decode cX9_again 22 = .ok (.bipush (-2), 2) := by decide +kernel
theorem dX9_again_24 : decode cX9_again 24 = .ok (.ireturn, 1) := by decide +kernel
theorem dX9_again_25 : decode cX9_again 25 = .ok (.aload_n 0, 1) := by decide +kernel
theorem dX9_again_26 : decode cX9_again 26 = .ok (.getfield 35, 3) := by decide +kernel
theorem dX9_again_29 : decode cX9_again 29 = .ok (.iload_n 1, 1) := by decide +kernel
theorem dX9_again_30 : decode cX9_again 30 = .ok (.iaload, 1) := by decide +kernel
theorem dX9_again_31 : decode cX9_again 31 = .ok (.istore_n 3, 1) := by decide +kernel
theorem dX9_again_32 : decode cX9_again 32 = .ok (.iconst 1, 1) := by decide +kernel
theorem dX9_again_33 : decode cX9_again 33 = .ok (.istore 4, 2) := by decide +kernel
theorem dX9_again_35 : decode cX9_again 35 = .ok (.iload 4, 2) := by decide +kernel
theorem dX9_again_37 : decode cX9_again 37 = .ok (.bipush 20, 2) := by decide +kernel
theorem dX9_again_39 : decode cX9_again 39 = .ok (.if_icmp .gt 60, 3) := by decide +kernel
theorem dX9_again_42 : decode cX9_again 42 = .ok (.aload_n 0, 1) := by decide +kernel
theorem dX9_again_43 : decode cX9_again 43 = .ok (.iload_n 3, 1) := by decide +kernel
theorem dX9_again_44 : decode cX9_again 44 = .ok (.iload_n 2, 1) := by decide +kernel
theorem dX9_again_45 : decode cX9_again 45 = .ok (.aload_n 0, 1) := by decide +kernel
theorem dX9_again_46 : decode cX9_again 46 = .ok (.getfield 26, 3) := by decide +kernel
theorem dX9_again_49 : decode cX9_again 49 = .ok (.iload_n 1, 1) := by decide +kernel
theorem dX9_again_50 : decode cX9_again 50 = .ok (.iaload, 1) := by decide +kernel
theorem dX9_again_51 : decode cX9_again 51 = .ok (.iconst 3, 1) := by decide +kernel
theorem dX9_again_52 : decode cX9_again 52 = .ok (.if_icmp .ne 7, 3) := by decide +kernel
theorem dX9_again_55 : decode cX9_again 55 = .ok (.iconst 1, 1) := by decide +kernel
theorem dX9_again_56 : decode cX9_again 56 = .ok (.goto 4, 3) := by decide +kernel
theorem dX9_again_59 : decode cX9_again 59 = .ok (.iconst 0, 1) := by decide +kernel
theorem dX9_again_60 : decode cX9_again 60 = .ok (.invokevirtual 187, 3) := by decide +kernel
theorem dX9_again_63 : decode cX9_again 63 = .ok (.istore_n 3, 1) := by decide +kernel
theorem dX9_again_64 : decode cX9_again 64 = .ok (.aload_n 0, 1) := by decide +kernel
theorem dX9_again_65 : decode cX9_again 65 = .ok (.aload_n 0, 1) := by decide +kernel
theorem dX9_again_66 : decode cX9_again 66 = .ok (.getfield 35, 3) := by decide +kernel
theorem dX9_again_69 : decode cX9_again 69 = .ok (.iload_n 1, 1) := by decide +kernel
theorem dX9_again_70 : decode cX9_again 70 = .ok (.iload_n 3, 1) := by decide +kernel
theorem dX9_again_71 : decode cX9_again 71 = .ok (.invokevirtual 155, 3) := by decide +kernel
theorem dX9_again_74 : decode cX9_again 74 = .ok (.ifCond .ne 6, 3) := by decide +kernel
theorem dX9_again_77 : decode cX9_again 77 = .ok (.bipush (-9), 2) := by decide +kernel
theorem dX9_again_79 : decode cX9_again 79 = .ok (.ireturn, 1) := by decide +kernel
theorem dX9_again_80 : decode cX9_again 80 = .ok (.iload_n 3, 1) := by decide +kernel
theorem dX9_again_81 : decode cX9_again 81 = .ok (.aload_n 0, 1) := by decide +kernel
theorem dX9_again_82 : decode cX9_again 82 = .ok (.getfield 35, 3) := by decide +kernel
theorem dX9_again_85 : decode cX9_again 85 = .ok (.iload_n 1, 1) := by decide +kernel
theorem dX9_again_86 : decode cX9_again 86 = .ok (.iaload, 1) := by decide +kernel
theorem dX9_again_87 : decode cX9_again 87 = .ok (.if_icmp .ne 6, 3) := by decide +kernel
theorem dX9_again_90 : decode cX9_again 90 = .ok (.iload 4, 2) := by decide +kernel
theorem dX9_again_92 : decode cX9_again 92 = .ok (.ireturn, 1) := by decide +kernel
theorem dX9_again_93 : decode cX9_again 93 = .ok (.iinc 4 1, 3) := by decide +kernel
theorem dX9_again_96 : decode cX9_again 96 = .ok (.goto (-61), 3) := by decide +kernel
theorem dX9_again_99 : decode cX9_again 99 = .ok (.bipush (-9), 2) := by decide +kernel
theorem dX9_again_101 : decode cX9_again 101 = .ok (.ireturn, 1) := by decide +kernel
theorem dX9_areAlike_0 : decode cX9_areAlike 0 = .ok (.aload_n 0, 1) := by decide +kernel
theorem dX9_areAlike_1 : decode cX9_areAlike 1 = .ok (.aload_n 0, 1) := by decide +kernel
theorem dX9_areAlike_2 : decode cX9_areAlike 2 = .ok (.getfield 35, 3) := by decide +kernel
theorem dX9_areAlike_5 : decode cX9_areAlike 5 = .ok (.iload_n 1, 1) := by decide +kernel
theorem dX9_areAlike_6 : decode cX9_areAlike 6 = .ok (.invokevirtual 144, 3) := by decide +kernel
theorem dX9_areAlike_9 : decode cX9_areAlike 9 = .ok (.aload_n 0, 1) := by decide +kernel
theorem dX9_areAlike_10 : decode cX9_areAlike 10 = .ok (.aload_n 0, 1) := by decide +kernel
theorem dX9_areAlike_11 : decode cX9_areAlike 11 = .ok (.getfield 35, 3) := by decide +kernel
theorem dX9_areAlike_14 : decode cX9_areAlike 14 = .ok (.iload_n 2, 1) := by decide +kernel
theorem dX9_areAlike_15 : decode cX9_areAlike 15 = .ok (.invokevirtual 144, 3) := by decide +kernel
theorem dX9_areAlike_18 : decode cX9_areAlike 18 = .ok (.if_icmp .ne 7, 3) := by decide +kernel
theorem dX9_areAlike_21 : decode cX9_areAlike 21 = .ok (.iconst 1, 1) := by decide +kernel
theorem dX9_areAlike_22 : decode cX9_areAlike 22 = .ok (.goto 4, 3) := by decide +kernel
theorem dX9_areAlike_25 : decode cX9_areAlike 25 = .ok (.iconst 0, 1) := by decide +kernel
theorem dX9_areAlike_26 : decode cX9_areAlike 26 = .ok (.istore_n 3, 1) := by decide +kernel
theorem dX9_areAlike_27 : decode cX9_areAlike 27 = .ok (.iconst 0, 1) := by decide +kernel
theorem dX9_areAlike_28 : decode cX9_areAlike 28 = .ok (.istore 4, 2) := by decide +kernel
theorem dX9_areAlike_30 : decode cX9_areAlike 30 = .ok (.iload 4, 2) := by decide +kernel
theorem dX9_areAlike_32 : decode cX9_areAlike 32 = .ok (.iconst 4, 1) := by decide +kernel
theorem dX9_areAlike_33 : decode cX9_areAlike 33 = .ok (.if_icmp .ge 54, 3) := by decide +kernel
theorem dX9_areAlike_36 : decode cX9_areAlike 36 = .ok (.iload_n 3, 1) := by decide +kernel
theorem dX9_areAlike_37 : decode cX9_areAlike 37 = .ok (.ifCond .eq 42, 3) := by decide +kernel
theorem dX9_areAlike_40 : decode cX9_areAlike 40 = .ok (.aload_n 0, 1) := by decide +kernel
theorem dX9_areAlike_41 : decode cX9_areAlike 41 = .ok (.aload_n 0, 1) := by decide +kernel
theorem dX9_areAlike_42 : decode cX9_areAlike 42 = .ok (.getfield 35, 3) := by decide +kernel
theorem dX9_areAlike_45 : decode cX9_areAlike 45 = .ok (.aload_n 0, 1) := by decide +kernel
theorem dX9_areAlike_46 : decode cX9_areAlike 46 = .ok (.iload_n 1, 1) := by decide +kernel
theorem dX9_areAlike_47 : decode cX9_areAlike 47 = .ok (.iload 4, 2) := by decide +kernel
theorem dX9_areAlike_49 : decode cX9_areAlike 49 = .ok (.iconst 0, 1) := by decide +kernel
theorem dX9_areAlike_50 : decode cX9_areAlike 50 = .ok (.invokevirtual 187, 3) := by decide +kernel
theorem dX9_areAlike_53 : decode cX9_areAlike 53 = .ok (.invokevirtual 144, 3) := by decide +kernel
theorem dX9_areAlike_56 : decode cX9_areAlike 56 = .ok (.aload_n 0, 1) := by decide +kernel
theorem dX9_areAlike_57 : decode cX9_areAlike 57 = .ok (.aload_n 0, 1) := by decide +kernel
theorem dX9_areAlike_58 : decode cX9_areAlike 58 = .ok (.getfield 35, 3) := by decide +kernel
theorem dX9_areAlike_61 : decode cX9_areAlike 61 = .ok (.aload_n 0, 1) := by decide +kernel
theorem dX9_areAlike_62 : decode cX9_areAlike 62 = .ok (.iload_n 2, 1) := by decide +kernel
theorem dX9_areAlike_63 : decode cX9_areAlike 63 = .ok (.iload 4, 2) := by decide +kernel
theorem dX9_areAlike_65 : decode cX9_areAlike 65 = .ok (.iconst 0, 1) := by decide +kernel
theorem dX9_areAlike_66 : decode cX9_areAlike 66 = .ok (.invokevirtual 187, 3) := by decide +kernel
theorem dX9_areAlike_69 : decode cX9_areAlike 69 = .ok (.invokevirtual 144, 3) := by decide +kernel
theorem dX9_areAlike_72 : decode cX9_areAlike 72 = .ok (.if_icmp .ne 7, 3) := by decide +kernel
theorem dX9_areAlike_75 : decode cX9_areAlike 75 = .ok (.iconst 1, 1) := by decide +kernel
theorem dX9_areAlike_76 : decode cX9_areAlike 76 = .ok (.goto 4, 3) := by decide +kernel
theorem dX9_areAlike_79 : decode cX9_areAlike 79 = .ok (.iconst 0, 1) := by decide +kernel
theorem dX9_areAlike_80 : decode cX9_areAlike 80 = .ok (.istore_n 3, 1) := by decide +kernel
theorem dX9_areAlike_81 : decode cX9_areAlike 81 = .ok (.iinc 4 1, 3) := by decide +kernel
theorem dX9_areAlike_84 : decode cX9_areAlike 84 = .ok (.goto (-54), 3) := by decide +kernel
theorem dX9_areAlike_87 : decode cX9_areAlike 87 = .ok (.iload_n 3, 1) := by decide +kernel
theorem dX9_areAlike_88 : decode cX9_areAlike 88 = .ok (.ireturn, 1) := by decide +kernel
theorem dX9_alike_0 : decode cX9_alike 0 = .ok (.aload_n 0, 1) := by decide +kernel
theorem dX9_alike_1 : decode cX9_alike 1 = .ok (.iconst 0, 1) := by decide +kernel
theorem dX9_alike_2 : decode cX9_alike 2 = .ok (.putfield 75, 3) := by decide +kernel
theorem dX9_alike_5 : decode cX9_alike 5 = .ok (.aload_n 0, 1) := by decide +kernel
theorem dX9_alike_6 : decode cX9_alike 6 = .ok (.iload_n 1, 1) := by decide +kernel
theorem dX9_alike_7 : decode cX9_alike 7 = .ok (.invokevirtual 180, 3) := by decide +kernel
theorem dX9_alike_10 : decode cX9_alike 10 = .ok (.ifCond .eq 5, 3) := by decide +kernel
theorem dX9_alike_13 : decode cX9_alike 13 = .ok (.iconst (-1), 1) := by decide +kernel
theorem dX9_alike_14 : decode cX9_alike 14 = .ok (.ireturn, 1) := by decide +kernel
theorem dX9_alike_15 : decode cX9_alike 15 = .ok (.iconst 0, 1) := by decide +kernel
theorem dX9_alike_16 : decode cX9_alike 16 = .ok (.istore_n 2, 1) := by decide +kernel
theorem dX9_alike_17 : decode cX9_alike 17 = .ok (.iconst 0, 1) := by decide +kernel
theorem dX9_alike_18 : decode cX9_alike 18 = .ok (.istore_n 3, 1) := by decide +kernel
theorem dX9_alike_19 : decode cX9_alike 19 = .ok (.iload_n 3, 1) := by decide +kernel
theorem dX9_alike_20 : decode cX9_alike 20 = .ok (.aload_n 0, 1) := by decide +kernel
theorem dX9_alike_21 : decode cX9_alike 21 = .ok (.getfield 13, 3) := by decide +kernel
theorem dX9_alike_24 : decode cX9_alike 24 = .ok (.aload_n 0, 1) := by decide +kernel
theorem dX9_alike_25 : decode cX9_alike 25 = .ok (.getfield 17, 3) := by decide +kernel
theorem dX9_alike_28 : decode cX9_alike 28 = .ok (.imul, 1) := by decide +kernel
theorem dX9_alike_29 : decode cX9_alike 29 = .ok (.if_icmp .ge 28, 3) := by decide +kernel
theorem dX9_alike_32 : decode cX9_alike 32 = .ok (.iload_n 2, 1) := by decide +kernel
theorem dX9_alike_33 : decode cX9_alike 33 = .ok (.aload_n 0, 1) := by decide +kernel
theorem dX9_alike_34 : decode cX9_alike 34 = .ok (.iload_n 1, 1) := by decide +kernel
theorem dX9_alike_35 : decode cX9_alike 35 = .ok (.iload_n 3, 1) := by decide +kernel
theorem dX9_alike_36 : decode cX9_alike 36 = .ok (.invokevirtual 225, 3) := by decide +kernel
theorem dX9_alike_39 : decode cX9_alike 39 = .ok (.ifCond .eq 9, 3) := by decide +kernel
theorem dX9_alike_42 : decode cX9_alike 42 = .ok (.iconst 1, 1) := by decide +kernel
theorem dX9_alike_43 : decode cX9_alike 43 = .ok (.iload_n 3, 1) := by decide +kernel
theorem dX9_alike_44 : decode cX9_alike 44 = .ok (.ishl, 1) := by decide +kernel
theorem dX9_alike_45 : decode cX9_alike 45 = .ok (.goto 4, 3) := by decide +kernel
theorem dX9_alike_48 : decode cX9_alike 48 = .ok (.iconst 0, 1) := by decide +kernel
theorem dX9_alike_49 : decode cX9_alike 49 = .ok (.ior, 1) := by decide +kernel
theorem dX9_alike_50 : decode cX9_alike 50 = .ok (.istore_n 2, 1) := by decide +kernel
theorem dX9_alike_51 : decode cX9_alike 51 = .ok (.iinc 3 1, 3) := by decide +kernel
theorem dX9_alike_54 : decode cX9_alike 54 = .ok (.goto (-35), 3) := by decide +kernel
theorem dX9_alike_57 : decode cX9_alike 57 = .ok (.iload_n 2, 1) := by decide +kernel
theorem dX9_alike_58 : decode cX9_alike 58 = .ok (.ireturn, 1) := by decide +kernel
theorem dX9_nextOf_0 : decode cX9_nextOf 0 = .ok (.iload_n 0, 1) := by decide +kernel
theorem dX9_nextOf_1 : decode cX9_nextOf 1 = .ok (.iload_n 0, 1) := by decide +kernel
theorem dX9_nextOf_2 : decode cX9_nextOf 2 = .ok (.ineg, 1) := by decide +kernel
theorem dX9_nextOf_3 : decode cX9_nextOf 3 = .ok (.iand, 1) := by decide +kernel
theorem dX9_nextOf_4 : decode cX9_nextOf 4 = .ok (.istore_n 1, 1) := by decide +kernel
theorem dX9_nextOf_5 : decode cX9_nextOf 5 = .ok (.iload_n 0, 1) := by decide +kernel
theorem dX9_nextOf_6 : decode cX9_nextOf 6 = .ok (.iload_n 1, 1) := by decide +kernel
theorem dX9_nextOf_7 : decode cX9_nextOf 7 = .ok (.iadd, 1) := by decide +kernel
theorem dX9_nextOf_8 : decode cX9_nextOf 8 = .ok (.istore_n 2, 1) := by decide +kernel
theorem dX9_nextOf_9 : decode cX9_nextOf 9 = .ok (.iload_n 2, 1) := by decide +kernel
theorem dX9_nextOf_10 : decode cX9_nextOf 10 = .ok (.iload_n 0, 1) := by decide +kernel
theorem dX9_nextOf_11 : decode cX9_nextOf 11 = .ok (.iload_n 2, 1) := by decide +kernel
theorem dX9_nextOf_12 : decode cX9_nextOf 12 = .ok (.ixor, 1) := by decide +kernel
theorem dX9_nextOf_13 : decode cX9_nextOf 13 = .ok (.iload_n 1, 1) := by decide +kernel
theorem dX9_nextOf_14 : decode cX9_nextOf 14 = .ok (.idiv, 1) := by decide +kernel
theorem dX9_nextOf_15 : decode cX9_nextOf 15 = .ok (.iconst 2, 1) := by decide +kernel
theorem dX9_nextOf_16 : decode cX9_nextOf 16 = .ok (.ishr, 1) := by decide +kernel
theorem dX9_nextOf_17 : decode cX9_nextOf 17 = .ok (.ior, 1) := by decide +kernel
theorem dX9_nextOf_18 : decode cX9_nextOf 18 = .ok (.ireturn, 1) := by decide +kernel
theorem dX9_fewest_0 : decode cX9_fewest 0 = .ok (.iconst 1, 1) := by decide +kernel
theorem dX9_fewest_1 : decode cX9_fewest 1 = .ok (.aload_n 0, 1) := by decide +kernel
theorem dX9_fewest_2 : decode cX9_fewest 2 = .ok (.getfield 78, 3) := by decide +kernel
theorem dX9_fewest_5 : decode cX9_fewest 5 = .ok (.ishl, 1) := by decide +kernel
theorem dX9_fewest_6 : decode cX9_fewest 6 = .ok (.iconst 1, 1) := by decide +kernel
theorem dX9_fewest_7 : decode cX9_fewest 7 = .ok (.isub, 1) := by decide +kernel
theorem dX9_fewest_8 : decode cX9_fewest 8 = .ok (.aload_n 0, 1) := by decide +kernel
theorem dX9_fewest_9 : decode cX9_fewest 9 = .ok (.aload_n 0, 1) := by decide +kernel
theorem dX9_fewest_10 : decode cX9_fewest 10 = .ok (.getfield 35, 3) := by decide +kernel
theorem dX9_fewest_13 : decode cX9_fewest 13 = .ok (.invokevirtual 166, 3) := by decide +kernel
theorem dX9_fewest_16 : decode cX9_fewest 16 = .ok (.iconst (-1), 1) := by decide +kernel
theorem dX9_fewest_17 : decode cX9_fewest 17 = .ok (.ixor, 1) := by decide +kernel
theorem dX9_fewest_18 : decode cX9_fewest 18 = .ok (.iand, 1) := by decide +kernel
theorem dX9_fewest_19 : decode cX9_fewest 19 = .ok (.istore_n 1, 1) := by decide +kernel
theorem dX9_fewest_20 : decode cX9_fewest 20 = .ok (.iconst 0, 1) := by decide +kernel
theorem dX9_fewest_21 : decode cX9_fewest 21 = .ok (.istore_n 2, 1) := by decide +kernel
theorem dX9_fewest_22 : decode cX9_fewest 22 = .ok (.iload_n 2, 1) := by decide +kernel
theorem dX9_fewest_23 : decode cX9_fewest 23 = .ok (.aload_n 0, 1) := by decide +kernel
theorem dX9_fewest_24 : decode cX9_fewest 24 = .ok (.getfield 13, 3) := by decide +kernel
theorem dX9_fewest_27 : decode cX9_fewest 27 = .ok (.aload_n 0, 1) := by decide +kernel
theorem dX9_fewest_28 : decode cX9_fewest 28 = .ok (.getfield 17, 3) := by decide +kernel
theorem dX9_fewest_31 : decode cX9_fewest 31 = .ok (.imul, 1) := by decide +kernel
theorem dX9_fewest_32 : decode cX9_fewest 32 = .ok (.if_icmp .ge 63, 3) := by decide +kernel
theorem dX9_fewest_35 : decode cX9_fewest 35 = .ok (.iconst 0, 1) := by decide +kernel
theorem dX9_fewest_36 : decode cX9_fewest 36 = .ok (.istore_n 3, 1) := by decide +kernel
theorem dX9_fewest_37 : decode cX9_fewest 37 = .ok (.iconst 0, 1) := by decide +kernel
theorem dX9_fewest_38 : decode cX9_fewest 38 = .ok (.istore 4, 2) := by decide +kernel
theorem dX9_fewest_40 : decode cX9_fewest 40 = .ok (.iload 4, 2) := by decide +kernel
theorem dX9_fewest_42 : decode cX9_fewest 42 = .ok (.aload_n 0, 1) := by decide +kernel
theorem dX9_fewest_43 : decode cX9_fewest 43 = .ok (.getfield 78, 3) := by decide +kernel
theorem dX9_fewest_46 : decode cX9_fewest 46 = .ok (.if_icmp .ge 34, 3) := by decide +kernel
theorem dX9_fewest_49 : decode cX9_fewest 49 = .ok (.iload_n 3, 1) := by decide +kernel
theorem dX9_fewest_50 : decode cX9_fewest 50 = .ok (.aload_n 0, 1) := by decide +kernel
theorem dX9_fewest_51 : decode cX9_fewest 51 = .ok (.aload_n 0, 1) := by decide +kernel
theorem dX9_fewest_52 : decode cX9_fewest 52 = .ok (.getfield 35, 3) := by decide +kernel
theorem dX9_fewest_55 : decode cX9_fewest 55 = .ok (.iload 4, 2) := by decide +kernel
theorem dX9_fewest_57 : decode cX9_fewest 57 = .ok (.iload_n 2, 1) := by decide +kernel
theorem dX9_fewest_58 : decode cX9_fewest 58 = .ok (.invokevirtual 203, 3) := by decide +kernel
theorem dX9_fewest_61 : decode cX9_fewest 61 = .ok (.ifCond .eq 10, 3) := by decide +kernel
theorem dX9_fewest_64 : decode cX9_fewest 64 = .ok (.iconst 1, 1) := by decide +kernel
theorem dX9_fewest_65 : decode cX9_fewest 65 = .ok (.iload 4, 2) := by decide +kernel
theorem dX9_fewest_67 : decode cX9_fewest 67 = .ok (.ishl, 1) := by decide +kernel
theorem dX9_fewest_68 : decode cX9_fewest 68 = .ok (.goto 4, 3) := by decide +kernel
theorem dX9_fewest_71 : decode cX9_fewest 71 = .ok (.iconst 0, 1) := by decide +kernel
theorem dX9_fewest_72 : decode cX9_fewest 72 = .ok (.ior, 1) := by decide +kernel
theorem dX9_fewest_73 : decode cX9_fewest 73 = .ok (.istore_n 3, 1) := by decide +kernel
theorem dX9_fewest_74 : decode cX9_fewest 74 = .ok (.iinc 4 1, 3) := by decide +kernel
theorem dX9_fewest_77 : decode cX9_fewest 77 = .ok (.goto (-37), 3) := by decide +kernel
theorem dX9_fewest_80 : decode cX9_fewest 80 = .ok (.aload_n 0, 1) := by decide +kernel
theorem dX9_fewest_81 : decode cX9_fewest 81 = .ok (.getfield 72, 3) := by decide +kernel
theorem dX9_fewest_84 : decode cX9_fewest 84 = .ok (.iload_n 2, 1) := by decide +kernel
theorem dX9_fewest_85 : decode cX9_fewest 85 = .ok (.iload_n 3, 1) := by decide +kernel
theorem dX9_fewest_86 : decode cX9_fewest 86 = .ok (.iload_n 1, 1) := by decide +kernel
theorem dX9_fewest_87 : decode cX9_fewest 87 = .ok (.iand, 1) := by decide +kernel
theorem dX9_fewest_88 : decode cX9_fewest 88 = .ok (.iastore, 1) := by decide +kernel
theorem dX9_fewest_89 : decode cX9_fewest 89 = .ok (.iinc 2 1, 3) := by decide +kernel
theorem dX9_fewest_92 : decode cX9_fewest 92 = .ok (.goto (-70), 3) := by decide +kernel
theorem dX9_fewest_95 : decode cX9_fewest 95 = .ok (.iload_n 1, 1) := by decide +kernel
theorem dX9_fewest_96 : decode cX9_fewest 96 = .ok (.ifCond .ne 5, 3) := by decide +kernel
theorem dX9_fewest_99 : decode cX9_fewest 99 = .ok (.iconst 0, 1) := by decide +kernel
theorem dX9_fewest_100 : decode cX9_fewest 100 = .ok (.ireturn, 1) := by decide +kernel
theorem dX9_fewest_101 : decode cX9_fewest 101 = .ok (.iconst 1, 1) := by decide +kernel
theorem dX9_fewest_102 : decode cX9_fewest 102 = .ok (.istore_n 2, 1) := by decide +kernel
theorem dX9_fewest_103 : decode cX9_fewest 103 = .ok (.iload_n 2, 1) := by decide +kernel
theorem dX9_fewest_104 : decode cX9_fewest 104 = .ok (.aload_n 0, 1) := by decide +kernel
theorem dX9_fewest_105 : decode cX9_fewest 105 = .ok (.getfield 78, 3) := by decide +kernel
theorem dX9_fewest_108 : decode cX9_fewest 108 = .ok (.if_icmp .gt 97, 3) := by decide +kernel
theorem dX9_fewest_111 : decode cX9_fewest 111 = .ok (.iconst 1, 1) := by decide +kernel
theorem dX9_fewest_112 : decode cX9_fewest 112 = .ok (.iload_n 2, 1) := by decide +kernel
theorem dX9_fewest_113 : decode cX9_fewest 113 = .ok (.ishl, 1) := by decide +kernel
theorem dX9_fewest_114 : decode cX9_fewest 114 = .ok (.iconst 1, 1) := by decide +kernel
theorem dX9_fewest_115 : decode cX9_fewest 115 = .ok (.isub, 1) := by decide +kernel
theorem dX9_fewest_116 : decode cX9_fewest 116 = .ok (.istore_n 3, 1) := by decide +kernel
theorem dX9_fewest_117 : decode cX9_fewest 117 = .ok (.iload_n 3, 1) := by decide +kernel
theorem dX9_fewest_118 : decode cX9_fewest 118 = .ok (.iconst 1, 1) := by decide +kernel
theorem dX9_fewest_119 : decode cX9_fewest 119 = .ok (.aload_n 0, 1) := by decide +kernel
theorem dX9_fewest_120 : decode cX9_fewest 120 = .ok (.getfield 13, 3) := by decide +kernel
theorem dX9_fewest_123 : decode cX9_fewest 123 = .ok (.aload_n 0, 1) := by decide +kernel
theorem dX9_fewest_124 : decode cX9_fewest 124 = .ok (.getfield 17, 3) := by decide +kernel
theorem dX9_fewest_127 : decode cX9_fewest 127 = .ok (.imul, 1) := by decide +kernel
theorem dX9_fewest_128 : decode cX9_fewest 128 = .ok (.ishl, 1) := by decide +kernel
theorem dX9_fewest_129 : decode cX9_fewest 129 = .ok (.if_icmp .ge 70, 3) := by decide +kernel
theorem dX9_fewest_132 : decode cX9_fewest 132 = .ok (.iconst 0, 1) := by decide +kernel
theorem dX9_fewest_133 : decode cX9_fewest 133 = .ok (.istore 4, 2) := by decide +kernel
theorem dX9_fewest_135 : decode cX9_fewest 135 = .ok (.iconst 0, 1) := by decide +kernel
theorem dX9_fewest_136 : decode cX9_fewest 136 = .ok (.istore 5, 2) := by decide +kernel
theorem dX9_fewest_138 : decode cX9_fewest 138 = .ok (.iload 5, 2) := by decide +kernel
theorem dX9_fewest_140 : decode cX9_fewest 140 = .ok (.aload_n 0, 1) := by decide +kernel
theorem dX9_fewest_141 : decode cX9_fewest 141 = .ok (.getfield 13, 3) := by decide +kernel
theorem dX9_fewest_144 : decode cX9_fewest 144 = .ok (.aload_n 0, 1) := by decide +kernel
theorem dX9_fewest_145 : decode cX9_fewest 145 = .ok (.getfield 17, 3) := by decide +kernel
theorem dX9_fewest_148 : decode cX9_fewest 148 = .ok (.imul, 1) := by decide +kernel
theorem dX9_fewest_149 : decode cX9_fewest 149 = .ok (.if_icmp .ge 34, 3) := by decide +kernel
theorem dX9_fewest_152 : decode cX9_fewest 152 = .ok (.iload 4, 2) := by decide +kernel
theorem dX9_fewest_154 : decode cX9_fewest 154 = .ok (.iload_n 3, 1) := by decide +kernel
theorem dX9_fewest_155 : decode cX9_fewest 155 = .ok (.iload 5, 2) := by decide +kernel
theorem dX9_fewest_157 : decode cX9_fewest 157 = .ok (.invokestatic 134, 3) := by decide +kernel
theorem dX9_fewest_160 : decode cX9_fewest 160 = .ok (.ifCond .eq 13, 3) := by decide +kernel
theorem dX9_fewest_163 : decode cX9_fewest 163 = .ok (.aload_n 0, 1) := by decide +kernel
theorem dX9_fewest_164 : decode cX9_fewest 164 = .ok (.getfield 72, 3) := by decide +kernel
theorem dX9_fewest_167 : decode cX9_fewest 167 = .ok (.iload 5, 2) := by decide +kernel
theorem dX9_fewest_169 : decode cX9_fewest 169 = .ok (.iaload, 1) := by decide +kernel
theorem dX9_fewest_170 : decode cX9_fewest 170 = .ok (.goto 4, 3) := by decide +kernel
theorem dX9_fewest_173 : decode cX9_fewest 173 = .ok (.iconst 0, 1) := by decide +kernel
theorem dX9_fewest_174 : decode cX9_fewest 174 = .ok (.ior, 1) := by decide +kernel
theorem dX9_fewest_175 : decode cX9_fewest 175 = .ok (.istore 4, 2) := by decide +kernel
theorem dX9_fewest_177 : decode cX9_fewest 177 = .ok (.iinc 5 1, 3) := by decide +kernel
theorem dX9_fewest_180 : decode cX9_fewest 180 = .ok (.goto (-42), 3) := by decide +kernel
theorem dX9_fewest_183 : decode cX9_fewest 183 = .ok (.iload 4, 2) := by decide +kernel
theorem dX9_fewest_185 : decode cX9_fewest 185 = .ok (.iload_n 1, 1) := by decide +kernel
theorem dX9_fewest_186 : decode cX9_fewest 186 = .ok (.if_icmp .ne 5, 3) := by decide +kernel
theorem dX9_fewest_189 : decode cX9_fewest 189 = .ok (.iload_n 3, 1) := by decide +kernel
theorem dX9_fewest_190 : decode cX9_fewest 190 = .ok (.ireturn, 1) := by decide +kernel
theorem dX9_fewest_191 : decode cX9_fewest 191 = .ok (.iload_n 3, 1) := by decide +kernel
theorem dX9_fewest_192 : decode cX9_fewest 192 = .ok (.invokestatic 228, 3) := by decide +kernel
theorem dX9_fewest_195 : decode cX9_fewest 195 = .ok (.istore_n 3, 1) := by decide +kernel
theorem dX9_fewest_196 : decode cX9_fewest 196 = .ok (.goto (-79), 3) := by decide +kernel
theorem dX9_fewest_199 : decode cX9_fewest 199 = .ok (.iinc 2 1, 3) := by decide +kernel
theorem dX9_fewest_202 : decode cX9_fewest 202 = .ok (.goto (-99), 3) := by decide +kernel
theorem dX9_fewest_205 : decode cX9_fewest 205 = .ok (.bipush (-9), 2) := by decide +kernel
theorem dX9_fewest_207 : decode cX9_fewest 207 = .ok (.ireturn, 1) := by decide +kernel
theorem dX9_calls_0 : decode cX9_calls 0 = .ok (.aload_n 0, 1) := by decide +kernel
theorem dX9_calls_1 : decode cX9_calls 1 = .ok (.iconst 0, 1) := by decide +kernel
theorem dX9_calls_2 : decode cX9_calls 2 = .ok (.putfield 75, 3) := by decide +kernel
theorem dX9_calls_5 : decode cX9_calls 5 = .ok (.iload_n 1, 1) := by decide +kernel
theorem dX9_calls_6 : decode cX9_calls 6 = .ok (.i2l, 1) := by decide +kernel
theorem dX9_calls_7 : decode cX9_calls 7 = .ok (.lconst 0, 1) := by decide +kernel
theorem dX9_calls_8 : decode cX9_calls 8 = .ok (.lconst 1, 1) := by decide +kernel
theorem dX9_calls_9 : decode cX9_calls 9 = .ok (.invokestatic 81, 3) := by decide +kernel
theorem dX9_calls_12 : decode cX9_calls 12 = .ok (.ifCond .ne 6, 3) := by decide +kernel
theorem dX9_calls_15 : decode cX9_calls 15 = .ok (.bipush (-2), 2) := by decide +kernel
theorem dX9_calls_17 : decode cX9_calls 17 = .ok (.ireturn, 1) := by decide +kernel
theorem dX9_calls_18 : decode cX9_calls 18 = .ok (.aload_n 0, 1) := by decide +kernel
theorem dX9_calls_19 : decode cX9_calls 19 = .ok (.invokevirtual 231, 3) := by decide +kernel
theorem dX9_calls_22 : decode cX9_calls 22 = .ok (.istore_n 2, 1) := by decide +kernel
theorem dX9_calls_23 : decode cX9_calls 23 = .ok (.iload_n 1, 1) := by decide +kernel
theorem dX9_calls_24 : decode cX9_calls 24 = .ok (.ifCond .ne 7, 3) := by decide +kernel
theorem dX9_calls_27 : decode cX9_calls 27 = .ok (.iload_n 2, 1) := by decide +kernel
theorem dX9_calls_28 : decode cX9_calls 28 = .ok (.goto 7, 3) := by decide +kernel
theorem dX9_calls_31 : decode cX9_calls 31 = .ok (.iload_n 2, 1) := by decide +kernel
theorem dX9_calls_32 : decode cX9_calls 32 = .ok (.invokestatic 170, 3) := by decide +kernel
theorem dX9_calls_35 : decode cX9_calls 35 = .ok (.ireturn, 1) := by decide +kernel
theorem dX9_unlikeBy_0 : decode cX9_unlikeBy 0 = .ok (.iconst 0, 1) := by decide +kernel
theorem dX9_unlikeBy_1 : decode cX9_unlikeBy 1 = .ok (.istore_n 2, 1) := by decide +kernel
theorem dX9_unlikeBy_2 : decode cX9_unlikeBy 2 = .ok (.iconst 0, 1) := by decide +kernel
theorem dX9_unlikeBy_3 : decode cX9_unlikeBy 3 = .ok (.istore_n 3, 1) := by decide +kernel
theorem dX9_unlikeBy_4 : decode cX9_unlikeBy 4 = .ok (.iload_n 3, 1) := by decide +kernel
theorem dX9_unlikeBy_5 : decode cX9_unlikeBy 5 = .ok (.aload_n 0, 1) := by decide +kernel
theorem dX9_unlikeBy_6 : decode cX9_unlikeBy 6 = .ok (.getfield 17, 3) := by decide +kernel
theorem dX9_unlikeBy_9 : decode cX9_unlikeBy 9 = .ok (.if_icmp .ge 62, 3) := by decide +kernel
theorem dX9_unlikeBy_12 : decode cX9_unlikeBy 12 = .ok (.iload_n 2, 1) := by decide +kernel
theorem dX9_unlikeBy_13 : decode cX9_unlikeBy 13 = .ok (.aload_n 0, 1) := by decide +kernel
theorem dX9_unlikeBy_14 : decode cX9_unlikeBy 14 = .ok (.aload_n 0, 1) := by decide +kernel
theorem dX9_unlikeBy_15 : decode cX9_unlikeBy 15 = .ok (.getfield 35, 3) := by decide +kernel
theorem dX9_unlikeBy_18 : decode cX9_unlikeBy 18 = .ok (.iload_n 3, 1) := by decide +kernel
theorem dX9_unlikeBy_19 : decode cX9_unlikeBy 19 = .ok (.aload_n 0, 1) := by decide +kernel
theorem dX9_unlikeBy_20 : decode cX9_unlikeBy 20 = .ok (.getfield 13, 3) := by decide +kernel
theorem dX9_unlikeBy_23 : decode cX9_unlikeBy 23 = .ok (.imul, 1) := by decide +kernel
theorem dX9_unlikeBy_24 : decode cX9_unlikeBy 24 = .ok (.aload_n 0, 1) := by decide +kernel
theorem dX9_unlikeBy_25 : decode cX9_unlikeBy 25 = .ok (.getfield 13, 3) := by decide +kernel
theorem dX9_unlikeBy_28 : decode cX9_unlikeBy 28 = .ok (.iadd, 1) := by decide +kernel
theorem dX9_unlikeBy_29 : decode cX9_unlikeBy 29 = .ok (.iconst 1, 1) := by decide +kernel
theorem dX9_unlikeBy_30 : decode cX9_unlikeBy 30 = .ok (.isub, 1) := by decide +kernel
theorem dX9_unlikeBy_31 : decode cX9_unlikeBy 31 = .ok (.invokevirtual 144, 3) := by decide +kernel
theorem dX9_unlikeBy_34 : decode cX9_unlikeBy 34 = .ok (.aload_n 0, 1) := by decide +kernel
theorem dX9_unlikeBy_35 : decode cX9_unlikeBy 35 = .ok (.aload_n 0, 1) := by decide +kernel
theorem dX9_unlikeBy_36 : decode cX9_unlikeBy 36 = .ok (.getfield 35, 3) := by decide +kernel
theorem dX9_unlikeBy_39 : decode cX9_unlikeBy 39 = .ok (.iload_n 3, 1) := by decide +kernel
theorem dX9_unlikeBy_40 : decode cX9_unlikeBy 40 = .ok (.iload_n 1, 1) := by decide +kernel
theorem dX9_unlikeBy_41 : decode cX9_unlikeBy 41 = .ok (.iadd, 1) := by decide +kernel
theorem dX9_unlikeBy_42 : decode cX9_unlikeBy 42 = .ok (.aload_n 0, 1) := by decide +kernel
theorem dX9_unlikeBy_43 : decode cX9_unlikeBy 43 = .ok (.getfield 17, 3) := by decide +kernel
theorem dX9_unlikeBy_46 : decode cX9_unlikeBy 46 = .ok (.irem, 1) := by decide +kernel
theorem dX9_unlikeBy_47 : decode cX9_unlikeBy 47 = .ok (.aload_n 0, 1) := by decide +kernel
theorem dX9_unlikeBy_48 : decode cX9_unlikeBy 48 = .ok (.getfield 13, 3) := by decide +kernel
theorem dX9_unlikeBy_51 : decode cX9_unlikeBy 51 = .ok (.imul, 1) := by decide +kernel
theorem dX9_unlikeBy_52 : decode cX9_unlikeBy 52 = .ok (.invokevirtual 144, 3) := by decide +kernel
theorem dX9_unlikeBy_55 : decode cX9_unlikeBy 55 = .ok (.if_icmp .ne 7, 3) := by decide +kernel
theorem dX9_unlikeBy_58 : decode cX9_unlikeBy 58 = .ok (.iconst 0, 1) := by decide +kernel
theorem dX9_unlikeBy_59 : decode cX9_unlikeBy 59 = .ok (.goto 4, 3) := by decide +kernel
theorem dX9_unlikeBy_62 : decode cX9_unlikeBy 62 = .ok (.iconst 1, 1) := by decide +kernel
theorem dX9_unlikeBy_63 : decode cX9_unlikeBy 63 = .ok (.iadd, 1) := by decide +kernel
theorem dX9_unlikeBy_64 : decode cX9_unlikeBy 64 = .ok (.istore_n 2, 1) := by decide +kernel
theorem dX9_unlikeBy_65 : decode cX9_unlikeBy 65 = .ok (.iinc 3 1, 3) := by decide +kernel
theorem dX9_unlikeBy_68 : decode cX9_unlikeBy 68 = .ok (.goto (-64), 3) := by decide +kernel
theorem dX9_unlikeBy_71 : decode cX9_unlikeBy 71 = .ok (.iload_n 2, 1) := by decide +kernel
theorem dX9_unlikeBy_72 : decode cX9_unlikeBy 72 = .ok (.ireturn, 1) := by decide +kernel
theorem dX9_match_0 : decode cX9_match 0 = .ok (.aload_n 0, 1) := by decide +kernel
theorem dX9_match_1 : decode cX9_match 1 = .ok (.iconst 0, 1) := by decide +kernel
theorem dX9_match_2 : decode cX9_match 2 = .ok (.putfield 75, 3) := by decide +kernel
theorem dX9_match_5 : decode cX9_match 5 = .ok (.iload_n 1, 1) := by decide +kernel
theorem dX9_match_6 : decode cX9_match 6 = .ok (.i2l, 1) := by decide +kernel
theorem dX9_match_7 : decode cX9_match 7 = .ok (.lconst 0, 1) := by decide +kernel
theorem dX9_match_8 : decode cX9_match 8 = .ok (.lconst 1, 1) := by decide +kernel
theorem dX9_match_9 : decode cX9_match 9 = .ok (.invokestatic 81, 3) := by decide +kernel
theorem dX9_match_12 : decode cX9_match 12 = .ok (.ifCond .ne 6, 3) := by decide +kernel
theorem dX9_match_15 : decode cX9_match 15 = .ok (.bipush (-2), 2) := by decide +kernel
theorem dX9_match_17 : decode cX9_match 17 = .ok (.ireturn, 1) := by decide +kernel
theorem dX9_match_18 : decode cX9_match 18 = .ok (.iconst 0, 1) := by decide +kernel
theorem dX9_match_19 : decode cX9_match 19 = .ok (.istore_n 2, 1) := by decide +kernel
theorem dX9_match_20 : decode cX9_match 20 = .ok (.aload_n 0, 1) := by decide +kernel
theorem dX9_match_21 : decode cX9_match 21 = .ok (.aload_n 0, 1) := by decide +kernel
theorem dX9_match_22 : decode cX9_match 22 = .ok (.iconst 0, 1) := by decide +kernel
theorem dX9_match_23 : decode cX9_match 23 = .ok (.invokevirtual 234, 3) := by decide +kernel
theorem dX9_match_26 : decode cX9_match 26 = .ok (.putfield 237, 3) := by decide +kernel
theorem dX9_match_29 : decode cX9_match 29 = .ok (.iconst 1, 1) := by decide +kernel
theorem dX9_match_30 : decode cX9_match 30 = .ok (.istore_n 3, 1) := by decide +kernel
theorem dX9_match_31 : decode cX9_match 31 = .ok (.iload_n 3, 1) := by decide +kernel
theorem dX9_match_32 : decode cX9_match 32 = .ok (.aload_n 0, 1) := by decide +kernel
theorem dX9_match_33 : decode cX9_match 33 = .ok (.getfield 17, 3) := by decide +kernel
theorem dX9_match_36 : decode cX9_match 36 = .ok (.if_icmp .ge 53, 3) := by decide +kernel
theorem dX9_match_39 : decode cX9_match 39 = .ok (.aload_n 0, 1) := by decide +kernel
theorem dX9_match_40 : decode cX9_match 40 = .ok (.iload_n 3, 1) := by decide +kernel
theorem dX9_match_41 : decode cX9_match 41 = .ok (.invokevirtual 234, 3) := by decide +kernel
theorem dX9_match_44 : decode cX9_match 44 = .ok (.istore 4, 2) := by decide +kernel
theorem dX9_match_46 : decode cX9_match 46 = .ok (.iload 4, 2) := by decide +kernel
theorem dX9_match_48 : decode cX9_match 48 = .ok (.aload_n 0, 1) := by decide +kernel
theorem dX9_match_49 : decode cX9_match 49 = .ok (.getfield 237, 3) := by decide +kernel
theorem dX9_match_52 : decode cX9_match 52 = .ok (.if_icmp .ge 7, 3) := by decide +kernel
theorem dX9_match_55 : decode cX9_match 55 = .ok (.iload_n 3, 1) := by decide +kernel
theorem dX9_match_56 : decode cX9_match 56 = .ok (.goto 4, 3) := by decide +kernel
theorem dX9_match_59 : decode cX9_match 59 = .ok (.iload_n 2, 1) := by decide +kernel
theorem dX9_match_60 : decode cX9_match 60 = .ok (.istore_n 2, 1) := by decide +kernel
theorem dX9_match_61 : decode cX9_match 61 = .ok (.aload_n 0, 1) := by decide +kernel
theorem dX9_match_62 : decode cX9_match 62 = .ok (.iload 4, 2) := by decide +kernel
theorem dX9_match_64 : decode cX9_match 64 = .ok (.aload_n 0, 1) := by decide +kernel
theorem dX9_match_65 : decode cX9_match 65 = .ok (.getfield 237, 3) := by decide +kernel
theorem dX9_match_68 : decode cX9_match 68 = .ok (.if_icmp .ge 8, 3) := by decide +kernel
theorem dX9_match_71 : decode cX9_match 71 = .ok (.iload 4, 2) := by decide +kernel
theorem dX9_match_73 : decode cX9_match 73 = .ok (.goto 7, 3) := by decide +kernel
theorem dX9_match_76 : decode cX9_match 76 = .ok (.aload_n 0, 1) := by decide +kernel
theorem dX9_match_77 : decode cX9_match 77 = .ok (.getfield 237, 3) := by decide +kernel
theorem dX9_match_80 : decode cX9_match 80 = .ok (.putfield 237, 3) := by decide +kernel
theorem dX9_match_83 : decode cX9_match 83 = .ok (.iinc 3 1, 3) := by decide +kernel
theorem dX9_match_86 : decode cX9_match 86 = .ok (.goto (-55), 3) := by decide +kernel
theorem dX9_match_89 : decode cX9_match 89 = .ok (.iload_n 1, 1) := by decide +kernel
theorem dX9_match_90 : decode cX9_match 90 = .ok (.ifCond .ne 7, 3) := by decide +kernel
theorem dX9_match_93 : decode cX9_match 93 = .ok (.iload_n 2, 1) := by decide +kernel
theorem dX9_match_94 : decode cX9_match 94 = .ok (.goto 7, 3) := by decide +kernel
theorem dX9_match_97 : decode cX9_match 97 = .ok (.aload_n 0, 1) := by decide +kernel
theorem dX9_match_98 : decode cX9_match 98 = .ok (.getfield 237, 3) := by decide +kernel
theorem dX9_match_101 : decode cX9_match 101 = .ok (.ireturn, 1) := by decide +kernel
theorem dX9_longPower_0 : decode cX9_longPower 0 = .ok (.lconst 1, 1) := by decide +kernel
theorem dX9_longPower_1 : decode cX9_longPower 1 = .ok (.lstore_n 3, 1) := by decide +kernel
theorem dX9_longPower_2 : decode cX9_longPower 2 = .ok (.iconst 0, 1) := by decide +kernel
theorem dX9_longPower_3 : decode cX9_longPower 3 = .ok (.istore 5, 2) := by decide +kernel
theorem dX9_longPower_5 : decode cX9_longPower 5 = .ok (.iload 5, 2) := by decide +kernel
theorem dX9_longPower_7 : decode cX9_longPower 7 = .ok (.iload_n 2, 1) := by decide +kernel
theorem dX9_longPower_8 : decode cX9_longPower 8 = .ok (.if_icmp .ge 13, 3) := by decide +kernel
theorem dX9_longPower_11 : decode cX9_longPower 11 = .ok (.lload_n 3, 1) := by decide +kernel
theorem dX9_longPower_12 : decode cX9_longPower 12 = .ok (.lload_n 0, 1) := by decide +kernel
theorem dX9_longPower_13 : decode cX9_longPower 13 = .ok (.lmul, 1) := by decide +kernel
theorem dX9_longPower_14 : decode cX9_longPower 14 = .ok (.lstore_n 3, 1) := by decide +kernel
theorem dX9_longPower_15 : decode cX9_longPower 15 = .ok (.iinc 5 1, 3) := by decide +kernel
theorem dX9_longPower_18 : decode cX9_longPower 18 = .ok (.goto (-13), 3) := by decide +kernel
theorem dX9_longPower_21 : decode cX9_longPower 21 = .ok (.lload_n 3, 1) := by decide +kernel
theorem dX9_longPower_22 : decode cX9_longPower 22 = .ok (.lreturn, 1) := by decide +kernel
theorem dX9_does_0 : decode cX9_does 0 = .ok (.iload_n 1, 1) := by decide +kernel
theorem dX9_does_1 : decode cX9_does 1 = .ok (.bipush 100, 2) := by decide +kernel
theorem dX9_does_3 : decode cX9_does 3 = .ok (.idiv, 1) := by decide +kernel
theorem dX9_does_4 : decode cX9_does 4 = .ok (.istore_n 2, 1) := by decide +kernel
theorem dX9_does_5 : decode cX9_does 5 = .ok (.iload_n 1, 1) := by decide +kernel
theorem dX9_does_6 : decode cX9_does 6 = .ok (.bipush 100, 2) := by decide +kernel
theorem dX9_does_8 : decode cX9_does 8 = .ok (.irem, 1) := by decide +kernel
theorem dX9_does_9 : decode cX9_does 9 = .ok (.istore_n 3, 1) := by decide +kernel
theorem dX9_does_10 : decode cX9_does 10 = .ok (.iload_n 2, 1) := by decide +kernel
theorem dX9_does_11 : decode cX9_does 11 = .ok (.iconst 1, 1) := by decide +kernel
theorem dX9_does_12 : decode cX9_does 12 = .ok (.if_icmp .ne 49, 3) := by decide +kernel
theorem dX9_does_15 : decode cX9_does 15 = .ok (.aload_n 0, 1) := by decide +kernel
theorem dX9_does_16 : decode cX9_does 16 = .ok (.iload_n 3, 1) := by decide +kernel
theorem dX9_does_17 : decode cX9_does 17 = .ok (.bipush 10, 2) := by decide +kernel
theorem dX9_does_19 : decode cX9_does 19 = .ok (.idiv, 1) := by decide +kernel
theorem dX9_does_20 : decode cX9_does 20 = .ok (.invokevirtual 191, 3) := by decide +kernel
theorem dX9_does_23 : decode cX9_does 23 = .ok (.ifCond .ne 36, 3) := by decide +kernel
theorem dX9_does_26 : decode cX9_does 26 = .ok (.iload_n 3, 1) := by decide +kernel
theorem dX9_does_27 : decode cX9_does 27 = .ok (.bipush 10, 2) := by decide +kernel
theorem dX9_does_29 : decode cX9_does 29 = .ok (.irem, 1) := by decide +kernel
theorem dX9_does_30 : decode cX9_does 30 = .ok (.invokestatic 184, 3) := by decide +kernel
theorem dX9_does_33 : decode cX9_does 33 = .ok (.ifCond .ne 26, 3) := by decide +kernel
theorem dX9_does_36 : decode cX9_does 36 = .ok (.aload_n 0, 1) := by decide +kernel
theorem dX9_does_37 : decode cX9_does 37 = .ok (.aload_n 0, 1) := by decide +kernel
theorem dX9_does_38 : decode cX9_does 38 = .ok (.getfield 38, 3) := by decide +kernel
theorem dX9_does_41 : decode cX9_does 41 = .ok (.iload_n 3, 1) := by decide +kernel
theorem dX9_does_42 : decode cX9_does 42 = .ok (.bipush 10, 2) := by decide +kernel
theorem dX9_does_44 : decode cX9_does 44 = .ok (.idiv, 1) := by decide +kernel
theorem dX9_does_45 : decode cX9_does 45 = .ok (.iload_n 3, 1) := by decide +kernel
theorem dX9_does_46 : decode cX9_does 46 = .ok (.bipush 10, 2) := by decide +kernel
theorem dX9_does_48 : decode cX9_does 48 = .ok (.irem, 1) := by decide +kernel
theorem dX9_does_49 : decode cX9_does 49 = .ok (.invokevirtual 200, 3) := by decide +kernel
theorem dX9_does_52 : decode cX9_does 52 = .ok (.ifCond .eq 7, 3) := by decide +kernel
theorem dX9_does_55 : decode cX9_does 55 = .ok (.iconst 1, 1) := by decide +kernel
theorem dX9_does_56 : decode cX9_does 56 = .ok (.goto 4, 3) := by decide +kernel
theorem dX9_does_59 : decode cX9_does 59 = .ok (.iconst 0, 1) := by decide +kernel
theorem dX9_does_60 : decode cX9_does 60 = .ok (.ireturn, 1) := by decide +kernel
theorem dX9_does_61 : decode cX9_does 61 = .ok (.iload_n 2, 1) := by decide +kernel
theorem dX9_does_62 : decode cX9_does 62 = .ok (.iconst 2, 1) := by decide +kernel
theorem dX9_does_63 : decode cX9_does 63 = .ok (.if_icmp .ne 22, 3) := by decide +kernel
theorem dX9_does_66 : decode cX9_does 66 = .ok (.aload_n 0, 1) := by decide +kernel
theorem dX9_does_67 : decode cX9_does 67 = .ok (.iload_n 3, 1) := by decide +kernel
theorem dX9_does_68 : decode cX9_does 68 = .ok (.invokevirtual 180, 3) := by decide +kernel
theorem dX9_does_71 : decode cX9_does 71 = .ok (.ifCond .ne 14, 3) := by decide +kernel
theorem dX9_does_74 : decode cX9_does 74 = .ok (.aload_n 0, 1) := by decide +kernel
theorem dX9_does_75 : decode cX9_does 75 = .ok (.aload_n 0, 1) := by decide +kernel
theorem dX9_does_76 : decode cX9_does 76 = .ok (.getfield 38, 3) := by decide +kernel
theorem dX9_does_79 : decode cX9_does 79 = .ok (.iload_n 3, 1) := by decide +kernel
theorem dX9_does_80 : decode cX9_does 80 = .ok (.invokevirtual 209, 3) := by decide +kernel
theorem dX9_does_83 : decode cX9_does 83 = .ok (.iconst 1, 1) := by decide +kernel
theorem dX9_does_84 : decode cX9_does 84 = .ok (.ireturn, 1) := by decide +kernel
theorem dX9_does_85 : decode cX9_does 85 = .ok (.iload_n 2, 1) := by decide +kernel
theorem dX9_does_86 : decode cX9_does 86 = .ok (.iconst 3, 1) := by decide +kernel
theorem dX9_does_87 : decode cX9_does 87 = .ok (.if_icmp .ne 39, 3) := by decide +kernel
theorem dX9_does_90 : decode cX9_does 90 = .ok (.aload_n 0, 1) := by decide +kernel
theorem dX9_does_91 : decode cX9_does 91 = .ok (.iload_n 3, 1) := by decide +kernel
theorem dX9_does_92 : decode cX9_does 92 = .ok (.invokevirtual 180, 3) := by decide +kernel
theorem dX9_does_95 : decode cX9_does 95 = .ok (.ifCond .ne 31, 3) := by decide +kernel
theorem dX9_does_98 : decode cX9_does 98 = .ok (.aload_n 0, 1) := by decide +kernel
theorem dX9_does_99 : decode cX9_does 99 = .ok (.aload_n 0, 1) := by decide +kernel
theorem dX9_does_100 : decode cX9_does 100 = .ok (.getfield 38, 3) := by decide +kernel
theorem dX9_does_103 : decode cX9_does 103 = .ok (.iload_n 3, 1) := by decide +kernel
theorem dX9_does_104 : decode cX9_does 104 = .ok (.invokevirtual 144, 3) := by decide +kernel
theorem dX9_does_107 : decode cX9_does 107 = .ok (.iconst 1, 1) := by decide +kernel
theorem dX9_does_108 : decode cX9_does 108 = .ok (.if_icmp .ne 18, 3) := by decide +kernel
theorem dX9_does_111 : decode cX9_does 111 = .ok (.aload_n 0, 1) := by decide +kernel
theorem dX9_does_112 : decode cX9_does 112 = .ok (.getfield 38, 3) := by decide +kernel
theorem dX9_does_115 : decode cX9_does 115 = .ok (.bipush 15, 2) := by decide +kernel
theorem dX9_does_117 : decode cX9_does 117 = .ok (.dup2, 1) := by decide +kernel
theorem dX9_does_118 : decode cX9_does 118 = .ok (.iaload, 1) := by decide +kernel
theorem dX9_does_119 : decode cX9_does 119 = .ok (.iconst 1, 1) := by decide +kernel
theorem dX9_does_120 : decode cX9_does 120 = .ok (.iload_n 3, 1) := by decide +kernel
theorem dX9_does_121 : decode cX9_does 121 = .ok (.ishl, 1) := by decide +kernel
theorem dX9_does_122 : decode cX9_does 122 = .ok (.ior, 1) := by decide +kernel
theorem dX9_does_123 : decode cX9_does 123 = .ok (.iastore, 1) := by decide +kernel
theorem dX9_does_124 : decode cX9_does 124 = .ok (.iconst 1, 1) := by decide +kernel
theorem dX9_does_125 : decode cX9_does 125 = .ok (.ireturn, 1) := by decide +kernel
theorem dX9_does_126 : decode cX9_does 126 = .ok (.iload_n 2, 1) := by decide +kernel
theorem dX9_does_127 : decode cX9_does 127 = .ok (.iconst 4, 1) := by decide +kernel
theorem dX9_does_128 : decode cX9_does 128 = .ok (.if_icmp .ne 27, 3) := by decide +kernel
theorem dX9_does_131 : decode cX9_does 131 = .ok (.aload_n 0, 1) := by decide +kernel
theorem dX9_does_132 : decode cX9_does 132 = .ok (.iload_n 3, 1) := by decide +kernel
theorem dX9_does_133 : decode cX9_does 133 = .ok (.invokevirtual 191, 3) := by decide +kernel
theorem dX9_does_136 : decode cX9_does 136 = .ok (.ifCond .ne 19, 3) := by decide +kernel
theorem dX9_does_139 : decode cX9_does 139 = .ok (.aload_n 0, 1) := by decide +kernel
theorem dX9_does_140 : decode cX9_does 140 = .ok (.aload_n 0, 1) := by decide +kernel
theorem dX9_does_141 : decode cX9_does 141 = .ok (.getfield 38, 3) := by decide +kernel
theorem dX9_does_144 : decode cX9_does 144 = .ok (.iload_n 3, 1) := by decide +kernel
theorem dX9_does_145 : decode cX9_does 145 = .ok (.invokevirtual 162, 3) := by decide +kernel
theorem dX9_does_148 : decode cX9_does 148 = .ok (.ifCond .eq 7, 3) := by decide +kernel
theorem dX9_does_151 : decode cX9_does 151 = .ok (.iconst 1, 1) := by decide +kernel
theorem dX9_does_152 : decode cX9_does 152 = .ok (.goto 4, 3) := by decide +kernel
theorem dX9_does_155 : decode cX9_does 155 = .ok (.iconst 0, 1) := by decide +kernel
theorem dX9_does_156 : decode cX9_does 156 = .ok (.ireturn, 1) := by decide +kernel
theorem dX9_judge_0 : decode cX9_judge 0 = .ok (.aload_n 0, 1) := by decide +kernel
theorem dX9_judge_1 : decode cX9_judge 1 = .ok (.iconst 0, 1) := by decide +kernel
theorem dX9_judge_2 : decode cX9_judge 2 = .ok (.putfield 75, 3) := by decide +kernel
theorem dX9_judge_5 : decode cX9_judge 5 = .ok (.iload_n 1, 1) := by decide +kernel
theorem dX9_judge_6 : decode cX9_judge 6 = .ok (.i2l, 1) := by decide +kernel
theorem dX9_judge_7 : decode cX9_judge 7 = .ok (.lconst 1, 1) := by decide +kernel
theorem dX9_judge_8 : decode cX9_judge 8 = .ok (.ldc2_w 240, 3) := by decide +kernel
theorem dX9_judge_11 : decode cX9_judge 11 = .ok (.invokestatic 81, 3) := by decide +kernel
theorem dX9_judge_14 : decode cX9_judge 14 = .ok (.ifCond .eq 20, 3) := by decide +kernel
theorem dX9_judge_17 : decode cX9_judge 17 = .ok (.lload_n 2, 1) := by decide +kernel
theorem dX9_judge_18 : decode cX9_judge 18 = .ok (.lconst 0, 1) := by decide +kernel
theorem dX9_judge_19 : decode cX9_judge 19 = .ok (.ldc2_w 242, 3) := by decide +kernel
theorem dX9_judge_22 : decode cX9_judge 22 = .ok (.iload_n 1, 1) := by decide +kernel
theorem dX9_judge_23 : decode cX9_judge 23 = .ok (.invokestatic 244, 3) := by decide +kernel
theorem dX9_judge_26 : decode cX9_judge 26 = .ok (.lconst 1, 1) := by decide +kernel
theorem dX9_judge_27 : decode cX9_judge 27 = .ok (.lsub, 1) := by decide +kernel
theorem dX9_judge_28 : decode cX9_judge 28 = .ok (.invokestatic 81, 3) := by decide +kernel
theorem dX9_judge_31 : decode cX9_judge 31 = .ok (.ifCond .ne 6, 3) := by decide +kernel
theorem dX9_judge_34 : decode cX9_judge 34 = .ok (.bipush (-2), 2) := by decide +kernel
theorem dX9_judge_36 : decode cX9_judge 36 = .ok (.ireturn, 1) := by decide +kernel
theorem dX9_judge_37 : decode cX9_judge 37 = .ok (.aload_n 0, 1) := by decide +kernel
theorem dX9_judge_38 : decode cX9_judge 38 = .ok (.invokevirtual 248, 3) := by decide +kernel
theorem dX9_judge_41 : decode cX9_judge 41 = .ok (.iconst 0, 1) := by decide +kernel
theorem dX9_judge_42 : decode cX9_judge 42 = .ok (.istore 4, 2) := by decide +kernel
theorem dX9_judge_44 : decode cX9_judge 44 = .ok (.iload 4, 2) := by decide +kernel
theorem dX9_judge_46 : decode cX9_judge 46 = .ok (.iload_n 1, 1) := by decide +kernel
theorem dX9_judge_47 : decode cX9_judge 47 = .ok (.if_icmp .ge 38, 3) := by decide +kernel
theorem dX9_judge_50 : decode cX9_judge 50 = .ok (.aload_n 0, 1) := by decide +kernel
theorem dX9_judge_51 : decode cX9_judge 51 = .ok (.lload_n 2, 1) := by decide +kernel
theorem dX9_judge_52 : decode cX9_judge 52 = .ok (.ldc2_w 242, 3) := by decide +kernel
theorem dX9_judge_55 : decode cX9_judge 55 = .ok (.iload_n 1, 1) := by decide +kernel
theorem dX9_judge_56 : decode cX9_judge 56 = .ok (.iconst 1, 1) := by decide +kernel
theorem dX9_judge_57 : decode cX9_judge 57 = .ok (.isub, 1) := by decide +kernel
theorem dX9_judge_58 : decode cX9_judge 58 = .ok (.iload 4, 2) := by decide +kernel
theorem dX9_judge_60 : decode cX9_judge 60 = .ok (.isub, 1) := by decide +kernel
theorem dX9_judge_61 : decode cX9_judge 61 = .ok (.invokestatic 244, 3) := by decide +kernel
theorem dX9_judge_64 : decode cX9_judge 64 = .ok (.ldiv, 1) := by decide +kernel
theorem dX9_judge_65 : decode cX9_judge 65 = .ok (.ldc2_w 242, 3) := by decide +kernel
theorem dX9_judge_68 : decode cX9_judge 68 = .ok (.lrem, 1) := by decide +kernel
theorem dX9_judge_69 : decode cX9_judge 69 = .ok (.l2i, 1) := by decide +kernel
theorem dX9_judge_70 : decode cX9_judge 70 = .ok (.invokevirtual 251, 3) := by decide +kernel
theorem dX9_judge_73 : decode cX9_judge 73 = .ok (.ifCond .ne 6, 3) := by decide +kernel
theorem dX9_judge_76 : decode cX9_judge 76 = .ok (.iload 4, 2) := by decide +kernel
theorem dX9_judge_78 : decode cX9_judge 78 = .ok (.ireturn, 1) := by decide +kernel
theorem dX9_judge_79 : decode cX9_judge 79 = .ok (.iinc 4 1, 3) := by decide +kernel
theorem dX9_judge_82 : decode cX9_judge 82 = .ok (.goto (-38), 3) := by decide +kernel
theorem dX9_judge_85 : decode cX9_judge 85 = .ok (.bipush (-9), 2) := by decide +kernel
theorem dX9_judge_87 : decode cX9_judge 87 = .ok (.ireturn, 1) := by decide +kernel
theorem dX9_ways_0 : decode cX9_ways 0 = .ok (.iconst 1, 1) := by decide +kernel
theorem dX9_ways_1 : decode cX9_ways 1 = .ok (.istore_n 1, 1) := by decide +kernel
theorem dX9_ways_2 : decode cX9_ways 2 = .ok (.iconst 2, 1) := by decide +kernel
theorem dX9_ways_3 : decode cX9_ways 3 = .ok (.istore_n 2, 1) := by decide +kernel
theorem dX9_ways_4 : decode cX9_ways 4 = .ok (.iload_n 2, 1) := by decide +kernel
theorem dX9_ways_5 : decode cX9_ways 5 = .ok (.iload_n 0, 1) := by decide +kernel
theorem dX9_ways_6 : decode cX9_ways 6 = .ok (.if_icmp .gt 13, 3) := by decide +kernel
theorem dX9_ways_9 : decode cX9_ways 9 = .ok (.iload_n 1, 1) := by decide +kernel
theorem dX9_ways_10 : decode cX9_ways 10 = .ok (.iload_n 2, 1) := by decide +kernel
theorem dX9_ways_11 : decode cX9_ways 11 = .ok (.imul, 1) := by decide +kernel
theorem dX9_ways_12 : decode cX9_ways 12 = .ok (.istore_n 1, 1) := by decide +kernel
theorem dX9_ways_13 : decode cX9_ways 13 = .ok (.iinc 2 1, 3) := by decide +kernel
theorem dX9_ways_16 : decode cX9_ways 16 = .ok (.goto (-12), 3) := by decide +kernel
theorem dX9_ways_19 : decode cX9_ways 19 = .ok (.iload_n 1, 1) := by decide +kernel
theorem dX9_ways_20 : decode cX9_ways 20 = .ok (.ireturn, 1) := by decide +kernel
theorem dX9_divisor_0 : decode cX9_divisor 0 = .ok (.iload_n 0, 1) := by decide +kernel
theorem dX9_divisor_1 : decode cX9_divisor 1 = .ok (.ifCond .ge 8, 3) := by decide +kernel
theorem dX9_divisor_4 : decode cX9_divisor 4 = .ok (.iload_n 0, 1) := by decide +kernel
theorem dX9_divisor_5 : decode cX9_divisor 5 = .ok (.ineg, 1) := by decide +kernel
theorem dX9_divisor_6 : decode cX9_divisor 6 = .ok (.goto 4, 3) := by decide +kernel
theorem dX9_divisor_9 : decode cX9_divisor 9 = .ok (.iload_n 0, 1) := by decide +kernel
theorem dX9_divisor_10 : decode cX9_divisor 10 = .ok (.istore_n 2, 1) := by decide +kernel
theorem dX9_divisor_11 : decode cX9_divisor 11 = .ok (.iload_n 1, 1) := by decide +kernel
theorem dX9_divisor_12 : decode cX9_divisor 12 = .ok (.istore_n 3, 1) := by decide +kernel
theorem dX9_divisor_13 : decode cX9_divisor 13 = .ok (.iload_n 3, 1) := by decide +kernel
theorem dX9_divisor_14 : decode cX9_divisor 14 = .ok (.ifCond .eq 16, 3) := by decide +kernel
theorem dX9_divisor_17 : decode cX9_divisor 17 = .ok (.iload_n 2, 1) := by decide +kernel
theorem dX9_divisor_18 : decode cX9_divisor 18 = .ok (.iload_n 3, 1) := by decide +kernel
theorem dX9_divisor_19 : decode cX9_divisor 19 = .ok (.irem, 1) := by decide +kernel
theorem dX9_divisor_20 : decode cX9_divisor 20 = .ok (.istore 4, 2) := by decide +kernel
theorem dX9_divisor_22 : decode cX9_divisor 22 = .ok (.iload_n 3, 1) := by decide +kernel
theorem dX9_divisor_23 : decode cX9_divisor 23 = .ok (.istore_n 2, 1) := by decide +kernel
theorem dX9_divisor_24 : decode cX9_divisor 24 = .ok (.iload 4, 2) := by decide +kernel
theorem dX9_divisor_26 : decode cX9_divisor 26 = .ok (.istore_n 3, 1) := by decide +kernel
theorem dX9_divisor_27 : decode cX9_divisor 27 = .ok (.goto (-14), 3) := by decide +kernel
theorem dX9_divisor_30 : decode cX9_divisor 30 = .ok (.iload_n 2, 1) := by decide +kernel
theorem dX9_divisor_31 : decode cX9_divisor 31 = .ok (.ireturn, 1) := by decide +kernel
theorem dX9_fraction_0 : decode cX9_fraction 0 = .ok (.iload_n 0, 1) := by decide +kernel
theorem dX9_fraction_1 : decode cX9_fraction 1 = .ok (.iload_n 1, 1) := by decide +kernel
theorem dX9_fraction_2 : decode cX9_fraction 2 = .ok (.invokestatic 254, 3) := by decide +kernel
theorem dX9_fraction_5 : decode cX9_fraction 5 = .ok (.istore_n 3, 1) := by decide +kernel
theorem dX9_fraction_6 : decode cX9_fraction 6 = .ok (.iload_n 2, 1) := by decide +kernel
theorem dX9_fraction_7 : decode cX9_fraction 7 = .ok (.ifCond .eq 9, 3) := by decide +kernel
theorem dX9_fraction_10 : decode cX9_fraction 10 = .ok (.iload_n 0, 1) := by decide +kernel
theorem dX9_fraction_11 : decode cX9_fraction 11 = .ok (.iload_n 3, 1) := by decide +kernel
theorem dX9_fraction_12 : decode cX9_fraction 12 = .ok (.idiv, 1) := by decide +kernel
theorem dX9_fraction_13 : decode cX9_fraction 13 = .ok (.goto 6, 3) := by decide +kernel
theorem dX9_fraction_16 : decode cX9_fraction 16 = .ok (.iload_n 1, 1) := by decide +kernel
theorem dX9_fraction_17 : decode cX9_fraction 17 = .ok (.iload_n 3, 1) := by decide +kernel
theorem dX9_fraction_18 : decode cX9_fraction 18 = .ok (.idiv, 1) := by decide +kernel
theorem dX9_fraction_19 : decode cX9_fraction 19 = .ok (.ireturn, 1) := by decide +kernel
theorem dX9_share_0 : decode cX9_share 0 = .ok (.aload_n 0, 1) := by decide +kernel
theorem dX9_share_1 : decode cX9_share 1 = .ok (.iconst 0, 1) := by decide +kernel
theorem dX9_share_2 : decode cX9_share 2 = .ok (.putfield 75, 3) := by decide +kernel
theorem dX9_share_5 : decode cX9_share 5 = .ok (.aload_n 0, 1) := by decide +kernel
theorem dX9_share_6 : decode cX9_share 6 = .ok (.iload_n 1, 1) := by decide +kernel
theorem dX9_share_7 : decode cX9_share 7 = .ok (.invokevirtual 191, 3) := by decide +kernel
theorem dX9_share_10 : decode cX9_share 10 = .ok (.ifCond .eq 5, 3) := by decide +kernel
theorem dX9_share_13 : decode cX9_share 13 = .ok (.iconst (-1), 1) := by decide +kernel
theorem dX9_share_14 : decode cX9_share 14 = .ok (.ireturn, 1) := by decide +kernel
theorem dX9_share_15 : decode cX9_share 15 = .ok (.iconst 0, 1) := by decide +kernel
theorem dX9_share_16 : decode cX9_share 16 = .ok (.istore_n 3, 1) := by decide +kernel
theorem dX9_share_17 : decode cX9_share 17 = .ok (.iload_n 3, 1) := by decide +kernel
theorem dX9_share_18 : decode cX9_share 18 = .ok (.iconst 1, 1) := by decide +kernel
theorem dX9_share_19 : decode cX9_share 19 = .ok (.aload_n 0, 1) := by decide +kernel
theorem dX9_share_20 : decode cX9_share 20 = .ok (.getfield 78, 3) := by decide +kernel
theorem dX9_share_23 : decode cX9_share 23 = .ok (.ishl, 1) := by decide +kernel
theorem dX9_share_24 : decode cX9_share 24 = .ok (.if_icmp .ge 16, 3) := by decide +kernel
theorem dX9_share_27 : decode cX9_share 27 = .ok (.aload_n 0, 1) := by decide +kernel
theorem dX9_share_28 : decode cX9_share 28 = .ok (.getfield 72, 3) := by decide +kernel
theorem dX9_share_31 : decode cX9_share 31 = .ok (.iload_n 3, 1) := by decide +kernel
theorem dX9_share_32 : decode cX9_share 32 = .ok (.iconst 0, 1) := by decide +kernel
theorem dX9_share_33 : decode cX9_share 33 = .ok (.iastore, 1) := by decide +kernel
theorem dX9_share_34 : decode cX9_share 34 = .ok (.iinc 3 1, 3) := by decide +kernel
theorem dX9_share_37 : decode cX9_share 37 = .ok (.goto (-20), 3) := by decide +kernel
theorem dX9_share_40 : decode cX9_share 40 = .ok (.iconst 0, 1) := by decide +kernel
theorem dX9_share_41 : decode cX9_share 41 = .ok (.istore_n 3, 1) := by decide +kernel
theorem dX9_share_42 : decode cX9_share 42 = .ok (.iload_n 3, 1) := by decide +kernel
theorem dX9_share_43 : decode cX9_share 43 = .ok (.aload_n 0, 1) := by decide +kernel
theorem dX9_share_44 : decode cX9_share 44 = .ok (.getfield 78, 3) := by decide +kernel
theorem dX9_share_47 : decode cX9_share 47 = .ok (.if_icmp .ge 62, 3) := by decide +kernel
theorem dX9_share_50 : decode cX9_share 50 = .ok (.aload_n 0, 1) := by decide +kernel
theorem dX9_share_51 : decode cX9_share 51 = .ok (.iload_n 3, 1) := by decide +kernel
theorem dX9_share_52 : decode cX9_share 52 = .ok (.iconst 2, 1) := by decide +kernel
theorem dX9_share_53 : decode cX9_share 53 = .ok (.invokevirtual 221, 3) := by decide +kernel
theorem dX9_share_56 : decode cX9_share 56 = .ok (.istore 4, 2) := by decide +kernel
theorem dX9_share_58 : decode cX9_share 58 = .ok (.iconst 0, 1) := by decide +kernel
theorem dX9_share_59 : decode cX9_share 59 = .ok (.istore 5, 2) := by decide +kernel
theorem dX9_share_61 : decode cX9_share 61 = .ok (.iload 5, 2) := by decide +kernel
theorem dX9_share_63 : decode cX9_share 63 = .ok (.iconst 1, 1) := by decide +kernel
theorem dX9_share_64 : decode cX9_share 64 = .ok (.aload_n 0, 1) := by decide +kernel
theorem dX9_share_65 : decode cX9_share 65 = .ok (.getfield 78, 3) := by decide +kernel
theorem dX9_share_68 : decode cX9_share 68 = .ok (.ishl, 1) := by decide +kernel
theorem dX9_share_69 : decode cX9_share 69 = .ok (.if_icmp .ge 34, 3) := by decide +kernel
theorem dX9_share_72 : decode cX9_share 72 = .ok (.aload_n 0, 1) := by decide +kernel
theorem dX9_share_73 : decode cX9_share 73 = .ok (.getfield 72, 3) := by decide +kernel
theorem dX9_share_76 : decode cX9_share 76 = .ok (.iload 5, 2) := by decide +kernel
theorem dX9_share_78 : decode cX9_share 78 = .ok (.dup2, 1) := by decide +kernel
theorem dX9_share_79 : decode cX9_share 79 = .ok (.iaload, 1) := by decide +kernel
theorem dX9_share_80 : decode cX9_share 80 = .ok (.iload 5, 2) := by decide +kernel
theorem dX9_share_82 : decode cX9_share 82 = .ok (.iload_n 3, 1) := by decide +kernel
theorem dX9_share_83 : decode cX9_share 83 = .ok (.invokestatic 134, 3) := by decide +kernel
theorem dX9_share_86 : decode cX9_share 86 = .ok (.ifCond .eq 8, 3) := by decide +kernel
theorem dX9_share_89 : decode cX9_share 89 = .ok (.iload 4, 2) := by decide +kernel
theorem dX9_share_91 : decode cX9_share 91 = .ok (.goto 4, 3) := by decide +kernel
theorem dX9_share_94 : decode cX9_share 94 = .ok (.iconst 0, 1) := by decide +kernel
theorem dX9_share_95 : decode cX9_share 95 = .ok (.ior, 1) := by decide +kernel
theorem dX9_share_96 : decode cX9_share 96 = .ok (.iastore, 1) := by decide +kernel
theorem dX9_share_97 : decode cX9_share 97 = .ok (.iinc 5 1, 3) := by decide +kernel
theorem dX9_share_100 : decode cX9_share 100 = .ok (.goto (-39), 3) := by decide +kernel
theorem dX9_share_103 : decode cX9_share 103 = .ok (.iinc 3 1, 3) := by decide +kernel
theorem dX9_share_106 : decode cX9_share 106 = .ok (.goto (-64), 3) := by decide +kernel
theorem dX9_share_109 : decode cX9_share 109 = .ok (.iconst 0, 1) := by decide +kernel
theorem dX9_share_110 : decode cX9_share 110 = .ok (.istore_n 3, 1) := by decide +kernel
theorem dX9_share_111 : decode cX9_share 111 = .ok (.iconst 0, 1) := by decide +kernel
theorem dX9_share_112 : decode cX9_share 112 = .ok (.istore 4, 2) := by decide +kernel
theorem dX9_share_114 : decode cX9_share 114 = .ok (.iload 4, 2) := by decide +kernel
theorem dX9_share_116 : decode cX9_share 116 = .ok (.iconst 1, 1) := by decide +kernel
theorem dX9_share_117 : decode cX9_share 117 = .ok (.aload_n 0, 1) := by decide +kernel
theorem dX9_share_118 : decode cX9_share 118 = .ok (.getfield 78, 3) := by decide +kernel
theorem dX9_share_121 : decode cX9_share 121 = .ok (.ishl, 1) := by decide +kernel
theorem dX9_share_122 : decode cX9_share 122 = .ok (.if_icmp .ge 72, 3) := by decide +kernel
theorem dX9_share_125 : decode cX9_share 125 = .ok (.iload 4, 2) := by decide +kernel
theorem dX9_share_127 : decode cX9_share 127 = .ok (.iload_n 1, 1) := by decide +kernel
theorem dX9_share_128 : decode cX9_share 128 = .ok (.invokestatic 134, 3) := by decide +kernel
theorem dX9_share_131 : decode cX9_share 131 = .ok (.ifCond .ne 57, 3) := by decide +kernel
theorem dX9_share_134 : decode cX9_share 134 = .ok (.iload 4, 2) := by decide +kernel
theorem dX9_share_136 : decode cX9_share 136 = .ok (.invokestatic 170, 3) := by decide +kernel
theorem dX9_share_139 : decode cX9_share 139 = .ok (.istore 5, 2) := by decide +kernel
theorem dX9_share_141 : decode cX9_share 141 = .ok (.iload_n 3, 1) := by decide +kernel
theorem dX9_share_142 : decode cX9_share 142 = .ok (.iload 5, 2) := by decide +kernel
theorem dX9_share_144 : decode cX9_share 144 = .ok (.invokestatic 257, 3) := by decide +kernel
theorem dX9_share_147 : decode cX9_share 147 = .ok (.aload_n 0, 1) := by decide +kernel
theorem dX9_share_148 : decode cX9_share 148 = .ok (.getfield 78, 3) := by decide +kernel
theorem dX9_share_151 : decode cX9_share 151 = .ok (.iconst 1, 1) := by decide +kernel
theorem dX9_share_152 : decode cX9_share 152 = .ok (.isub, 1) := by decide +kernel
theorem dX9_share_153 : decode cX9_share 153 = .ok (.iload 5, 2) := by decide +kernel
theorem dX9_share_155 : decode cX9_share 155 = .ok (.isub, 1) := by decide +kernel
theorem dX9_share_156 : decode cX9_share 156 = .ok (.invokestatic 257, 3) := by decide +kernel
theorem dX9_share_159 : decode cX9_share 159 = .ok (.imul, 1) := by decide +kernel
theorem dX9_share_160 : decode cX9_share 160 = .ok (.aload_n 0, 1) := by decide +kernel
theorem dX9_share_161 : decode cX9_share 161 = .ok (.getfield 72, 3) := by decide +kernel
theorem dX9_share_164 : decode cX9_share 164 = .ok (.iload 4, 2) := by decide +kernel
theorem dX9_share_166 : decode cX9_share 166 = .ok (.iconst 1, 1) := by decide +kernel
theorem dX9_share_167 : decode cX9_share 167 = .ok (.iload_n 1, 1) := by decide +kernel
theorem dX9_share_168 : decode cX9_share 168 = .ok (.ishl, 1) := by decide +kernel
theorem dX9_share_169 : decode cX9_share 169 = .ok (.ior, 1) := by decide +kernel
theorem dX9_share_170 : decode cX9_share 170 = .ok (.iaload, 1) := by decide +kernel
theorem dX9_share_171 : decode cX9_share 171 = .ok (.invokestatic 170, 3) := by decide +kernel
theorem dX9_share_174 : decode cX9_share 174 = .ok (.aload_n 0, 1) := by decide +kernel
theorem dX9_share_175 : decode cX9_share 175 = .ok (.getfield 72, 3) := by decide +kernel
theorem dX9_share_178 : decode cX9_share 178 = .ok (.iload 4, 2) := by decide +kernel
theorem dX9_share_180 : decode cX9_share 180 = .ok (.iaload, 1) := by decide +kernel
theorem dX9_share_181 : decode cX9_share 181 = .ok (.invokestatic 170, 3) := by decide +kernel
theorem dX9_share_184 : decode cX9_share 184 = .ok (.isub, 1) := by decide +kernel
theorem dX9_share_185 : decode cX9_share 185 = .ok (.imul, 1) := by decide +kernel
theorem dX9_share_186 : decode cX9_share 186 = .ok (.iadd, 1) := by decide +kernel
theorem dX9_share_187 : decode cX9_share 187 = .ok (.istore_n 3, 1) := by decide +kernel
theorem dX9_share_188 : decode cX9_share 188 = .ok (.iinc 4 1, 3) := by decide +kernel
theorem dX9_share_191 : decode cX9_share 191 = .ok (.goto (-77), 3) := by decide +kernel
theorem dX9_share_194 : decode cX9_share 194 = .ok (.iload_n 3, 1) := by decide +kernel
theorem dX9_share_195 : decode cX9_share 195 = .ok (.aload_n 0, 1) := by decide +kernel
theorem dX9_share_196 : decode cX9_share 196 = .ok (.getfield 78, 3) := by decide +kernel
theorem dX9_share_199 : decode cX9_share 199 = .ok (.invokestatic 257, 3) := by decide +kernel
theorem dX9_share_202 : decode cX9_share 202 = .ok (.iload_n 2, 1) := by decide +kernel
theorem dX9_share_203 : decode cX9_share 203 = .ok (.invokestatic 260, 3) := by decide +kernel
theorem dX9_share_206 : decode cX9_share 206 = .ok (.ireturn, 1) := by decide +kernel
theorem dX9_see_0 : decode cX9_see 0 = .ok (.aload_n 0, 1) := by decide +kernel
theorem dX9_see_1 : decode cX9_see 1 = .ok (.iconst 0, 1) := by decide +kernel
theorem dX9_see_2 : decode cX9_see 2 = .ok (.putfield 75, 3) := by decide +kernel
theorem dX9_see_5 : decode cX9_see 5 = .ok (.iload_n 1, 1) := by decide +kernel
theorem dX9_see_6 : decode cX9_see 6 = .ok (.i2l, 1) := by decide +kernel
theorem dX9_see_7 : decode cX9_see 7 = .ok (.ldc2_w 263, 3) := by decide +kernel
theorem dX9_see_10 : decode cX9_see 10 = .ok (.ldc2_w 240, 3) := by decide +kernel
theorem dX9_see_13 : decode cX9_see 13 = .ok (.invokestatic 81, 3) := by decide +kernel
theorem dX9_see_16 : decode cX9_see 16 = .ok (.ifCond .eq 29, 3) := by decide +kernel
theorem dX9_see_19 : decode cX9_see 19 = .ok (.iload_n 2, 1) := by decide +kernel
theorem dX9_see_20 : decode cX9_see 20 = .ok (.i2l, 1) := by decide +kernel
theorem dX9_see_21 : decode cX9_see 21 = .ok (.ldc2_w 263, 3) := by decide +kernel
theorem dX9_see_24 : decode cX9_see 24 = .ok (.ldc2_w 240, 3) := by decide +kernel
theorem dX9_see_27 : decode cX9_see 27 = .ok (.invokestatic 81, 3) := by decide +kernel
theorem dX9_see_30 : decode cX9_see 30 = .ok (.ifCond .eq 15, 3) := by decide +kernel
theorem dX9_see_33 : decode cX9_see 33 = .ok (.iload_n 3, 1) := by decide +kernel
theorem dX9_see_34 : decode cX9_see 34 = .ok (.i2l, 1) := by decide +kernel
theorem dX9_see_35 : decode cX9_see 35 = .ok (.lconst 0, 1) := by decide +kernel
theorem dX9_see_36 : decode cX9_see 36 = .ok (.ldc2_w 85, 3) := by decide +kernel
theorem dX9_see_39 : decode cX9_see 39 = .ok (.invokestatic 81, 3) := by decide +kernel
theorem dX9_see_42 : decode cX9_see 42 = .ok (.ifCond .ne 6, 3) := by decide +kernel
theorem dX9_see_45 : decode cX9_see 45 = .ok (.bipush (-2), 2) := by decide +kernel
theorem dX9_see_47 : decode cX9_see 47 = .ok (.ireturn, 1) := by decide +kernel
theorem dX9_see_48 : decode cX9_see 48 = .ok (.aload_n 0, 1) := by decide +kernel
theorem dX9_see_49 : decode cX9_see 49 = .ok (.getfield 177, 3) := by decide +kernel
theorem dX9_see_52 : decode cX9_see 52 = .ok (.bipush 6, 2) := by decide +kernel
theorem dX9_see_54 : decode cX9_see 54 = .ok (.if_icmp .ne 6, 3) := by decide +kernel
theorem dX9_see_57 : decode cX9_see 57 = .ok (.bipush (-4), 2) := by decide +kernel
theorem dX9_see_59 : decode cX9_see 59 = .ok (.ireturn, 1) := by decide +kernel
theorem dX9_see_60 : decode cX9_see 60 = .ok (.aload_n 0, 1) := by decide +kernel
theorem dX9_see_61 : decode cX9_see 61 = .ok (.getfield 51, 3) := by decide +kernel
theorem dX9_see_64 : decode cX9_see 64 = .ok (.aload_n 0, 1) := by decide +kernel
theorem dX9_see_65 : decode cX9_see 65 = .ok (.getfield 177, 3) := by decide +kernel
theorem dX9_see_68 : decode cX9_see 68 = .ok (.iload_n 1, 1) := by decide +kernel
theorem dX9_see_69 : decode cX9_see 69 = .ok (.iastore, 1) := by decide +kernel
theorem dX9_see_70 : decode cX9_see 70 = .ok (.aload_n 0, 1) := by decide +kernel
theorem dX9_see_71 : decode cX9_see 71 = .ok (.getfield 54, 3) := by decide +kernel
theorem dX9_see_74 : decode cX9_see 74 = .ok (.aload_n 0, 1) := by decide +kernel
theorem dX9_see_75 : decode cX9_see 75 = .ok (.getfield 177, 3) := by decide +kernel
theorem dX9_see_78 : decode cX9_see 78 = .ok (.iload_n 2, 1) := by decide +kernel
theorem dX9_see_79 : decode cX9_see 79 = .ok (.iastore, 1) := by decide +kernel
theorem dX9_see_80 : decode cX9_see 80 = .ok (.aload_n 0, 1) := by decide +kernel
theorem dX9_see_81 : decode cX9_see 81 = .ok (.getfield 57, 3) := by decide +kernel
theorem dX9_see_84 : decode cX9_see 84 = .ok (.aload_n 0, 1) := by decide +kernel
theorem dX9_see_85 : decode cX9_see 85 = .ok (.getfield 177, 3) := by decide +kernel
theorem dX9_see_88 : decode cX9_see 88 = .ok (.iload_n 3, 1) := by decide +kernel
theorem dX9_see_89 : decode cX9_see 89 = .ok (.iastore, 1) := by decide +kernel
theorem dX9_see_90 : decode cX9_see 90 = .ok (.aload_n 0, 1) := by decide +kernel
theorem dX9_see_91 : decode cX9_see 91 = .ok (.dup, 1) := by decide +kernel
theorem dX9_see_92 : decode cX9_see 92 = .ok (.getfield 177, 3) := by decide +kernel
theorem dX9_see_95 : decode cX9_see 95 = .ok (.iconst 1, 1) := by decide +kernel
theorem dX9_see_96 : decode cX9_see 96 = .ok (.iadd, 1) := by decide +kernel
theorem dX9_see_97 : decode cX9_see 97 = .ok (.putfield 177, 3) := by decide +kernel
theorem dX9_see_100 : decode cX9_see 100 = .ok (.aload_n 0, 1) := by decide +kernel
theorem dX9_see_101 : decode cX9_see 101 = .ok (.getfield 177, 3) := by decide +kernel
theorem dX9_see_104 : decode cX9_see 104 = .ok (.ireturn, 1) := by decide +kernel
theorem dX9_unsee_0 : decode cX9_unsee 0 = .ok (.aload_n 0, 1) := by decide +kernel
theorem dX9_unsee_1 : decode cX9_unsee 1 = .ok (.iconst 0, 1) := by decide +kernel
theorem dX9_unsee_2 : decode cX9_unsee 2 = .ok (.putfield 75, 3) := by decide +kernel
theorem dX9_unsee_5 : decode cX9_unsee 5 = .ok (.aload_n 0, 1) := by decide +kernel
theorem dX9_unsee_6 : decode cX9_unsee 6 = .ok (.getfield 177, 3) := by decide +kernel
theorem dX9_unsee_9 : decode cX9_unsee 9 = .ok (.istore_n 1, 1) := by decide +kernel
theorem dX9_unsee_10 : decode cX9_unsee 10 = .ok (.aload_n 0, 1) := by decide +kernel
theorem dX9_unsee_11 : decode cX9_unsee 11 = .ok (.iconst 0, 1) := by decide +kernel
theorem dX9_unsee_12 : decode cX9_unsee 12 = .ok (.putfield 177, 3) := by decide +kernel
theorem dX9_unsee_15 : decode cX9_unsee 15 = .ok (.iload_n 1, 1) := by decide +kernel
theorem dX9_unsee_16 : decode cX9_unsee 16 = .ok (.ireturn, 1) := by decide +kernel
theorem dX9_cellFrom_0 : decode cX9_cellFrom 0 = .ok (.iload_n 1, 1) := by decide +kernel
theorem dX9_cellFrom_1 : decode cX9_cellFrom 1 = .ok (.istore 4, 2) := by decide +kernel
theorem dX9_cellFrom_3 : decode cX9_cellFrom 3 = .ok (.iconst 0, 1) := by decide +kernel
theorem dX9_cellFrom_4 : decode cX9_cellFrom 4 = .ok (.istore 5, 2) := by decide +kernel
theorem dX9_cellFrom_6 : decode cX9_cellFrom 6 = .ok (.iload 5, 2) := by decide +kernel
theorem dX9_cellFrom_8 : decode cX9_cellFrom 8 = .ok (.iload_n 2, 1) := by decide +kernel
theorem dX9_cellFrom_9 : decode cX9_cellFrom 9 = .ok (.if_icmp .lt 10, 3) := by decide +kernel
theorem dX9_cellFrom_12 : decode cX9_cellFrom 12 = .ok (.iload 5, 2) := by decide +kernel
theorem dX9_cellFrom_14 : decode cX9_cellFrom 14 = .ok (.iload_n 2, 1) := by decide +kernel
theorem dX9_cellFrom_15 : decode cX9_cellFrom 15 = .ok (.ineg, 1) := by decide +kernel
theorem dX9_cellFrom_16 : decode cX9_cellFrom 16 = .ok (.if_icmp .ge 27, 3) := by decide +kernel
theorem dX9_cellFrom_19 : decode cX9_cellFrom 19 = .ok (.aload_n 0, 1) := by decide +kernel
theorem dX9_cellFrom_20 : decode cX9_cellFrom 20 = .ok (.iload 4, 2) := by decide +kernel
theorem dX9_cellFrom_22 : decode cX9_cellFrom 22 = .ok (.iload_n 2, 1) := by decide +kernel
theorem dX9_cellFrom_23 : decode cX9_cellFrom 23 = .ok (.ifCond .ge 7, 3) := by decide +kernel
theorem dX9_cellFrom_26 : decode cX9_cellFrom 26 = .ok (.iconst 0, 1) := by decide +kernel
theorem dX9_cellFrom_27 : decode cX9_cellFrom 27 = .ok (.goto 4, 3) := by decide +kernel
theorem dX9_cellFrom_30 : decode cX9_cellFrom 30 = .ok (.iconst 1, 1) := by decide +kernel
theorem dX9_cellFrom_31 : decode cX9_cellFrom 31 = .ok (.iconst 0, 1) := by decide +kernel
theorem dX9_cellFrom_32 : decode cX9_cellFrom 32 = .ok (.invokevirtual 187, 3) := by decide +kernel
theorem dX9_cellFrom_35 : decode cX9_cellFrom 35 = .ok (.istore 4, 2) := by decide +kernel
theorem dX9_cellFrom_37 : decode cX9_cellFrom 37 = .ok (.iinc 5 1, 3) := by decide +kernel
theorem dX9_cellFrom_40 : decode cX9_cellFrom 40 = .ok (.goto (-34), 3) := by decide +kernel
theorem dX9_cellFrom_43 : decode cX9_cellFrom 43 = .ok (.iconst 0, 1) := by decide +kernel
theorem dX9_cellFrom_44 : decode cX9_cellFrom 44 = .ok (.istore 5, 2) := by decide +kernel
theorem dX9_cellFrom_46 : decode cX9_cellFrom 46 = .ok (.iload 5, 2) := by decide +kernel
theorem dX9_cellFrom_48 : decode cX9_cellFrom 48 = .ok (.iload_n 3, 1) := by decide +kernel
theorem dX9_cellFrom_49 : decode cX9_cellFrom 49 = .ok (.if_icmp .lt 10, 3) := by decide +kernel
theorem dX9_cellFrom_52 : decode cX9_cellFrom 52 = .ok (.iload 5, 2) := by decide +kernel
theorem dX9_cellFrom_54 : decode cX9_cellFrom 54 = .ok (.iload_n 3, 1) := by decide +kernel
theorem dX9_cellFrom_55 : decode cX9_cellFrom 55 = .ok (.ineg, 1) := by decide +kernel
theorem dX9_cellFrom_56 : decode cX9_cellFrom 56 = .ok (.if_icmp .ge 27, 3) := by decide +kernel
theorem dX9_cellFrom_59 : decode cX9_cellFrom 59 = .ok (.aload_n 0, 1) := by decide +kernel
theorem dX9_cellFrom_60 : decode cX9_cellFrom 60 = .ok (.iload 4, 2) := by decide +kernel
theorem dX9_cellFrom_62 : decode cX9_cellFrom 62 = .ok (.iload_n 3, 1) := by decide +kernel
theorem dX9_cellFrom_63 : decode cX9_cellFrom 63 = .ok (.ifCond .ge 7, 3) := by decide +kernel
theorem dX9_cellFrom_66 : decode cX9_cellFrom 66 = .ok (.iconst 2, 1) := by decide +kernel
theorem dX9_cellFrom_67 : decode cX9_cellFrom 67 = .ok (.goto 4, 3) := by decide +kernel
theorem dX9_cellFrom_70 : decode cX9_cellFrom 70 = .ok (.iconst 3, 1) := by decide +kernel
theorem dX9_cellFrom_71 : decode cX9_cellFrom 71 = .ok (.iconst 0, 1) := by decide +kernel
theorem dX9_cellFrom_72 : decode cX9_cellFrom 72 = .ok (.invokevirtual 187, 3) := by decide +kernel
theorem dX9_cellFrom_75 : decode cX9_cellFrom 75 = .ok (.istore 4, 2) := by decide +kernel
theorem dX9_cellFrom_77 : decode cX9_cellFrom 77 = .ok (.iinc 5 1, 3) := by decide +kernel
theorem dX9_cellFrom_80 : decode cX9_cellFrom 80 = .ok (.goto (-34), 3) := by decide +kernel
theorem dX9_cellFrom_83 : decode cX9_cellFrom 83 = .ok (.iload 4, 2) := by decide +kernel
theorem dX9_cellFrom_85 : decode cX9_cellFrom 85 = .ok (.ireturn, 1) := by decide +kernel
theorem dX9_stands_0 : decode cX9_stands 0 = .ok (.aload_n 0, 1) := by decide +kernel
theorem dX9_stands_1 : decode cX9_stands 1 = .ok (.iconst 0, 1) := by decide +kernel
theorem dX9_stands_2 : decode cX9_stands 2 = .ok (.putfield 75, 3) := by decide +kernel
theorem dX9_stands_5 : decode cX9_stands 5 = .ok (.iconst 0, 1) := by decide +kernel
theorem dX9_stands_6 : decode cX9_stands 6 = .ok (.istore_n 1, 1) := by decide +kernel
theorem dX9_stands_7 : decode cX9_stands 7 = .ok (.iconst 0, 1) := by decide +kernel
theorem dX9_stands_8 : decode cX9_stands 8 = .ok (.istore_n 2, 1) := by decide +kernel
theorem dX9_stands_9 : decode cX9_stands 9 = .ok (.iload_n 2, 1) := by decide +kernel
theorem dX9_stands_10 : decode cX9_stands 10 = .ok (.aload_n 0, 1) := by decide +kernel
theorem dX9_stands_11 : decode cX9_stands 11 = .ok (.getfield 13, 3) := by decide +kernel
theorem dX9_stands_14 : decode cX9_stands 14 = .ok (.aload_n 0, 1) := by decide +kernel
theorem dX9_stands_15 : decode cX9_stands 15 = .ok (.getfield 17, 3) := by decide +kernel
theorem dX9_stands_18 : decode cX9_stands 18 = .ok (.imul, 1) := by decide +kernel
theorem dX9_stands_19 : decode cX9_stands 19 = .ok (.if_icmp .ge 90, 3) := by decide +kernel
theorem dX9_stands_22 : decode cX9_stands 22 = .ok (.iconst 1, 1) := by decide +kernel
theorem dX9_stands_23 : decode cX9_stands 23 = .ok (.istore_n 3, 1) := by decide +kernel
theorem dX9_stands_24 : decode cX9_stands 24 = .ok (.iconst 0, 1) := by decide +kernel
theorem dX9_stands_25 : decode cX9_stands 25 = .ok (.istore 4, 2) := by decide +kernel
theorem dX9_stands_27 : decode cX9_stands 27 = .ok (.iload 4, 2) := by decide +kernel
theorem dX9_stands_29 : decode cX9_stands 29 = .ok (.aload_n 0, 1) := by decide +kernel
theorem dX9_stands_30 : decode cX9_stands 30 = .ok (.getfield 177, 3) := by decide +kernel
theorem dX9_stands_33 : decode cX9_stands 33 = .ok (.if_icmp .ge 56, 3) := by decide +kernel
theorem dX9_stands_36 : decode cX9_stands 36 = .ok (.iload_n 3, 1) := by decide +kernel
theorem dX9_stands_37 : decode cX9_stands 37 = .ok (.ifCond .eq 44, 3) := by decide +kernel
theorem dX9_stands_40 : decode cX9_stands 40 = .ok (.aload_n 0, 1) := by decide +kernel
theorem dX9_stands_41 : decode cX9_stands 41 = .ok (.aload_n 0, 1) := by decide +kernel
theorem dX9_stands_42 : decode cX9_stands 42 = .ok (.getfield 35, 3) := by decide +kernel
theorem dX9_stands_45 : decode cX9_stands 45 = .ok (.aload_n 0, 1) := by decide +kernel
theorem dX9_stands_46 : decode cX9_stands 46 = .ok (.iload_n 2, 1) := by decide +kernel
theorem dX9_stands_47 : decode cX9_stands 47 = .ok (.aload_n 0, 1) := by decide +kernel
theorem dX9_stands_48 : decode cX9_stands 48 = .ok (.getfield 51, 3) := by decide +kernel
theorem dX9_stands_51 : decode cX9_stands 51 = .ok (.iload 4, 2) := by decide +kernel
theorem dX9_stands_53 : decode cX9_stands 53 = .ok (.iaload, 1) := by decide +kernel
theorem dX9_stands_54 : decode cX9_stands 54 = .ok (.aload_n 0, 1) := by decide +kernel
theorem dX9_stands_55 : decode cX9_stands 55 = .ok (.getfield 54, 3) := by decide +kernel
theorem dX9_stands_58 : decode cX9_stands 58 = .ok (.iload 4, 2) := by decide +kernel
theorem dX9_stands_60 : decode cX9_stands 60 = .ok (.iaload, 1) := by decide +kernel
theorem dX9_stands_61 : decode cX9_stands 61 = .ok (.invokevirtual 265, 3) := by decide +kernel
theorem dX9_stands_64 : decode cX9_stands 64 = .ok (.invokevirtual 144, 3) := by decide +kernel
theorem dX9_stands_67 : decode cX9_stands 67 = .ok (.aload_n 0, 1) := by decide +kernel
theorem dX9_stands_68 : decode cX9_stands 68 = .ok (.getfield 57, 3) := by decide +kernel
theorem dX9_stands_71 : decode cX9_stands 71 = .ok (.iload 4, 2) := by decide +kernel
theorem dX9_stands_73 : decode cX9_stands 73 = .ok (.iaload, 1) := by decide +kernel
theorem dX9_stands_74 : decode cX9_stands 74 = .ok (.if_icmp .ne 7, 3) := by decide +kernel
theorem dX9_stands_77 : decode cX9_stands 77 = .ok (.iconst 1, 1) := by decide +kernel
theorem dX9_stands_78 : decode cX9_stands 78 = .ok (.goto 4, 3) := by decide +kernel
theorem dX9_stands_81 : decode cX9_stands 81 = .ok (.iconst 0, 1) := by decide +kernel
theorem dX9_stands_82 : decode cX9_stands 82 = .ok (.istore_n 3, 1) := by decide +kernel
theorem dX9_stands_83 : decode cX9_stands 83 = .ok (.iinc 4 1, 3) := by decide +kernel
theorem dX9_stands_86 : decode cX9_stands 86 = .ok (.goto (-59), 3) := by decide +kernel
theorem dX9_stands_89 : decode cX9_stands 89 = .ok (.iload_n 1, 1) := by decide +kernel
theorem dX9_stands_90 : decode cX9_stands 90 = .ok (.iload_n 3, 1) := by decide +kernel
theorem dX9_stands_91 : decode cX9_stands 91 = .ok (.ifCond .eq 9, 3) := by decide +kernel
theorem dX9_stands_94 : decode cX9_stands 94 = .ok (.iconst 1, 1) := by decide +kernel
theorem dX9_stands_95 : decode cX9_stands 95 = .ok (.iload_n 2, 1) := by decide +kernel
theorem dX9_stands_96 : decode cX9_stands 96 = .ok (.ishl, 1) := by decide +kernel
theorem dX9_stands_97 : decode cX9_stands 97 = .ok (.goto 4, 3) := by decide +kernel
theorem dX9_stands_100 : decode cX9_stands 100 = .ok (.iconst 0, 1) := by decide +kernel
theorem dX9_stands_101 : decode cX9_stands 101 = .ok (.ior, 1) := by decide +kernel
theorem dX9_stands_102 : decode cX9_stands 102 = .ok (.istore_n 1, 1) := by decide +kernel
theorem dX9_stands_103 : decode cX9_stands 103 = .ok (.iinc 2 1, 3) := by decide +kernel
theorem dX9_stands_106 : decode cX9_stands 106 = .ok (.goto (-97), 3) := by decide +kernel
theorem dX9_stands_109 : decode cX9_stands 109 = .ok (.iload_n 1, 1) := by decide +kernel
theorem dX9_stands_110 : decode cX9_stands 110 = .ok (.ireturn, 1) := by decide +kernel
theorem dX9_layGains_0 : decode cX9_layGains 0 = .ok (.aload_n 0, 1) := by decide +kernel
theorem dX9_layGains_1 : decode cX9_layGains 1 = .ok (.invokevirtual 248, 3) := by decide +kernel
theorem dX9_layGains_4 : decode cX9_layGains 4 = .ok (.aload_n 0, 1) := by decide +kernel
theorem dX9_layGains_5 : decode cX9_layGains 5 = .ok (.aload_n 0, 1) := by decide +kernel
theorem dX9_layGains_6 : decode cX9_layGains 6 = .ok (.getfield 38, 3) := by decide +kernel
theorem dX9_layGains_9 : decode cX9_layGains 9 = .ok (.iload_n 1, 1) := by decide +kernel
theorem dX9_layGains_10 : decode cX9_layGains 10 = .ok (.iload_n 3, 1) := by decide +kernel
theorem dX9_layGains_11 : decode cX9_layGains 11 = .ok (.iconst 4, 1) := by decide +kernel
theorem dX9_layGains_12 : decode cX9_layGains 12 = .ok (.idiv, 1) := by decide +kernel
theorem dX9_layGains_13 : decode cX9_layGains 13 = .ok (.invokevirtual 200, 3) := by decide +kernel
theorem dX9_layGains_16 : decode cX9_layGains 16 = .ok (.istore 4, 2) := by decide +kernel
theorem dX9_layGains_18 : decode cX9_layGains 18 = .ok (.aload_n 0, 1) := by decide +kernel
theorem dX9_layGains_19 : decode cX9_layGains 19 = .ok (.aload_n 0, 1) := by decide +kernel
theorem dX9_layGains_20 : decode cX9_layGains 20 = .ok (.getfield 38, 3) := by decide +kernel
theorem dX9_layGains_23 : decode cX9_layGains 23 = .ok (.iload_n 2, 1) := by decide +kernel
theorem dX9_layGains_24 : decode cX9_layGains 24 = .ok (.iload_n 3, 1) := by decide +kernel
theorem dX9_layGains_25 : decode cX9_layGains 25 = .ok (.iconst 4, 1) := by decide +kernel
theorem dX9_layGains_26 : decode cX9_layGains 26 = .ok (.irem, 1) := by decide +kernel
theorem dX9_layGains_27 : decode cX9_layGains 27 = .ok (.invokevirtual 200, 3) := by decide +kernel
theorem dX9_layGains_30 : decode cX9_layGains 30 = .ok (.istore 5, 2) := by decide +kernel
theorem dX9_layGains_32 : decode cX9_layGains 32 = .ok (.aload_n 0, 1) := by decide +kernel
theorem dX9_layGains_33 : decode cX9_layGains 33 = .ok (.getfield 38, 3) := by decide +kernel
theorem dX9_layGains_36 : decode cX9_layGains 36 = .ok (.iload_n 1, 1) := by decide +kernel
theorem dX9_layGains_37 : decode cX9_layGains 37 = .ok (.iaload, 1) := by decide +kernel
theorem dX9_layGains_38 : decode cX9_layGains 38 = .ok (.aload_n 0, 1) := by decide +kernel
theorem dX9_layGains_39 : decode cX9_layGains 39 = .ok (.getfield 38, 3) := by decide +kernel
theorem dX9_layGains_42 : decode cX9_layGains 42 = .ok (.iload_n 2, 1) := by decide +kernel
theorem dX9_layGains_43 : decode cX9_layGains 43 = .ok (.iaload, 1) := by decide +kernel
theorem dX9_layGains_44 : decode cX9_layGains 44 = .ok (.if_icmp .ne 7, 3) := by decide +kernel
theorem dX9_layGains_47 : decode cX9_layGains 47 = .ok (.iconst 3, 1) := by decide +kernel
theorem dX9_layGains_48 : decode cX9_layGains 48 = .ok (.goto 4, 3) := by decide +kernel
theorem dX9_layGains_51 : decode cX9_layGains 51 = .ok (.iconst 0, 1) := by decide +kernel
theorem dX9_layGains_52 : decode cX9_layGains 52 = .ok (.istore 6, 2) := by decide +kernel
theorem dX9_layGains_54 : decode cX9_layGains 54 = .ok (.aload_n 0, 1) := by decide +kernel
theorem dX9_layGains_55 : decode cX9_layGains 55 = .ok (.getfield 69, 3) := by decide +kernel
theorem dX9_layGains_58 : decode cX9_layGains 58 = .ok (.iconst 2, 1) := by decide +kernel
theorem dX9_layGains_59 : decode cX9_layGains 59 = .ok (.iload_n 3, 1) := by decide +kernel
theorem dX9_layGains_60 : decode cX9_layGains 60 = .ok (.imul, 1) := by decide +kernel
theorem dX9_layGains_61 : decode cX9_layGains 61 = .ok (.iload 6, 2) := by decide +kernel
theorem dX9_layGains_63 : decode cX9_layGains 63 = .ok (.iload 4, 2) := by decide +kernel
theorem dX9_layGains_65 : decode cX9_layGains 65 = .ok (.ifCond .eq 7, 3) := by decide +kernel
theorem dX9_layGains_68 : decode cX9_layGains 68 = .ok (.iconst 1, 1) := by decide +kernel
theorem dX9_layGains_69 : decode cX9_layGains 69 = .ok (.goto 4, 3) := by decide +kernel
theorem dX9_layGains_72 : decode cX9_layGains 72 = .ok (.iconst 0, 1) := by decide +kernel
theorem dX9_layGains_73 : decode cX9_layGains 73 = .ok (.iadd, 1) := by decide +kernel
theorem dX9_layGains_74 : decode cX9_layGains 74 = .ok (.aload_n 0, 1) := by decide +kernel
theorem dX9_layGains_75 : decode cX9_layGains 75 = .ok (.aload_n 0, 1) := by decide +kernel
theorem dX9_layGains_76 : decode cX9_layGains 76 = .ok (.getfield 38, 3) := by decide +kernel
theorem dX9_layGains_79 : decode cX9_layGains 79 = .ok (.aload_n 0, 1) := by decide +kernel
theorem dX9_layGains_80 : decode cX9_layGains 80 = .ok (.getfield 38, 3) := by decide +kernel
theorem dX9_layGains_83 : decode cX9_layGains 83 = .ok (.iload_n 1, 1) := by decide +kernel
end
section
theorem dX9_layGains_84 : decode cX9_layGains 84 = .ok (.iaload, 1) := by decide +kernel
theorem dX9_layGains_85 : decode cX9_layGains 85 = .ok (.invokevirtual 144, 3) := by decide +kernel
theorem dX9_layGains_88 : decode cX9_layGains 88 = .ok (.iconst 3, 1) := by decide +kernel
theorem dX9_layGains_89 : decode cX9_layGains 89 = .ok (.if_icmp .ne 7, 3) := by decide +kernel
theorem dX9_layGains_92 : decode cX9_layGains 92 = .ok (.iconst 1, 1) := by decide +kernel
theorem dX9_layGains_93 : decode cX9_layGains 93 = .ok (.goto 4, 3) := by decide +kernel
theorem dX9_layGains_96 : decode cX9_layGains 96 = .ok (.iconst 0, 1) := by decide +kernel
theorem dX9_layGains_97 : decode cX9_layGains 97 = .ok (.iadd, 1) := by decide +kernel
theorem dX9_layGains_98 : decode cX9_layGains 98 = .ok (.iastore, 1) := by decide +kernel
theorem dX9_layGains_99 : decode cX9_layGains 99 = .ok (.aload_n 0, 1) := by decide +kernel
theorem dX9_layGains_100 : decode cX9_layGains 100 = .ok (.getfield 69, 3) := by decide +kernel
theorem dX9_layGains_103 : decode cX9_layGains 103 = .ok (.iconst 2, 1) := by decide +kernel
theorem dX9_layGains_104 : decode cX9_layGains 104 = .ok (.iload_n 3, 1) := by decide +kernel
theorem dX9_layGains_105 : decode cX9_layGains 105 = .ok (.imul, 1) := by decide +kernel
theorem dX9_layGains_106 : decode cX9_layGains 106 = .ok (.iconst 1, 1) := by decide +kernel
theorem dX9_layGains_107 : decode cX9_layGains 107 = .ok (.iadd, 1) := by decide +kernel
theorem dX9_layGains_108 : decode cX9_layGains 108 = .ok (.iload 6, 2) := by decide +kernel
theorem dX9_layGains_110 : decode cX9_layGains 110 = .ok (.iload 5, 2) := by decide +kernel
theorem dX9_layGains_112 : decode cX9_layGains 112 = .ok (.ifCond .eq 7, 3) := by decide +kernel
theorem dX9_layGains_115 : decode cX9_layGains 115 = .ok (.iconst 1, 1) := by decide +kernel
theorem dX9_layGains_116 : decode cX9_layGains 116 = .ok (.goto 4, 3) := by decide +kernel
theorem dX9_layGains_119 : decode cX9_layGains 119 = .ok (.iconst 0, 1) := by decide +kernel
theorem dX9_layGains_120 : decode cX9_layGains 120 = .ok (.iadd, 1) := by decide +kernel
theorem dX9_layGains_121 : decode cX9_layGains 121 = .ok (.aload_n 0, 1) := by decide +kernel
theorem dX9_layGains_122 : decode cX9_layGains 122 = .ok (.aload_n 0, 1) := by decide +kernel
theorem dX9_layGains_123 : decode cX9_layGains 123 = .ok (.getfield 38, 3) := by decide +kernel
theorem dX9_layGains_126 : decode cX9_layGains 126 = .ok (.aload_n 0, 1) := by decide +kernel
theorem dX9_layGains_127 : decode cX9_layGains 127 = .ok (.getfield 38, 3) := by decide +kernel
theorem dX9_layGains_130 : decode cX9_layGains 130 = .ok (.iload_n 2, 1) := by decide +kernel
theorem dX9_layGains_131 : decode cX9_layGains 131 = .ok (.iaload, 1) := by decide +kernel
theorem dX9_layGains_132 : decode cX9_layGains 132 = .ok (.invokevirtual 144, 3) := by decide +kernel
theorem dX9_layGains_135 : decode cX9_layGains 135 = .ok (.iconst 3, 1) := by decide +kernel
theorem dX9_layGains_136 : decode cX9_layGains 136 = .ok (.if_icmp .ne 7, 3) := by decide +kernel
theorem dX9_layGains_139 : decode cX9_layGains 139 = .ok (.iconst 1, 1) := by decide +kernel
theorem dX9_layGains_140 : decode cX9_layGains 140 = .ok (.goto 4, 3) := by decide +kernel
theorem dX9_layGains_143 : decode cX9_layGains 143 = .ok (.iconst 0, 1) := by decide +kernel
theorem dX9_layGains_144 : decode cX9_layGains 144 = .ok (.iadd, 1) := by decide +kernel
theorem dX9_layGains_145 : decode cX9_layGains 145 = .ok (.iastore, 1) := by decide +kernel
theorem dX9_layGains_146 : decode cX9_layGains 146 = .ok (.return_, 1) := by decide +kernel
theorem dX9_rests_0 : decode cX9_rests 0 = .ok (.aload_n 0, 1) := by decide +kernel
theorem dX9_rests_1 : decode cX9_rests 1 = .ok (.iconst 0, 1) := by decide +kernel
theorem dX9_rests_2 : decode cX9_rests 2 = .ok (.putfield 75, 3) := by decide +kernel
theorem dX9_rests_5 : decode cX9_rests 5 = .ok (.aload_n 0, 1) := by decide +kernel
theorem dX9_rests_6 : decode cX9_rests 6 = .ok (.iload_n 1, 1) := by decide +kernel
theorem dX9_rests_7 : decode cX9_rests 7 = .ok (.invokevirtual 191, 3) := by decide +kernel
theorem dX9_rests_10 : decode cX9_rests 10 = .ok (.ifCond .ne 11, 3) := by decide +kernel
theorem dX9_rests_13 : decode cX9_rests 13 = .ok (.aload_n 0, 1) := by decide +kernel
theorem dX9_rests_14 : decode cX9_rests 14 = .ok (.iload_n 2, 1) := by decide +kernel
theorem dX9_rests_15 : decode cX9_rests 15 = .ok (.invokevirtual 191, 3) := by decide +kernel
theorem dX9_rests_18 : decode cX9_rests 18 = .ok (.ifCond .eq 5, 3) := by decide +kernel
theorem dX9_rests_21 : decode cX9_rests 21 = .ok (.iconst (-1), 1) := by decide +kernel
theorem dX9_rests_22 : decode cX9_rests 22 = .ok (.ireturn, 1) := by decide +kernel
theorem dX9_rests_23 : decode cX9_rests 23 = .ok (.iload_n 1, 1) := by decide +kernel
theorem dX9_rests_24 : decode cX9_rests 24 = .ok (.iload_n 2, 1) := by decide +kernel
theorem dX9_rests_25 : decode cX9_rests 25 = .ok (.if_icmp .eq 13, 3) := by decide +kernel
theorem dX9_rests_28 : decode cX9_rests 28 = .ok (.iload_n 3, 1) := by decide +kernel
theorem dX9_rests_29 : decode cX9_rests 29 = .ok (.i2l, 1) := by decide +kernel
theorem dX9_rests_30 : decode cX9_rests 30 = .ok (.lconst 0, 1) := by decide +kernel
theorem dX9_rests_31 : decode cX9_rests 31 = .ok (.lconst 1, 1) := by decide +kernel
theorem dX9_rests_32 : decode cX9_rests 32 = .ok (.invokestatic 81, 3) := by decide +kernel
theorem dX9_rests_35 : decode cX9_rests 35 = .ok (.ifCond .ne 6, 3) := by decide +kernel
theorem dX9_rests_38 : decode cX9_rests 38 = .ok (.bipush (-2), 2) := by decide +kernel
theorem dX9_rests_40 : decode cX9_rests 40 = .ok (.ireturn, 1) := by decide +kernel
theorem dX9_rests_41 : decode cX9_rests 41 = .ok (.iconst 0, 1) := by decide +kernel
theorem dX9_rests_42 : decode cX9_rests 42 = .ok (.istore 4, 2) := by decide +kernel
theorem dX9_rests_44 : decode cX9_rests 44 = .ok (.iload 4, 2) := by decide +kernel
theorem dX9_rests_46 : decode cX9_rests 46 = .ok (.bipush 16, 2) := by decide +kernel
theorem dX9_rests_48 : decode cX9_rests 48 = .ok (.if_icmp .ge 17, 3) := by decide +kernel
theorem dX9_rests_51 : decode cX9_rests 51 = .ok (.aload_n 0, 1) := by decide +kernel
theorem dX9_rests_52 : decode cX9_rests 52 = .ok (.iload_n 1, 1) := by decide +kernel
theorem dX9_rests_53 : decode cX9_rests 53 = .ok (.iload_n 2, 1) := by decide +kernel
theorem dX9_rests_54 : decode cX9_rests 54 = .ok (.iload 4, 2) := by decide +kernel
theorem dX9_rests_56 : decode cX9_rests 56 = .ok (.invokevirtual 268, 3) := by decide +kernel
theorem dX9_rests_59 : decode cX9_rests 59 = .ok (.iinc 4 1, 3) := by decide +kernel
theorem dX9_rests_62 : decode cX9_rests 62 = .ok (.goto (-18), 3) := by decide +kernel
theorem dX9_rests_65 : decode cX9_rests 65 = .ok (.aload_n 0, 1) := by decide +kernel
theorem dX9_rests_66 : decode cX9_rests 66 = .ok (.iconst 0, 1) := by decide +kernel
theorem dX9_rests_67 : decode cX9_rests 67 = .ok (.putfield 272, 3) := by decide +kernel
theorem dX9_rests_70 : decode cX9_rests 70 = .ok (.aload_n 0, 1) := by decide +kernel
theorem dX9_rests_71 : decode cX9_rests 71 = .ok (.bipush (-9), 2) := by decide +kernel
theorem dX9_rests_73 : decode cX9_rests 73 = .ok (.putfield 275, 3) := by decide +kernel
theorem dX9_rests_76 : decode cX9_rests 76 = .ok (.iconst 0, 1) := by decide +kernel
theorem dX9_rests_77 : decode cX9_rests 77 = .ok (.istore 4, 2) := by decide +kernel
theorem dX9_rests_79 : decode cX9_rests 79 = .ok (.iload 4, 2) := by decide +kernel
theorem dX9_rests_81 : decode cX9_rests 81 = .ok (.bipush 16, 2) := by decide +kernel
theorem dX9_rests_83 : decode cX9_rests 83 = .ok (.if_icmp .ge 154, 3) := by decide +kernel
theorem dX9_rests_86 : decode cX9_rests 86 = .ok (.iconst 1, 1) := by decide +kernel
theorem dX9_rests_87 : decode cX9_rests 87 = .ok (.istore 5, 2) := by decide +kernel
theorem dX9_rests_89 : decode cX9_rests 89 = .ok (.iconst 0, 1) := by decide +kernel
theorem dX9_rests_90 : decode cX9_rests 90 = .ok (.istore 6, 2) := by decide +kernel
theorem dX9_rests_92 : decode cX9_rests 92 = .ok (.iload 6, 2) := by decide +kernel
theorem dX9_rests_94 : decode cX9_rests 94 = .ok (.iconst 4, 1) := by decide +kernel
theorem dX9_rests_95 : decode cX9_rests 95 = .ok (.if_icmp .ge 82, 3) := by decide +kernel
theorem dX9_rests_98 : decode cX9_rests 98 = .ok (.iload 5, 2) := by decide +kernel
theorem dX9_rests_100 : decode cX9_rests 100 = .ok (.ifCond .eq 68, 3) := by decide +kernel
theorem dX9_rests_103 : decode cX9_rests 103 = .ok (.aload_n 0, 1) := by decide +kernel
theorem dX9_rests_104 : decode cX9_rests 104 = .ok (.getfield 69, 3) := by decide +kernel
theorem dX9_rests_107 : decode cX9_rests 107 = .ok (.iconst 2, 1) := by decide +kernel
theorem dX9_rests_108 : decode cX9_rests 108 = .ok (.iconst 4, 1) := by decide +kernel
theorem dX9_rests_109 : decode cX9_rests 109 = .ok (.iload 6, 2) := by decide +kernel
theorem dX9_rests_111 : decode cX9_rests 111 = .ok (.imul, 1) := by decide +kernel
theorem dX9_rests_112 : decode cX9_rests 112 = .ok (.iload 4, 2) := by decide +kernel
theorem dX9_rests_114 : decode cX9_rests 114 = .ok (.iconst 4, 1) := by decide +kernel
theorem dX9_rests_115 : decode cX9_rests 115 = .ok (.irem, 1) := by decide +kernel
theorem dX9_rests_116 : decode cX9_rests 116 = .ok (.iadd, 1) := by decide +kernel
theorem dX9_rests_117 : decode cX9_rests 117 = .ok (.imul, 1) := by decide +kernel
theorem dX9_rests_118 : decode cX9_rests 118 = .ok (.iaload, 1) := by decide +kernel
theorem dX9_rests_119 : decode cX9_rests 119 = .ok (.aload_n 0, 1) := by decide +kernel
theorem dX9_rests_120 : decode cX9_rests 120 = .ok (.getfield 69, 3) := by decide +kernel
theorem dX9_rests_123 : decode cX9_rests 123 = .ok (.iconst 2, 1) := by decide +kernel
theorem dX9_rests_124 : decode cX9_rests 124 = .ok (.iload 4, 2) := by decide +kernel
theorem dX9_rests_126 : decode cX9_rests 126 = .ok (.imul, 1) := by decide +kernel
theorem dX9_rests_127 : decode cX9_rests 127 = .ok (.iaload, 1) := by decide +kernel
theorem dX9_rests_128 : decode cX9_rests 128 = .ok (.if_icmp .gt 40, 3) := by decide +kernel
theorem dX9_rests_131 : decode cX9_rests 131 = .ok (.aload_n 0, 1) := by decide +kernel
theorem dX9_rests_132 : decode cX9_rests 132 = .ok (.getfield 69, 3) := by decide +kernel
theorem dX9_rests_135 : decode cX9_rests 135 = .ok (.iconst 2, 1) := by decide +kernel
theorem dX9_rests_136 : decode cX9_rests 136 = .ok (.iload 4, 2) := by decide +kernel
theorem dX9_rests_138 : decode cX9_rests 138 = .ok (.iload 4, 2) := by decide +kernel
theorem dX9_rests_140 : decode cX9_rests 140 = .ok (.iconst 4, 1) := by decide +kernel
theorem dX9_rests_141 : decode cX9_rests 141 = .ok (.irem, 1) := by decide +kernel
theorem dX9_rests_142 : decode cX9_rests 142 = .ok (.isub, 1) := by decide +kernel
theorem dX9_rests_143 : decode cX9_rests 143 = .ok (.iload 6, 2) := by decide +kernel
theorem dX9_rests_145 : decode cX9_rests 145 = .ok (.iadd, 1) := by decide +kernel
theorem dX9_rests_146 : decode cX9_rests 146 = .ok (.imul, 1) := by decide +kernel
theorem dX9_rests_147 : decode cX9_rests 147 = .ok (.iconst 1, 1) := by decide +kernel
theorem dX9_rests_148 : decode cX9_rests 148 = .ok (.iadd, 1) := by decide +kernel
theorem dX9_rests_149 : decode cX9_rests 149 = .ok (.iaload, 1) := by decide +kernel
theorem dX9_rests_150 : decode cX9_rests 150 = .ok (.aload_n 0, 1) := by decide +kernel
theorem dX9_rests_151 : decode cX9_rests 151 = .ok (.getfield 69, 3) := by decide +kernel
theorem dX9_rests_154 : decode cX9_rests 154 = .ok (.iconst 2, 1) := by decide +kernel
theorem dX9_rests_155 : decode cX9_rests 155 = .ok (.iload 4, 2) := by decide +kernel
theorem dX9_rests_157 : decode cX9_rests 157 = .ok (.imul, 1) := by decide +kernel
theorem dX9_rests_158 : decode cX9_rests 158 = .ok (.iconst 1, 1) := by decide +kernel
theorem dX9_rests_159 : decode cX9_rests 159 = .ok (.iadd, 1) := by decide +kernel
theorem dX9_rests_160 : decode cX9_rests 160 = .ok (.iaload, 1) := by decide +kernel
theorem dX9_rests_161 : decode cX9_rests 161 = .ok (.if_icmp .gt 7, 3) := by decide +kernel
theorem dX9_rests_164 : decode cX9_rests 164 = .ok (.iconst 1, 1) := by decide +kernel
theorem dX9_rests_165 : decode cX9_rests 165 = .ok (.goto 4, 3) := by decide +kernel
theorem dX9_rests_168 : decode cX9_rests 168 = .ok (.iconst 0, 1) := by decide +kernel
theorem dX9_rests_169 : decode cX9_rests 169 = .ok (.istore 5, 2) := by decide +kernel
theorem dX9_rests_171 : decode cX9_rests 171 = .ok (.iinc 6 1, 3) := by decide +kernel
theorem dX9_rests_174 : decode cX9_rests 174 = .ok (.goto (-82), 3) := by decide +kernel
theorem dX9_rests_177 : decode cX9_rests 177 = .ok (.aload_n 0, 1) := by decide +kernel
theorem dX9_rests_178 : decode cX9_rests 178 = .ok (.iload 5, 2) := by decide +kernel
theorem dX9_rests_180 : decode cX9_rests 180 = .ok (.ifCond .eq 25, 3) := by decide +kernel
theorem dX9_rests_183 : decode cX9_rests 183 = .ok (.aload_n 0, 1) := by decide +kernel
theorem dX9_rests_184 : decode cX9_rests 184 = .ok (.getfield 272, 3) := by decide +kernel
theorem dX9_rests_187 : decode cX9_rests 187 = .ok (.ifCond .ne 18, 3) := by decide +kernel
theorem dX9_rests_190 : decode cX9_rests 190 = .ok (.bipush 10, 2) := by decide +kernel
theorem dX9_rests_192 : decode cX9_rests 192 = .ok (.iload 4, 2) := by decide +kernel
theorem dX9_rests_194 : decode cX9_rests 194 = .ok (.iconst 4, 1) := by decide +kernel
theorem dX9_rests_195 : decode cX9_rests 195 = .ok (.idiv, 1) := by decide +kernel
theorem dX9_rests_196 : decode cX9_rests 196 = .ok (.imul, 1) := by decide +kernel
theorem dX9_rests_197 : decode cX9_rests 197 = .ok (.iload 4, 2) := by decide +kernel
theorem dX9_rests_199 : decode cX9_rests 199 = .ok (.iconst 4, 1) := by decide +kernel
theorem dX9_rests_200 : decode cX9_rests 200 = .ok (.irem, 1) := by decide +kernel
theorem dX9_rests_201 : decode cX9_rests 201 = .ok (.iadd, 1) := by decide +kernel
theorem dX9_rests_202 : decode cX9_rests 202 = .ok (.goto 7, 3) := by decide +kernel
theorem dX9_rests_205 : decode cX9_rests 205 = .ok (.aload_n 0, 1) := by decide +kernel
theorem dX9_rests_206 : decode cX9_rests 206 = .ok (.getfield 275, 3) := by decide +kernel
theorem dX9_rests_209 : decode cX9_rests 209 = .ok (.putfield 275, 3) := by decide +kernel
theorem dX9_rests_212 : decode cX9_rests 212 = .ok (.aload_n 0, 1) := by decide +kernel
theorem dX9_rests_213 : decode cX9_rests 213 = .ok (.dup, 1) := by decide +kernel
theorem dX9_rests_214 : decode cX9_rests 214 = .ok (.getfield 272, 3) := by decide +kernel
theorem dX9_rests_217 : decode cX9_rests 217 = .ok (.iload 5, 2) := by decide +kernel
theorem dX9_rests_219 : decode cX9_rests 219 = .ok (.ifCond .eq 7, 3) := by decide +kernel
theorem dX9_rests_222 : decode cX9_rests 222 = .ok (.iconst 1, 1) := by decide +kernel
theorem dX9_rests_223 : decode cX9_rests 223 = .ok (.goto 4, 3) := by decide +kernel
theorem dX9_rests_226 : decode cX9_rests 226 = .ok (.iconst 0, 1) := by decide +kernel
theorem dX9_rests_227 : decode cX9_rests 227 = .ok (.iadd, 1) := by decide +kernel
theorem dX9_rests_228 : decode cX9_rests 228 = .ok (.putfield 272, 3) := by decide +kernel
theorem dX9_rests_231 : decode cX9_rests 231 = .ok (.iinc 4 1, 3) := by decide +kernel
theorem dX9_rests_234 : decode cX9_rests 234 = .ok (.goto (-155), 3) := by decide +kernel
theorem dX9_rests_237 : decode cX9_rests 237 = .ok (.iload_n 3, 1) := by decide +kernel
theorem dX9_rests_238 : decode cX9_rests 238 = .ok (.ifCond .ne 10, 3) := by decide +kernel
theorem dX9_rests_241 : decode cX9_rests 241 = .ok (.aload_n 0, 1) := by decide +kernel
theorem dX9_rests_242 : decode cX9_rests 242 = .ok (.getfield 272, 3) := by decide +kernel
theorem dX9_rests_245 : decode cX9_rests 245 = .ok (.goto 7, 3) := by decide +kernel
theorem dX9_rests_248 : decode cX9_rests 248 = .ok (.aload_n 0, 1) := by decide +kernel
theorem dX9_rests_249 : decode cX9_rests 249 = .ok (.getfield 275, 3) := by decide +kernel
theorem dX9_rests_252 : decode cX9_rests 252 = .ok (.ireturn, 1) := by decide +kernel
theorem dX9_strays_0 : decode cX9_strays 0 = .ok (.aload_n 0, 1) := by decide +kernel
theorem dX9_strays_1 : decode cX9_strays 1 = .ok (.iconst 0, 1) := by decide +kernel
theorem dX9_strays_2 : decode cX9_strays 2 = .ok (.putfield 75, 3) := by decide +kernel
theorem dX9_strays_5 : decode cX9_strays 5 = .ok (.aload_n 0, 1) := by decide +kernel
theorem dX9_strays_6 : decode cX9_strays 6 = .ok (.iload_n 1, 1) := by decide +kernel
theorem dX9_strays_7 : decode cX9_strays 7 = .ok (.invokevirtual 191, 3) := by decide +kernel
theorem dX9_strays_10 : decode cX9_strays 10 = .ok (.ifCond .eq 5, 3) := by decide +kernel
theorem dX9_strays_13 : decode cX9_strays 13 = .ok (.iconst (-1), 1) := by decide +kernel
theorem dX9_strays_14 : decode cX9_strays 14 = .ok (.ireturn, 1) := by decide +kernel
theorem dX9_strays_15 : decode cX9_strays 15 = .ok (.iload_n 2, 1) := by decide +kernel
theorem dX9_strays_16 : decode cX9_strays 16 = .ok (.i2l, 1) := by decide +kernel
theorem dX9_strays_17 : decode cX9_strays 17 = .ok (.lconst 1, 1) := by decide +kernel
theorem dX9_strays_18 : decode cX9_strays 18 = .ok (.ldc2_w 278, 3) := by decide +kernel
theorem dX9_strays_21 : decode cX9_strays 21 = .ok (.invokestatic 81, 3) := by decide +kernel
theorem dX9_strays_24 : decode cX9_strays 24 = .ok (.ifCond .ne 6, 3) := by decide +kernel
theorem dX9_strays_27 : decode cX9_strays 27 = .ok (.bipush (-2), 2) := by decide +kernel
theorem dX9_strays_29 : decode cX9_strays 29 = .ok (.ireturn, 1) := by decide +kernel
theorem dX9_strays_30 : decode cX9_strays 30 = .ok (.iconst 0, 1) := by decide +kernel
theorem dX9_strays_31 : decode cX9_strays 31 = .ok (.istore 4, 2) := by decide +kernel
theorem dX9_strays_33 : decode cX9_strays 33 = .ok (.iconst 0, 1) := by decide +kernel
theorem dX9_strays_34 : decode cX9_strays 34 = .ok (.istore 5, 2) := by decide +kernel
theorem dX9_strays_36 : decode cX9_strays 36 = .ok (.iload 5, 2) := by decide +kernel
theorem dX9_strays_38 : decode cX9_strays 38 = .ok (.iconst 4, 1) := by decide +kernel
theorem dX9_strays_39 : decode cX9_strays 39 = .ok (.iload_n 2, 1) := by decide +kernel
theorem dX9_strays_40 : decode cX9_strays 40 = .ok (.invokestatic 280, 3) := by decide +kernel
theorem dX9_strays_43 : decode cX9_strays 43 = .ok (.if_icmp .ge 71, 3) := by decide +kernel
theorem dX9_strays_46 : decode cX9_strays 46 = .ok (.aload_n 0, 1) := by decide +kernel
theorem dX9_strays_47 : decode cX9_strays 47 = .ok (.invokevirtual 248, 3) := by decide +kernel
theorem dX9_strays_50 : decode cX9_strays 50 = .ok (.iconst 0, 1) := by decide +kernel
theorem dX9_strays_51 : decode cX9_strays 51 = .ok (.istore 6, 2) := by decide +kernel
theorem dX9_strays_53 : decode cX9_strays 53 = .ok (.iload 6, 2) := by decide +kernel
theorem dX9_strays_55 : decode cX9_strays 55 = .ok (.iload_n 2, 1) := by decide +kernel
theorem dX9_strays_56 : decode cX9_strays 56 = .ok (.if_icmp .ge 30, 3) := by decide +kernel
theorem dX9_strays_59 : decode cX9_strays 59 = .ok (.aload_n 0, 1) := by decide +kernel
theorem dX9_strays_60 : decode cX9_strays 60 = .ok (.aload_n 0, 1) := by decide +kernel
theorem dX9_strays_61 : decode cX9_strays 61 = .ok (.getfield 38, 3) := by decide +kernel
theorem dX9_strays_64 : decode cX9_strays 64 = .ok (.iload_n 1, 1) := by decide +kernel
theorem dX9_strays_65 : decode cX9_strays 65 = .ok (.iload 5, 2) := by decide +kernel
theorem dX9_strays_67 : decode cX9_strays 67 = .ok (.iconst 4, 1) := by decide +kernel
theorem dX9_strays_68 : decode cX9_strays 68 = .ok (.iload 6, 2) := by decide +kernel
theorem dX9_strays_70 : decode cX9_strays 70 = .ok (.invokestatic 280, 3) := by decide +kernel
theorem dX9_strays_73 : decode cX9_strays 73 = .ok (.idiv, 1) := by decide +kernel
theorem dX9_strays_74 : decode cX9_strays 74 = .ok (.iconst 4, 1) := by decide +kernel
theorem dX9_strays_75 : decode cX9_strays 75 = .ok (.irem, 1) := by decide +kernel
theorem dX9_strays_76 : decode cX9_strays 76 = .ok (.invokevirtual 200, 3) := by decide +kernel
theorem dX9_strays_79 : decode cX9_strays 79 = .ok (.pop, 1) := by decide +kernel
theorem dX9_strays_80 : decode cX9_strays 80 = .ok (.iinc 6 1, 3) := by decide +kernel
theorem dX9_strays_83 : decode cX9_strays 83 = .ok (.goto (-30), 3) := by decide +kernel
theorem dX9_strays_86 : decode cX9_strays 86 = .ok (.iload 4, 2) := by decide +kernel
theorem dX9_strays_88 : decode cX9_strays 88 = .ok (.aload_n 0, 1) := by decide +kernel
theorem dX9_strays_89 : decode cX9_strays 89 = .ok (.aload_n 0, 1) := by decide +kernel
theorem dX9_strays_90 : decode cX9_strays 90 = .ok (.getfield 38, 3) := by decide +kernel
theorem dX9_strays_93 : decode cX9_strays 93 = .ok (.iload_n 1, 1) := by decide +kernel
theorem dX9_strays_94 : decode cX9_strays 94 = .ok (.invokevirtual 162, 3) := by decide +kernel
theorem dX9_strays_97 : decode cX9_strays 97 = .ok (.ifCond .eq 7, 3) := by decide +kernel
theorem dX9_strays_100 : decode cX9_strays 100 = .ok (.iconst 1, 1) := by decide +kernel
theorem dX9_strays_101 : decode cX9_strays 101 = .ok (.goto 4, 3) := by decide +kernel
theorem dX9_strays_104 : decode cX9_strays 104 = .ok (.iconst 0, 1) := by decide +kernel
theorem dX9_strays_105 : decode cX9_strays 105 = .ok (.iadd, 1) := by decide +kernel
theorem dX9_strays_106 : decode cX9_strays 106 = .ok (.istore 4, 2) := by decide +kernel
theorem dX9_strays_108 : decode cX9_strays 108 = .ok (.iinc 5 1, 3) := by decide +kernel
theorem dX9_strays_111 : decode cX9_strays 111 = .ok (.goto (-75), 3) := by decide +kernel
theorem dX9_strays_114 : decode cX9_strays 114 = .ok (.iload 4, 2) := by decide +kernel
theorem dX9_strays_116 : decode cX9_strays 116 = .ok (.iconst 4, 1) := by decide +kernel
theorem dX9_strays_117 : decode cX9_strays 117 = .ok (.iload_n 2, 1) := by decide +kernel
theorem dX9_strays_118 : decode cX9_strays 118 = .ok (.invokestatic 280, 3) := by decide +kernel
theorem dX9_strays_121 : decode cX9_strays 121 = .ok (.iload_n 3, 1) := by decide +kernel
theorem dX9_strays_122 : decode cX9_strays 122 = .ok (.invokestatic 260, 3) := by decide +kernel
theorem dX9_strays_125 : decode cX9_strays 125 = .ok (.ireturn, 1) := by decide +kernel
theorem dX9_seed_0 : decode cX9_seed 0 = .ok (.aload_n 0, 1) := by decide +kernel
theorem dX9_seed_1 : decode cX9_seed 1 = .ok (.iconst 0, 1) := by decide +kernel
theorem dX9_seed_2 : decode cX9_seed 2 = .ok (.putfield 75, 3) := by decide +kernel
theorem dX9_seed_5 : decode cX9_seed 5 = .ok (.aload_n 0, 1) := by decide +kernel
theorem dX9_seed_6 : decode cX9_seed 6 = .ok (.getfield 283, 3) := by decide +kernel
theorem dX9_seed_9 : decode cX9_seed 9 = .ok (.lstore_n 3, 1) := by decide +kernel
theorem dX9_seed_10 : decode cX9_seed 10 = .ok (.aload_n 0, 1) := by decide +kernel
theorem dX9_seed_11 : decode cX9_seed 11 = .ok (.lload_n 1, 1) := by decide +kernel
theorem dX9_seed_12 : decode cX9_seed 12 = .ok (.putfield 283, 3) := by decide +kernel
theorem dX9_seed_15 : decode cX9_seed 15 = .ok (.lload_n 3, 1) := by decide +kernel
theorem dX9_seed_16 : decode cX9_seed 16 = .ok (.lreturn, 1) := by decide +kernel
theorem dX9_nights_0 : decode cX9_nights 0 = .ok (.aload_n 0, 1) := by decide +kernel
theorem dX9_nights_1 : decode cX9_nights 1 = .ok (.iconst 0, 1) := by decide +kernel
theorem dX9_nights_2 : decode cX9_nights 2 = .ok (.putfield 75, 3) := by decide +kernel
theorem dX9_nights_5 : decode cX9_nights 5 = .ok (.iload_n 1, 1) := by decide +kernel
theorem dX9_nights_6 : decode cX9_nights 6 = .ok (.i2l, 1) := by decide +kernel
theorem dX9_nights_7 : decode cX9_nights 7 = .ok (.lconst 1, 1) := by decide +kernel
theorem dX9_nights_8 : decode cX9_nights 8 = .ok (.ldc2_w 287, 3) := by decide +kernel
theorem dX9_nights_11 : decode cX9_nights 11 = .ok (.invokestatic 81, 3) := by decide +kernel
theorem dX9_nights_14 : decode cX9_nights 14 = .ok (.ifCond .ne 6, 3) := by decide +kernel
theorem dX9_nights_17 : decode cX9_nights 17 = .ok (.bipush (-2), 2) := by decide +kernel
theorem dX9_nights_19 : decode cX9_nights 19 = .ok (.ireturn, 1) := by decide +kernel
theorem dX9_nights_20 : decode cX9_nights 20 = .ok (.aload_n 0, 1) := by decide +kernel
theorem dX9_nights_21 : decode cX9_nights 21 = .ok (.invokevirtual 248, 3) := by decide +kernel
theorem dX9_nights_24 : decode cX9_nights 24 = .ok (.iconst 0, 1) := by decide +kernel
theorem dX9_nights_25 : decode cX9_nights 25 = .ok (.istore_n 2, 1) := by decide +kernel
theorem dX9_nights_26 : decode cX9_nights 26 = .ok (.iconst 0, 1) := by decide +kernel
theorem dX9_nights_27 : decode cX9_nights 27 = .ok (.istore_n 3, 1) := by decide +kernel
theorem dX9_nights_28 : decode cX9_nights 28 = .ok (.iload_n 3, 1) := by decide +kernel
theorem dX9_nights_29 : decode cX9_nights 29 = .ok (.iload_n 1, 1) := by decide +kernel
theorem dX9_nights_30 : decode cX9_nights 30 = .ok (.if_icmp .ge 86, 3) := by decide +kernel
theorem dX9_nights_33 : decode cX9_nights 33 = .ok (.aload_n 0, 1) := by decide +kernel
theorem dX9_nights_34 : decode cX9_nights 34 = .ok (.aload_n 0, 1) := by decide +kernel
theorem dX9_nights_35 : decode cX9_nights 35 = .ok (.getfield 283, 3) := by decide +kernel
theorem dX9_nights_38 : decode cX9_nights 38 = .ok (.ldc2_w 289, 3) := by decide +kernel
theorem dX9_nights_41 : decode cX9_nights 41 = .ok (.lmul, 1) := by decide +kernel
theorem dX9_nights_42 : decode cX9_nights 42 = .ok (.ldc2_w 291, 3) := by decide +kernel
theorem dX9_nights_45 : decode cX9_nights 45 = .ok (.ladd, 1) := by decide +kernel
theorem dX9_nights_46 : decode cX9_nights 46 = .ok (.putfield 283, 3) := by decide +kernel
theorem dX9_nights_49 : decode cX9_nights 49 = .ok (.aload_n 0, 1) := by decide +kernel
theorem dX9_nights_50 : decode cX9_nights 50 = .ok (.getfield 283, 3) := by decide +kernel
theorem dX9_nights_53 : decode cX9_nights 53 = .ok (.bipush 33, 2) := by decide +kernel
theorem dX9_nights_55 : decode cX9_nights 55 = .ok (.lushr, 1) := by decide +kernel
theorem dX9_nights_56 : decode cX9_nights 56 = .ok (.ldc2_w 293, 3) := by decide +kernel
theorem dX9_nights_59 : decode cX9_nights 59 = .ok (.lrem, 1) := by decide +kernel
theorem dX9_nights_60 : decode cX9_nights 60 = .ok (.l2i, 1) := by decide +kernel
theorem dX9_nights_61 : decode cX9_nights 61 = .ok (.istore 4, 2) := by decide +kernel
theorem dX9_nights_63 : decode cX9_nights 63 = .ok (.aload_n 0, 1) := by decide +kernel
theorem dX9_nights_64 : decode cX9_nights 64 = .ok (.iload 4, 2) := by decide +kernel
theorem dX9_nights_66 : decode cX9_nights 66 = .ok (.bipush 20, 2) := by decide +kernel
theorem dX9_nights_68 : decode cX9_nights 68 = .ok (.if_icmp .ge 21, 3) := by decide +kernel
theorem dX9_nights_71 : decode cX9_nights 71 = .ok (.bipush 100, 2) := by decide +kernel
theorem dX9_nights_73 : decode cX9_nights 73 = .ok (.bipush 10, 2) := by decide +kernel
theorem dX9_nights_75 : decode cX9_nights 75 = .ok (.iload 4, 2) := by decide +kernel
theorem dX9_nights_77 : decode cX9_nights 77 = .ok (.iconst 4, 1) := by decide +kernel
theorem dX9_nights_78 : decode cX9_nights 78 = .ok (.idiv, 1) := by decide +kernel
theorem dX9_nights_79 : decode cX9_nights 79 = .ok (.imul, 1) := by decide +kernel
theorem dX9_nights_80 : decode cX9_nights 80 = .ok (.iadd, 1) := by decide +kernel
theorem dX9_nights_81 : decode cX9_nights 81 = .ok (.iload 4, 2) := by decide +kernel
theorem dX9_nights_83 : decode cX9_nights 83 = .ok (.iconst 4, 1) := by decide +kernel
theorem dX9_nights_84 : decode cX9_nights 84 = .ok (.irem, 1) := by decide +kernel
theorem dX9_nights_85 : decode cX9_nights 85 = .ok (.iadd, 1) := by decide +kernel
theorem dX9_nights_86 : decode cX9_nights 86 = .ok (.goto 9, 3) := by decide +kernel
theorem dX9_nights_89 : decode cX9_nights 89 = .ok (.sipush 180, 3) := by decide +kernel
theorem dX9_nights_92 : decode cX9_nights 92 = .ok (.iload 4, 2) := by decide +kernel
theorem dX9_nights_94 : decode cX9_nights 94 = .ok (.iadd, 1) := by decide +kernel
theorem dX9_nights_95 : decode cX9_nights 95 = .ok (.invokevirtual 251, 3) := by decide +kernel
theorem dX9_nights_98 : decode cX9_nights 98 = .ok (.pop, 1) := by decide +kernel
theorem dX9_nights_99 : decode cX9_nights 99 = .ok (.iload_n 2, 1) := by decide +kernel
theorem dX9_nights_100 : decode cX9_nights 100 = .ok (.aload_n 0, 1) := by decide +kernel
theorem dX9_nights_101 : decode cX9_nights 101 = .ok (.aload_n 0, 1) := by decide +kernel
theorem dX9_nights_102 : decode cX9_nights 102 = .ok (.getfield 38, 3) := by decide +kernel
theorem dX9_nights_105 : decode cX9_nights 105 = .ok (.invokevirtual 206, 3) := by decide +kernel
theorem dX9_nights_108 : decode cX9_nights 108 = .ok (.iadd, 1) := by decide +kernel
theorem dX9_nights_109 : decode cX9_nights 109 = .ok (.istore_n 2, 1) := by decide +kernel
theorem dX9_nights_110 : decode cX9_nights 110 = .ok (.iinc 3 1, 3) := by decide +kernel
theorem dX9_nights_113 : decode cX9_nights 113 = .ok (.goto (-85), 3) := by decide +kernel
theorem dX9_nights_116 : decode cX9_nights 116 = .ok (.iload_n 2, 1) := by decide +kernel
theorem dX9_nights_117 : decode cX9_nights 117 = .ok (.ireturn, 1) := by decide +kernel
theorem dX9_keep_0 : decode cX9_keep 0 = .ok (.aload_n 0, 1) := by decide +kernel
theorem dX9_keep_1 : decode cX9_keep 1 = .ok (.iconst 0, 1) := by decide +kernel
theorem dX9_keep_2 : decode cX9_keep 2 = .ok (.putfield 75, 3) := by decide +kernel
theorem dX9_keep_5 : decode cX9_keep 5 = .ok (.iload_n 1, 1) := by decide +kernel
theorem dX9_keep_6 : decode cX9_keep 6 = .ok (.i2l, 1) := by decide +kernel
theorem dX9_keep_7 : decode cX9_keep 7 = .ok (.lconst 0, 1) := by decide +kernel
theorem dX9_keep_8 : decode cX9_keep 8 = .ok (.lconst 1, 1) := by decide +kernel
theorem dX9_keep_9 : decode cX9_keep 9 = .ok (.invokestatic 81, 3) := by decide +kernel
theorem dX9_keep_12 : decode cX9_keep 12 = .ok (.ifCond .ne 5, 3) := by decide +kernel
theorem dX9_keep_15 : decode cX9_keep 15 = .ok (.iconst (-1), 1) := by decide +kernel
theorem dX9_keep_16 : decode cX9_keep 16 = .ok (.ireturn, 1) := by decide +kernel
theorem dX9_keep_17 : decode cX9_keep 17 = .ok (.aload_n 0, 1) := by decide +kernel
theorem dX9_keep_18 : decode cX9_keep 18 = .ok (.getfield 47, 3) := by decide +kernel
theorem dX9_keep_21 : decode cX9_keep 21 = .ok (.iload_n 1, 1) := by decide +kernel
theorem dX9_keep_22 : decode cX9_keep 22 = .ok (.iconst 1, 1) := by decide +kernel
theorem dX9_keep_23 : decode cX9_keep 23 = .ok (.bastore, 1) := by decide +kernel
theorem dX9_keep_24 : decode cX9_keep 24 = .ok (.iconst 0, 1) := by decide +kernel
theorem dX9_keep_25 : decode cX9_keep 25 = .ok (.istore_n 2, 1) := by decide +kernel
theorem dX9_keep_26 : decode cX9_keep 26 = .ok (.iload_n 2, 1) := by decide +kernel
theorem dX9_keep_27 : decode cX9_keep 27 = .ok (.bipush 16, 2) := by decide +kernel
theorem dX9_keep_29 : decode cX9_keep 29 = .ok (.if_icmp .ge 26, 3) := by decide +kernel
theorem dX9_keep_32 : decode cX9_keep 32 = .ok (.aload_n 0, 1) := by decide +kernel
theorem dX9_keep_33 : decode cX9_keep 33 = .ok (.getfield 44, 3) := by decide +kernel
theorem dX9_keep_36 : decode cX9_keep 36 = .ok (.bipush 16, 2) := by decide +kernel
theorem dX9_keep_38 : decode cX9_keep 38 = .ok (.iload_n 1, 1) := by decide +kernel
theorem dX9_keep_39 : decode cX9_keep 39 = .ok (.imul, 1) := by decide +kernel
theorem dX9_keep_40 : decode cX9_keep 40 = .ok (.iload_n 2, 1) := by decide +kernel
theorem dX9_keep_41 : decode cX9_keep 41 = .ok (.iadd, 1) := by decide +kernel
theorem dX9_keep_42 : decode cX9_keep 42 = .ok (.aload_n 0, 1) := by decide +kernel
theorem dX9_keep_43 : decode cX9_keep 43 = .ok (.getfield 35, 3) := by decide +kernel
theorem dX9_keep_46 : decode cX9_keep 46 = .ok (.iload_n 2, 1) := by decide +kernel
theorem dX9_keep_47 : decode cX9_keep 47 = .ok (.iaload, 1) := by decide +kernel
theorem dX9_keep_48 : decode cX9_keep 48 = .ok (.iastore, 1) := by decide +kernel
theorem dX9_keep_49 : decode cX9_keep 49 = .ok (.iinc 2 1, 3) := by decide +kernel
theorem dX9_keep_52 : decode cX9_keep 52 = .ok (.goto (-26), 3) := by decide +kernel
theorem dX9_keep_55 : decode cX9_keep 55 = .ok (.aload_n 0, 1) := by decide +kernel
theorem dX9_keep_56 : decode cX9_keep 56 = .ok (.aload_n 0, 1) := by decide +kernel
theorem dX9_keep_57 : decode cX9_keep 57 = .ok (.getfield 35, 3) := by decide +kernel
theorem dX9_keep_60 : decode cX9_keep 60 = .ok (.invokevirtual 206, 3) := by decide +kernel
theorem dX9_keep_63 : decode cX9_keep 63 = .ok (.ireturn, 1) := by decide +kernel
theorem dX9_goOn_0 : decode cX9_goOn 0 = .ok (.aload_n 0, 1) := by decide +kernel
theorem dX9_goOn_1 : decode cX9_goOn 1 = .ok (.iconst 0, 1) := by decide +kernel
theorem dX9_goOn_2 : decode cX9_goOn 2 = .ok (.putfield 75, 3) := by decide +kernel
theorem dX9_goOn_5 : decode cX9_goOn 5 = .ok (.iload_n 1, 1) := by decide +kernel
theorem dX9_goOn_6 : decode cX9_goOn 6 = .ok (.i2l, 1) := by decide +kernel
theorem dX9_goOn_7 : decode cX9_goOn 7 = .ok (.lconst 0, 1) := by decide +kernel
theorem dX9_goOn_8 : decode cX9_goOn 8 = .ok (.lconst 1, 1) := by decide +kernel
theorem dX9_goOn_9 : decode cX9_goOn 9 = .ok (.invokestatic 81, 3) := by decide +kernel
theorem dX9_goOn_12 : decode cX9_goOn 12 = .ok (.ifCond .ne 5, 3) := by decide +kernel
theorem dX9_goOn_15 : decode cX9_goOn 15 = .ok (.iconst (-1), 1) := by decide +kernel
theorem dX9_goOn_16 : decode cX9_goOn 16 = .ok (.ireturn, 1) := by decide +kernel
theorem dX9_goOn_17 : decode cX9_goOn 17 = .ok (.aload_n 0, 1) := by decide +kernel
theorem dX9_goOn_18 : decode cX9_goOn 18 = .ok (.getfield 47, 3) := by decide +kernel
theorem dX9_goOn_21 : decode cX9_goOn 21 = .ok (.iload_n 1, 1) := by decide +kernel
theorem dX9_goOn_22 : decode cX9_goOn 22 = .ok (.baload, 1) := by decide +kernel
theorem dX9_goOn_23 : decode cX9_goOn 23 = .ok (.ifCond .ne 6, 3) := by decide +kernel
theorem dX9_goOn_26 : decode cX9_goOn 26 = .ok (.bipush (-3), 2) := by decide +kernel
theorem dX9_goOn_28 : decode cX9_goOn 28 = .ok (.ireturn, 1) := by decide +kernel
theorem dX9_goOn_29 : decode cX9_goOn 29 = .ok (.iconst 0, 1) := by decide +kernel
theorem dX9_goOn_30 : decode cX9_goOn 30 = .ok (.istore_n 2, 1) := by decide +kernel
theorem dX9_goOn_31 : decode cX9_goOn 31 = .ok (.iload_n 2, 1) := by decide +kernel
theorem dX9_goOn_32 : decode cX9_goOn 32 = .ok (.bipush 16, 2) := by decide +kernel
theorem dX9_goOn_34 : decode cX9_goOn 34 = .ok (.if_icmp .ge 26, 3) := by decide +kernel
theorem dX9_goOn_37 : decode cX9_goOn 37 = .ok (.aload_n 0, 1) := by decide +kernel
theorem dX9_goOn_38 : decode cX9_goOn 38 = .ok (.getfield 35, 3) := by decide +kernel
theorem dX9_goOn_41 : decode cX9_goOn 41 = .ok (.iload_n 2, 1) := by decide +kernel
theorem dX9_goOn_42 : decode cX9_goOn 42 = .ok (.aload_n 0, 1) := by decide +kernel
theorem dX9_goOn_43 : decode cX9_goOn 43 = .ok (.getfield 44, 3) := by decide +kernel
theorem dX9_goOn_46 : decode cX9_goOn 46 = .ok (.bipush 16, 2) := by decide +kernel
theorem dX9_goOn_48 : decode cX9_goOn 48 = .ok (.iload_n 1, 1) := by decide +kernel
theorem dX9_goOn_49 : decode cX9_goOn 49 = .ok (.imul, 1) := by decide +kernel
theorem dX9_goOn_50 : decode cX9_goOn 50 = .ok (.iload_n 2, 1) := by decide +kernel
theorem dX9_goOn_51 : decode cX9_goOn 51 = .ok (.iadd, 1) := by decide +kernel
theorem dX9_goOn_52 : decode cX9_goOn 52 = .ok (.iaload, 1) := by decide +kernel
theorem dX9_goOn_53 : decode cX9_goOn 53 = .ok (.iastore, 1) := by decide +kernel
theorem dX9_goOn_54 : decode cX9_goOn 54 = .ok (.iinc 2 1, 3) := by decide +kernel
theorem dX9_goOn_57 : decode cX9_goOn 57 = .ok (.goto (-26), 3) := by decide +kernel
theorem dX9_goOn_60 : decode cX9_goOn 60 = .ok (.aload_n 0, 1) := by decide +kernel
theorem dX9_goOn_61 : decode cX9_goOn 61 = .ok (.iconst 0, 1) := by decide +kernel
theorem dX9_goOn_62 : decode cX9_goOn 62 = .ok (.putfield 131, 3) := by decide +kernel
theorem dX9_goOn_65 : decode cX9_goOn 65 = .ok (.aload_n 0, 1) := by decide +kernel
theorem dX9_goOn_66 : decode cX9_goOn 66 = .ok (.aload_n 0, 1) := by decide +kernel
theorem dX9_goOn_67 : decode cX9_goOn 67 = .ok (.getfield 35, 3) := by decide +kernel
theorem dX9_goOn_70 : decode cX9_goOn 70 = .ok (.invokevirtual 206, 3) := by decide +kernel
theorem dX9_goOn_73 : decode cX9_goOn 73 = .ok (.ireturn, 1) := by decide +kernel
theorem dJ6_bitCount_0f7a4_0 : decode cJ6_bitCount_0f7a4 0 = .ok (.iload_n 0, 1) := by decide +kernel
theorem dJ6_bitCount_0f7a4_1 : decode cJ6_bitCount_0f7a4 1 = .ok (.iload_n 0, 1) := by decide +kernel
theorem dJ6_bitCount_0f7a4_2 : decode cJ6_bitCount_0f7a4 2 = .ok (.iconst 1, 1) := by decide +kernel
theorem dJ6_bitCount_0f7a4_3 : decode cJ6_bitCount_0f7a4 3 = .ok (.iushr, 1) := by decide +kernel
theorem dJ6_bitCount_0f7a4_4 : decode cJ6_bitCount_0f7a4 4 = .ok (.ldc_w 265, 3) := by decide +kernel
theorem dJ6_bitCount_0f7a4_7 : decode cJ6_bitCount_0f7a4 7 = .ok (.iand, 1) := by decide +kernel
theorem dJ6_bitCount_0f7a4_8 : decode cJ6_bitCount_0f7a4 8 = .ok (.isub, 1) := by decide +kernel
theorem dJ6_bitCount_0f7a4_9 : decode cJ6_bitCount_0f7a4 9 = .ok (.istore_n 0, 1) := by decide +kernel
theorem dJ6_bitCount_0f7a4_10 : decode cJ6_bitCount_0f7a4 10 = .ok (.iload_n 0, 1) := by decide +kernel
theorem dJ6_bitCount_0f7a4_11 : decode cJ6_bitCount_0f7a4 11 = .ok (.ldc_w 266, 3) := by decide +kernel
theorem dJ6_bitCount_0f7a4_14 : decode cJ6_bitCount_0f7a4 14 = .ok (.iand, 1) := by decide +kernel
theorem dJ6_bitCount_0f7a4_15 : decode cJ6_bitCount_0f7a4 15 = .ok (.iload_n 0, 1) := by decide +kernel
theorem dJ6_bitCount_0f7a4_16 : decode cJ6_bitCount_0f7a4 16 = .ok (.iconst 2, 1) := by decide +kernel
theorem dJ6_bitCount_0f7a4_17 : decode cJ6_bitCount_0f7a4 17 = .ok (.iushr, 1) := by decide +kernel
theorem dJ6_bitCount_0f7a4_18 : decode cJ6_bitCount_0f7a4 18 = .ok (.ldc_w 266, 3) := by decide +kernel
theorem dJ6_bitCount_0f7a4_21 : decode cJ6_bitCount_0f7a4 21 = .ok (.iand, 1) := by decide +kernel
theorem dJ6_bitCount_0f7a4_22 : decode cJ6_bitCount_0f7a4 22 = .ok (.iadd, 1) := by decide +kernel
theorem dJ6_bitCount_0f7a4_23 : decode cJ6_bitCount_0f7a4 23 = .ok (.istore_n 0, 1) := by decide +kernel
theorem dJ6_bitCount_0f7a4_24 : decode cJ6_bitCount_0f7a4 24 = .ok (.iload_n 0, 1) := by decide +kernel
theorem dJ6_bitCount_0f7a4_25 : decode cJ6_bitCount_0f7a4 25 = .ok (.iload_n 0, 1) := by decide +kernel
theorem dJ6_bitCount_0f7a4_26 : decode cJ6_bitCount_0f7a4 26 = .ok (.iconst 4, 1) := by decide +kernel
theorem dJ6_bitCount_0f7a4_27 : decode cJ6_bitCount_0f7a4 27 = .ok (.iushr, 1) := by decide +kernel
theorem dJ6_bitCount_0f7a4_28 : decode cJ6_bitCount_0f7a4 28 = .ok (.iadd, 1) := by decide +kernel
theorem dJ6_bitCount_0f7a4_29 : decode cJ6_bitCount_0f7a4 29 = .ok (.ldc_w 267, 3) := by decide +kernel
theorem dJ6_bitCount_0f7a4_32 : decode cJ6_bitCount_0f7a4 32 = .ok (.iand, 1) := by decide +kernel
theorem dJ6_bitCount_0f7a4_33 : decode cJ6_bitCount_0f7a4 33 = .ok (.istore_n 0, 1) := by decide +kernel
theorem dJ6_bitCount_0f7a4_34 : decode cJ6_bitCount_0f7a4 34 = .ok (.iload_n 0, 1) := by decide +kernel
theorem dJ6_bitCount_0f7a4_35 : decode cJ6_bitCount_0f7a4 35 = .ok (.iload_n 0, 1) := by decide +kernel
theorem dJ6_bitCount_0f7a4_36 : decode cJ6_bitCount_0f7a4 36 = .ok (.bipush 8, 2) := by decide +kernel
theorem dJ6_bitCount_0f7a4_38 : decode cJ6_bitCount_0f7a4 38 = .ok (.iushr, 1) := by decide +kernel
theorem dJ6_bitCount_0f7a4_39 : decode cJ6_bitCount_0f7a4 39 = .ok (.iadd, 1) := by decide +kernel
theorem dJ6_bitCount_0f7a4_40 : decode cJ6_bitCount_0f7a4 40 = .ok (.istore_n 0, 1) := by decide +kernel
theorem dJ6_bitCount_0f7a4_41 : decode cJ6_bitCount_0f7a4 41 = .ok (.iload_n 0, 1) := by decide +kernel
theorem dJ6_bitCount_0f7a4_42 : decode cJ6_bitCount_0f7a4 42 = .ok (.iload_n 0, 1) := by decide +kernel
theorem dJ6_bitCount_0f7a4_43 : decode cJ6_bitCount_0f7a4 43 = .ok (.bipush 16, 2) := by decide +kernel
theorem dJ6_bitCount_0f7a4_45 : decode cJ6_bitCount_0f7a4 45 = .ok (.iushr, 1) := by decide +kernel
theorem dJ6_bitCount_0f7a4_46 : decode cJ6_bitCount_0f7a4 46 = .ok (.iadd, 1) := by decide +kernel
theorem dJ6_bitCount_0f7a4_47 : decode cJ6_bitCount_0f7a4 47 = .ok (.istore_n 0, 1) := by decide +kernel
theorem dJ6_bitCount_0f7a4_48 : decode cJ6_bitCount_0f7a4 48 = .ok (.iload_n 0, 1) := by decide +kernel
theorem dJ6_bitCount_0f7a4_49 : decode cJ6_bitCount_0f7a4 49 = .ok (.bipush 63, 2) := by decide +kernel
theorem dJ6_bitCount_0f7a4_51 : decode cJ6_bitCount_0f7a4 51 = .ok (.iand, 1) := by decide +kernel
theorem dJ6_bitCount_0f7a4_52 : decode cJ6_bitCount_0f7a4 52 = .ok (.ireturn, 1) := by decide +kernel
theorem dJ9_abs_0f7a4_0 : decode cJ9_abs_0f7a4 0 = .ok (.iload_n 0, 1) := by decide +kernel
theorem dJ9_abs_0f7a4_1 : decode cJ9_abs_0f7a4 1 = .ok (.ifCond .ge 8, 3) := by decide +kernel
theorem dJ9_abs_0f7a4_4 : decode cJ9_abs_0f7a4 4 = .ok (.iload_n 0, 1) := by decide +kernel
theorem dJ9_abs_0f7a4_5 : decode cJ9_abs_0f7a4 5 = .ok (.ineg, 1) := by decide +kernel
theorem dJ9_abs_0f7a4_6 : decode cJ9_abs_0f7a4 6 = .ok (.goto 4, 3) := by decide +kernel
theorem dJ9_abs_0f7a4_9 : decode cJ9_abs_0f7a4 9 = .ok (.iload_n 0, 1) := by decide +kernel
theorem dJ9_abs_0f7a4_10 : decode cJ9_abs_0f7a4 10 = .ok (.ireturn, 1) := by decide +kernel
theorem dJ9_min_7cf53_0 : decode cJ9_min_7cf53 0 = .ok (.iload_n 0, 1) := by decide +kernel
theorem dJ9_min_7cf53_1 : decode cJ9_min_7cf53 1 = .ok (.iload_n 1, 1) := by decide +kernel
theorem dJ9_min_7cf53_2 : decode cJ9_min_7cf53 2 = .ok (.if_icmp .gt 7, 3) := by decide +kernel
theorem dJ9_min_7cf53_5 : decode cJ9_min_7cf53 5 = .ok (.iload_n 0, 1) := by decide +kernel
theorem dJ9_min_7cf53_6 : decode cJ9_min_7cf53 6 = .ok (.goto 4, 3) := by decide +kernel
theorem dJ9_min_7cf53_9 : decode cJ9_min_7cf53 9 = .ok (.iload_n 1, 1) := by decide +kernel
theorem dJ9_min_7cf53_10 : decode cJ9_min_7cf53 10 = .ok (.ireturn, 1) := by decide +kernel
theorem dL_law_0 : decode cL_law 0 = .ok (.new 7, 3) := by decide +kernel
theorem dL_law_3 : decode cL_law 3 = .ok (.dup, 1) := by decide +kernel
theorem dL_law_4 : decode cL_law 4 = .ok (.invokespecial 9, 3) := by decide +kernel
theorem dL_law_7 : decode cL_law 7 = .ok (.astore_n 1, 1) := by decide +kernel
theorem dL_law_8 : decode cL_law 8 = .ok (.new 10, 3) := by decide +kernel
theorem dL_law_11 : decode cL_law 11 = .ok (.dup, 1) := by decide +kernel
theorem dL_law_12 : decode cL_law 12 = .ok (.invokespecial 12, 3) := by decide +kernel
theorem dL_law_15 : decode cL_law 15 = .ok (.astore_n 2, 1) := by decide +kernel
theorem dL_law_16 : decode cL_law 16 = .ok (.iconst 0, 1) := by decide +kernel
theorem dL_law_17 : decode cL_law 17 = .ok (.istore_n 3, 1) := by decide +kernel
theorem dL_law_18 : decode cL_law 18 = .ok (.iload_n 3, 1) := by decide +kernel
theorem dL_law_19 : decode cL_law 19 = .ok (.aload_n 0, 1) := by decide +kernel
theorem dL_law_20 : decode cL_law 20 = .ok (.arraylength, 1) := by decide +kernel
theorem dL_law_21 : decode cL_law 21 = .ok (.iconst 4, 1) := by decide +kernel
theorem dL_law_22 : decode cL_law 22 = .ok (.isub, 1) := by decide +kernel
theorem dL_law_23 : decode cL_law 23 = .ok (.if_icmp .gt 1003, 3) := by decide +kernel
theorem dL_law_26 : decode cL_law 26 = .ok (.aload_n 0, 1) := by decide +kernel
theorem dL_law_27 : decode cL_law 27 = .ok (.iload_n 3, 1) := by decide +kernel
theorem dL_law_28 : decode cL_law 28 = .ok (.iaload, 1) := by decide +kernel
theorem dL_law_29 : decode cL_law 29 = .ok (.bipush 31, 2) := by decide +kernel
theorem dL_law_31 : decode cL_law 31 = .ok (.iand, 1) := by decide +kernel
theorem dL_law_32 : decode cL_law 32 = .ok (.tableswitch 988 0 28 #[132, 155, 168, 181, 194, 217, 240, 299, 332, 365, 388, 411, 424, 447, 480, 513, 536, 559, 582, 645, 694, 737, 750, 763, 806, 865, 919, 942, 965], 132) := by decide +kernel
theorem dL_law_164 : decode cL_law 164 = .ok (.aload_n 1, 1) := by decide +kernel
theorem dL_law_165 : decode cL_law 165 = .ok (.aload_n 0, 1) := by decide +kernel
theorem dL_law_166 : decode cL_law 166 = .ok (.iload_n 3, 1) := by decide +kernel
theorem dL_law_167 : decode cL_law 167 = .ok (.iconst 1, 1) := by decide +kernel
theorem dL_law_168 : decode cL_law 168 = .ok (.iadd, 1) := by decide +kernel
theorem dL_law_169 : decode cL_law 169 = .ok (.iaload, 1) := by decide +kernel
theorem dL_law_170 : decode cL_law 170 = .ok (.invokevirtual 13, 3) := by decide +kernel
theorem dL_law_173 : decode cL_law 173 = .ok (.aload_n 2, 1) := by decide +kernel
theorem dL_law_174 : decode cL_law 174 = .ok (.aload_n 0, 1) := by decide +kernel
theorem dL_law_175 : decode cL_law 175 = .ok (.iload_n 3, 1) := by decide +kernel
theorem dL_law_176 : decode cL_law 176 = .ok (.iconst 1, 1) := by decide +kernel
theorem dL_law_177 : decode cL_law 177 = .ok (.iadd, 1) := by decide +kernel
theorem dL_law_178 : decode cL_law 178 = .ok (.iaload, 1) := by decide +kernel
theorem dL_law_179 : decode cL_law 179 = .ok (.invokevirtual 17, 3) := by decide +kernel
theorem dL_law_182 : decode cL_law 182 = .ok (.if_icmp .eq 838, 3) := by decide +kernel
theorem dL_law_185 : decode cL_law 185 = .ok (.iconst 0, 1) := by decide +kernel
theorem dL_law_186 : decode cL_law 186 = .ok (.ireturn, 1) := by decide +kernel
theorem dL_law_187 : decode cL_law 187 = .ok (.aload_n 1, 1) := by decide +kernel
theorem dL_law_188 : decode cL_law 188 = .ok (.invokevirtual 18, 3) := by decide +kernel
theorem dL_law_191 : decode cL_law 191 = .ok (.aload_n 2, 1) := by decide +kernel
theorem dL_law_192 : decode cL_law 192 = .ok (.invokevirtual 22, 3) := by decide +kernel
theorem dL_law_195 : decode cL_law 195 = .ok (.if_icmp .eq 825, 3) := by decide +kernel
theorem dL_law_198 : decode cL_law 198 = .ok (.iconst 0, 1) := by decide +kernel
theorem dL_law_199 : decode cL_law 199 = .ok (.ireturn, 1) := by decide +kernel
theorem dL_law_200 : decode cL_law 200 = .ok (.aload_n 1, 1) := by decide +kernel
theorem dL_law_201 : decode cL_law 201 = .ok (.invokevirtual 23, 3) := by decide +kernel
theorem dL_law_204 : decode cL_law 204 = .ok (.aload_n 2, 1) := by decide +kernel
theorem dL_law_205 : decode cL_law 205 = .ok (.invokevirtual 26, 3) := by decide +kernel
theorem dL_law_208 : decode cL_law 208 = .ok (.if_icmp .eq 812, 3) := by decide +kernel
theorem dL_law_211 : decode cL_law 211 = .ok (.iconst 0, 1) := by decide +kernel
theorem dL_law_212 : decode cL_law 212 = .ok (.ireturn, 1) := by decide +kernel
theorem dL_law_213 : decode cL_law 213 = .ok (.aload_n 1, 1) := by decide +kernel
theorem dL_law_214 : decode cL_law 214 = .ok (.invokevirtual 27, 3) := by decide +kernel
theorem dL_law_217 : decode cL_law 217 = .ok (.aload_n 2, 1) := by decide +kernel
theorem dL_law_218 : decode cL_law 218 = .ok (.invokevirtual 30, 3) := by decide +kernel
theorem dL_law_221 : decode cL_law 221 = .ok (.if_icmp .eq 799, 3) := by decide +kernel
theorem dL_law_224 : decode cL_law 224 = .ok (.iconst 0, 1) := by decide +kernel
theorem dL_law_225 : decode cL_law 225 = .ok (.ireturn, 1) := by decide +kernel
theorem dL_law_226 : decode cL_law 226 = .ok (.aload_n 1, 1) := by decide +kernel
theorem dL_law_227 : decode cL_law 227 = .ok (.aload_n 0, 1) := by decide +kernel
theorem dL_law_228 : decode cL_law 228 = .ok (.iload_n 3, 1) := by decide +kernel
theorem dL_law_229 : decode cL_law 229 = .ok (.iconst 1, 1) := by decide +kernel
theorem dL_law_230 : decode cL_law 230 = .ok (.iadd, 1) := by decide +kernel
theorem dL_law_231 : decode cL_law 231 = .ok (.iaload, 1) := by decide +kernel
theorem dL_law_232 : decode cL_law 232 = .ok (.invokevirtual 31, 3) := by decide +kernel
theorem dL_law_235 : decode cL_law 235 = .ok (.aload_n 2, 1) := by decide +kernel
theorem dL_law_236 : decode cL_law 236 = .ok (.aload_n 0, 1) := by decide +kernel
theorem dL_law_237 : decode cL_law 237 = .ok (.iload_n 3, 1) := by decide +kernel
theorem dL_law_238 : decode cL_law 238 = .ok (.iconst 1, 1) := by decide +kernel
theorem dL_law_239 : decode cL_law 239 = .ok (.iadd, 1) := by decide +kernel
theorem dL_law_240 : decode cL_law 240 = .ok (.iaload, 1) := by decide +kernel
theorem dL_law_241 : decode cL_law 241 = .ok (.invokevirtual 34, 3) := by decide +kernel
theorem dL_law_244 : decode cL_law 244 = .ok (.if_icmp .eq 776, 3) := by decide +kernel
theorem dL_law_247 : decode cL_law 247 = .ok (.iconst 0, 1) := by decide +kernel
theorem dL_law_248 : decode cL_law 248 = .ok (.ireturn, 1) := by decide +kernel
theorem dL_law_249 : decode cL_law 249 = .ok (.aload_n 1, 1) := by decide +kernel
theorem dL_law_250 : decode cL_law 250 = .ok (.aload_n 0, 1) := by decide +kernel
theorem dL_law_251 : decode cL_law 251 = .ok (.iload_n 3, 1) := by decide +kernel
theorem dL_law_252 : decode cL_law 252 = .ok (.iconst 1, 1) := by decide +kernel
theorem dL_law_253 : decode cL_law 253 = .ok (.iadd, 1) := by decide +kernel
theorem dL_law_254 : decode cL_law 254 = .ok (.iaload, 1) := by decide +kernel
theorem dL_law_255 : decode cL_law 255 = .ok (.invokevirtual 35, 3) := by decide +kernel
theorem dL_law_258 : decode cL_law 258 = .ok (.aload_n 2, 1) := by decide +kernel
theorem dL_law_259 : decode cL_law 259 = .ok (.aload_n 0, 1) := by decide +kernel
theorem dL_law_260 : decode cL_law 260 = .ok (.iload_n 3, 1) := by decide +kernel
theorem dL_law_261 : decode cL_law 261 = .ok (.iconst 1, 1) := by decide +kernel
theorem dL_law_262 : decode cL_law 262 = .ok (.iadd, 1) := by decide +kernel
theorem dL_law_263 : decode cL_law 263 = .ok (.iaload, 1) := by decide +kernel
theorem dL_law_264 : decode cL_law 264 = .ok (.invokevirtual 38, 3) := by decide +kernel
theorem dL_law_267 : decode cL_law 267 = .ok (.if_icmp .eq 753, 3) := by decide +kernel
theorem dL_law_270 : decode cL_law 270 = .ok (.iconst 0, 1) := by decide +kernel
theorem dL_law_271 : decode cL_law 271 = .ok (.ireturn, 1) := by decide +kernel
theorem dL_law_272 : decode cL_law 272 = .ok (.aload_n 1, 1) := by decide +kernel
theorem dL_law_273 : decode cL_law 273 = .ok (.aload_n 0, 1) := by decide +kernel
theorem dL_law_274 : decode cL_law 274 = .ok (.iload_n 3, 1) := by decide +kernel
theorem dL_law_275 : decode cL_law 275 = .ok (.iconst 1, 1) := by decide +kernel
theorem dL_law_276 : decode cL_law 276 = .ok (.iadd, 1) := by decide +kernel
theorem dL_law_277 : decode cL_law 277 = .ok (.iaload, 1) := by decide +kernel
theorem dL_law_278 : decode cL_law 278 = .ok (.aload_n 0, 1) := by decide +kernel
theorem dL_law_279 : decode cL_law 279 = .ok (.iload_n 3, 1) := by decide +kernel
theorem dL_law_280 : decode cL_law 280 = .ok (.iconst 2, 1) := by decide +kernel
theorem dL_law_281 : decode cL_law 281 = .ok (.iadd, 1) := by decide +kernel
theorem dL_law_282 : decode cL_law 282 = .ok (.iaload, 1) := by decide +kernel
theorem dL_law_283 : decode cL_law 283 = .ok (.aload_n 0, 1) := by decide +kernel
theorem dL_law_284 : decode cL_law 284 = .ok (.iload_n 3, 1) := by decide +kernel
theorem dL_law_285 : decode cL_law 285 = .ok (.iconst 3, 1) := by decide +kernel
theorem dL_law_286 : decode cL_law 286 = .ok (.iadd, 1) := by decide +kernel
theorem dL_law_287 : decode cL_law 287 = .ok (.iaload, 1) := by decide +kernel
theorem dL_law_288 : decode cL_law 288 = .ok (.ifCond .eq 7, 3) := by decide +kernel
theorem dL_law_291 : decode cL_law 291 = .ok (.iconst 1, 1) := by decide +kernel
theorem dL_law_292 : decode cL_law 292 = .ok (.goto 4, 3) := by decide +kernel
theorem dL_law_295 : decode cL_law 295 = .ok (.iconst 0, 1) := by decide +kernel
theorem dL_law_296 : decode cL_law 296 = .ok (.invokevirtual 39, 3) := by decide +kernel
theorem dL_law_299 : decode cL_law 299 = .ok (.aload_n 2, 1) := by decide +kernel
theorem dL_law_300 : decode cL_law 300 = .ok (.aload_n 0, 1) := by decide +kernel
theorem dL_law_301 : decode cL_law 301 = .ok (.iload_n 3, 1) := by decide +kernel
theorem dL_law_302 : decode cL_law 302 = .ok (.iconst 1, 1) := by decide +kernel
theorem dL_law_303 : decode cL_law 303 = .ok (.iadd, 1) := by decide +kernel
theorem dL_law_304 : decode cL_law 304 = .ok (.iaload, 1) := by decide +kernel
theorem dL_law_305 : decode cL_law 305 = .ok (.aload_n 0, 1) := by decide +kernel
theorem dL_law_306 : decode cL_law 306 = .ok (.iload_n 3, 1) := by decide +kernel
theorem dL_law_307 : decode cL_law 307 = .ok (.iconst 2, 1) := by decide +kernel
theorem dL_law_308 : decode cL_law 308 = .ok (.iadd, 1) := by decide +kernel
theorem dL_law_309 : decode cL_law 309 = .ok (.iaload, 1) := by decide +kernel
theorem dL_law_310 : decode cL_law 310 = .ok (.aload_n 0, 1) := by decide +kernel
theorem dL_law_311 : decode cL_law 311 = .ok (.iload_n 3, 1) := by decide +kernel
theorem dL_law_312 : decode cL_law 312 = .ok (.iconst 3, 1) := by decide +kernel
theorem dL_law_313 : decode cL_law 313 = .ok (.iadd, 1) := by decide +kernel
theorem dL_law_314 : decode cL_law 314 = .ok (.iaload, 1) := by decide +kernel
theorem dL_law_315 : decode cL_law 315 = .ok (.ifCond .eq 7, 3) := by decide +kernel
theorem dL_law_318 : decode cL_law 318 = .ok (.iconst 1, 1) := by decide +kernel
theorem dL_law_319 : decode cL_law 319 = .ok (.goto 4, 3) := by decide +kernel
theorem dL_law_322 : decode cL_law 322 = .ok (.iconst 0, 1) := by decide +kernel
theorem dL_law_323 : decode cL_law 323 = .ok (.invokevirtual 43, 3) := by decide +kernel
theorem dL_law_326 : decode cL_law 326 = .ok (.if_icmp .eq 694, 3) := by decide +kernel
theorem dL_law_329 : decode cL_law 329 = .ok (.iconst 0, 1) := by decide +kernel
theorem dL_law_330 : decode cL_law 330 = .ok (.ireturn, 1) := by decide +kernel
theorem dL_law_331 : decode cL_law 331 = .ok (.aload_n 1, 1) := by decide +kernel
theorem dL_law_332 : decode cL_law 332 = .ok (.aload_n 0, 1) := by decide +kernel
theorem dL_law_333 : decode cL_law 333 = .ok (.iload_n 3, 1) := by decide +kernel
theorem dL_law_334 : decode cL_law 334 = .ok (.iconst 1, 1) := by decide +kernel
theorem dL_law_335 : decode cL_law 335 = .ok (.iadd, 1) := by decide +kernel
theorem dL_law_336 : decode cL_law 336 = .ok (.iaload, 1) := by decide +kernel
theorem dL_law_337 : decode cL_law 337 = .ok (.aload_n 0, 1) := by decide +kernel
theorem dL_law_338 : decode cL_law 338 = .ok (.iload_n 3, 1) := by decide +kernel
theorem dL_law_339 : decode cL_law 339 = .ok (.iconst 2, 1) := by decide +kernel
theorem dL_law_340 : decode cL_law 340 = .ok (.iadd, 1) := by decide +kernel
theorem dL_law_341 : decode cL_law 341 = .ok (.iaload, 1) := by decide +kernel
theorem dL_law_342 : decode cL_law 342 = .ok (.invokevirtual 44, 3) := by decide +kernel
theorem dL_law_345 : decode cL_law 345 = .ok (.aload_n 2, 1) := by decide +kernel
theorem dL_law_346 : decode cL_law 346 = .ok (.aload_n 0, 1) := by decide +kernel
theorem dL_law_347 : decode cL_law 347 = .ok (.iload_n 3, 1) := by decide +kernel
theorem dL_law_348 : decode cL_law 348 = .ok (.iconst 1, 1) := by decide +kernel
theorem dL_law_349 : decode cL_law 349 = .ok (.iadd, 1) := by decide +kernel
theorem dL_law_350 : decode cL_law 350 = .ok (.iaload, 1) := by decide +kernel
theorem dL_law_351 : decode cL_law 351 = .ok (.aload_n 0, 1) := by decide +kernel
theorem dL_law_352 : decode cL_law 352 = .ok (.iload_n 3, 1) := by decide +kernel
theorem dL_law_353 : decode cL_law 353 = .ok (.iconst 2, 1) := by decide +kernel
theorem dL_law_354 : decode cL_law 354 = .ok (.iadd, 1) := by decide +kernel
theorem dL_law_355 : decode cL_law 355 = .ok (.iaload, 1) := by decide +kernel
theorem dL_law_356 : decode cL_law 356 = .ok (.invokevirtual 48, 3) := by decide +kernel
theorem dL_law_359 : decode cL_law 359 = .ok (.if_icmp .eq 661, 3) := by decide +kernel
theorem dL_law_362 : decode cL_law 362 = .ok (.iconst 0, 1) := by decide +kernel
theorem dL_law_363 : decode cL_law 363 = .ok (.ireturn, 1) := by decide +kernel
theorem dL_law_364 : decode cL_law 364 = .ok (.aload_n 1, 1) := by decide +kernel
theorem dL_law_365 : decode cL_law 365 = .ok (.aload_n 0, 1) := by decide +kernel
theorem dL_law_366 : decode cL_law 366 = .ok (.iload_n 3, 1) := by decide +kernel
theorem dL_law_367 : decode cL_law 367 = .ok (.iconst 1, 1) := by decide +kernel
theorem dL_law_368 : decode cL_law 368 = .ok (.iadd, 1) := by decide +kernel
theorem dL_law_369 : decode cL_law 369 = .ok (.iaload, 1) := by decide +kernel
theorem dL_law_370 : decode cL_law 370 = .ok (.aload_n 0, 1) := by decide +kernel
theorem dL_law_371 : decode cL_law 371 = .ok (.iload_n 3, 1) := by decide +kernel
theorem dL_law_372 : decode cL_law 372 = .ok (.iconst 2, 1) := by decide +kernel
theorem dL_law_373 : decode cL_law 373 = .ok (.iadd, 1) := by decide +kernel
theorem dL_law_374 : decode cL_law 374 = .ok (.iaload, 1) := by decide +kernel
theorem dL_law_375 : decode cL_law 375 = .ok (.invokevirtual 49, 3) := by decide +kernel
theorem dL_law_378 : decode cL_law 378 = .ok (.aload_n 2, 1) := by decide +kernel
theorem dL_law_379 : decode cL_law 379 = .ok (.aload_n 0, 1) := by decide +kernel
theorem dL_law_380 : decode cL_law 380 = .ok (.iload_n 3, 1) := by decide +kernel
theorem dL_law_381 : decode cL_law 381 = .ok (.iconst 1, 1) := by decide +kernel
theorem dL_law_382 : decode cL_law 382 = .ok (.iadd, 1) := by decide +kernel
theorem dL_law_383 : decode cL_law 383 = .ok (.iaload, 1) := by decide +kernel
theorem dL_law_384 : decode cL_law 384 = .ok (.aload_n 0, 1) := by decide +kernel
theorem dL_law_385 : decode cL_law 385 = .ok (.iload_n 3, 1) := by decide +kernel
theorem dL_law_386 : decode cL_law 386 = .ok (.iconst 2, 1) := by decide +kernel
theorem dL_law_387 : decode cL_law 387 = .ok (.iadd, 1) := by decide +kernel
theorem dL_law_388 : decode cL_law 388 = .ok (.iaload, 1) := by decide +kernel
theorem dL_law_389 : decode cL_law 389 = .ok (.invokevirtual 52, 3) := by decide +kernel
theorem dL_law_392 : decode cL_law 392 = .ok (.if_icmp .eq 628, 3) := by decide +kernel
theorem dL_law_395 : decode cL_law 395 = .ok (.iconst 0, 1) := by decide +kernel
theorem dL_law_396 : decode cL_law 396 = .ok (.ireturn, 1) := by decide +kernel
theorem dL_law_397 : decode cL_law 397 = .ok (.aload_n 1, 1) := by decide +kernel
theorem dL_law_398 : decode cL_law 398 = .ok (.aload_n 0, 1) := by decide +kernel
theorem dL_law_399 : decode cL_law 399 = .ok (.iload_n 3, 1) := by decide +kernel
theorem dL_law_400 : decode cL_law 400 = .ok (.iconst 1, 1) := by decide +kernel
theorem dL_law_401 : decode cL_law 401 = .ok (.iadd, 1) := by decide +kernel
theorem dL_law_402 : decode cL_law 402 = .ok (.iaload, 1) := by decide +kernel
theorem dL_law_403 : decode cL_law 403 = .ok (.invokevirtual 53, 3) := by decide +kernel
theorem dL_law_406 : decode cL_law 406 = .ok (.aload_n 2, 1) := by decide +kernel
theorem dL_law_407 : decode cL_law 407 = .ok (.aload_n 0, 1) := by decide +kernel
theorem dL_law_408 : decode cL_law 408 = .ok (.iload_n 3, 1) := by decide +kernel
theorem dL_law_409 : decode cL_law 409 = .ok (.iconst 1, 1) := by decide +kernel
theorem dL_law_410 : decode cL_law 410 = .ok (.iadd, 1) := by decide +kernel
theorem dL_law_411 : decode cL_law 411 = .ok (.iaload, 1) := by decide +kernel
theorem dL_law_412 : decode cL_law 412 = .ok (.invokevirtual 56, 3) := by decide +kernel
theorem dL_law_415 : decode cL_law 415 = .ok (.if_icmp .eq 605, 3) := by decide +kernel
theorem dL_law_418 : decode cL_law 418 = .ok (.iconst 0, 1) := by decide +kernel
theorem dL_law_419 : decode cL_law 419 = .ok (.ireturn, 1) := by decide +kernel
theorem dL_law_420 : decode cL_law 420 = .ok (.aload_n 1, 1) := by decide +kernel
theorem dL_law_421 : decode cL_law 421 = .ok (.aload_n 0, 1) := by decide +kernel
theorem dL_law_422 : decode cL_law 422 = .ok (.iload_n 3, 1) := by decide +kernel
theorem dL_law_423 : decode cL_law 423 = .ok (.iconst 1, 1) := by decide +kernel
theorem dL_law_424 : decode cL_law 424 = .ok (.iadd, 1) := by decide +kernel
theorem dL_law_425 : decode cL_law 425 = .ok (.iaload, 1) := by decide +kernel
theorem dL_law_426 : decode cL_law 426 = .ok (.invokevirtual 57, 3) := by decide +kernel
theorem dL_law_429 : decode cL_law 429 = .ok (.aload_n 2, 1) := by decide +kernel
theorem dL_law_430 : decode cL_law 430 = .ok (.aload_n 0, 1) := by decide +kernel
theorem dL_law_431 : decode cL_law 431 = .ok (.iload_n 3, 1) := by decide +kernel
theorem dL_law_432 : decode cL_law 432 = .ok (.iconst 1, 1) := by decide +kernel
theorem dL_law_433 : decode cL_law 433 = .ok (.iadd, 1) := by decide +kernel
theorem dL_law_434 : decode cL_law 434 = .ok (.iaload, 1) := by decide +kernel
theorem dL_law_435 : decode cL_law 435 = .ok (.invokevirtual 60, 3) := by decide +kernel
theorem dL_law_438 : decode cL_law 438 = .ok (.if_icmp .eq 582, 3) := by decide +kernel
theorem dL_law_441 : decode cL_law 441 = .ok (.iconst 0, 1) := by decide +kernel
theorem dL_law_442 : decode cL_law 442 = .ok (.ireturn, 1) := by decide +kernel
theorem dL_law_443 : decode cL_law 443 = .ok (.aload_n 1, 1) := by decide +kernel
theorem dL_law_444 : decode cL_law 444 = .ok (.invokevirtual 61, 3) := by decide +kernel
theorem dL_law_447 : decode cL_law 447 = .ok (.aload_n 2, 1) := by decide +kernel
theorem dL_law_448 : decode cL_law 448 = .ok (.invokevirtual 64, 3) := by decide +kernel
theorem dL_law_451 : decode cL_law 451 = .ok (.if_icmp .eq 569, 3) := by decide +kernel
theorem dL_law_454 : decode cL_law 454 = .ok (.iconst 0, 1) := by decide +kernel
theorem dL_law_455 : decode cL_law 455 = .ok (.ireturn, 1) := by decide +kernel
theorem dL_law_456 : decode cL_law 456 = .ok (.aload_n 1, 1) := by decide +kernel
theorem dL_law_457 : decode cL_law 457 = .ok (.aload_n 0, 1) := by decide +kernel
theorem dL_law_458 : decode cL_law 458 = .ok (.iload_n 3, 1) := by decide +kernel
theorem dL_law_459 : decode cL_law 459 = .ok (.iconst 1, 1) := by decide +kernel
theorem dL_law_460 : decode cL_law 460 = .ok (.iadd, 1) := by decide +kernel
theorem dL_law_461 : decode cL_law 461 = .ok (.iaload, 1) := by decide +kernel
theorem dL_law_462 : decode cL_law 462 = .ok (.invokevirtual 65, 3) := by decide +kernel
theorem dL_law_465 : decode cL_law 465 = .ok (.aload_n 2, 1) := by decide +kernel
theorem dL_law_466 : decode cL_law 466 = .ok (.aload_n 0, 1) := by decide +kernel
theorem dL_law_467 : decode cL_law 467 = .ok (.iload_n 3, 1) := by decide +kernel
theorem dL_law_468 : decode cL_law 468 = .ok (.iconst 1, 1) := by decide +kernel
theorem dL_law_469 : decode cL_law 469 = .ok (.iadd, 1) := by decide +kernel
theorem dL_law_470 : decode cL_law 470 = .ok (.iaload, 1) := by decide +kernel
theorem dL_law_471 : decode cL_law 471 = .ok (.invokevirtual 68, 3) := by decide +kernel
theorem dL_law_474 : decode cL_law 474 = .ok (.if_icmp .eq 546, 3) := by decide +kernel
theorem dL_law_477 : decode cL_law 477 = .ok (.iconst 0, 1) := by decide +kernel
theorem dL_law_478 : decode cL_law 478 = .ok (.ireturn, 1) := by decide +kernel
theorem dL_law_479 : decode cL_law 479 = .ok (.aload_n 1, 1) := by decide +kernel
theorem dL_law_480 : decode cL_law 480 = .ok (.aload_n 0, 1) := by decide +kernel
theorem dL_law_481 : decode cL_law 481 = .ok (.iload_n 3, 1) := by decide +kernel
theorem dL_law_482 : decode cL_law 482 = .ok (.iconst 1, 1) := by decide +kernel
theorem dL_law_483 : decode cL_law 483 = .ok (.iadd, 1) := by decide +kernel
theorem dL_law_484 : decode cL_law 484 = .ok (.iaload, 1) := by decide +kernel
theorem dL_law_485 : decode cL_law 485 = .ok (.aload_n 0, 1) := by decide +kernel
theorem dL_law_486 : decode cL_law 486 = .ok (.iload_n 3, 1) := by decide +kernel
theorem dL_law_487 : decode cL_law 487 = .ok (.iconst 2, 1) := by decide +kernel
theorem dL_law_488 : decode cL_law 488 = .ok (.iadd, 1) := by decide +kernel
theorem dL_law_489 : decode cL_law 489 = .ok (.iaload, 1) := by decide +kernel
theorem dL_law_490 : decode cL_law 490 = .ok (.invokevirtual 69, 3) := by decide +kernel
theorem dL_law_493 : decode cL_law 493 = .ok (.aload_n 2, 1) := by decide +kernel
theorem dL_law_494 : decode cL_law 494 = .ok (.aload_n 0, 1) := by decide +kernel
theorem dL_law_495 : decode cL_law 495 = .ok (.iload_n 3, 1) := by decide +kernel
theorem dL_law_496 : decode cL_law 496 = .ok (.iconst 1, 1) := by decide +kernel
theorem dL_law_497 : decode cL_law 497 = .ok (.iadd, 1) := by decide +kernel
theorem dL_law_498 : decode cL_law 498 = .ok (.iaload, 1) := by decide +kernel
theorem dL_law_499 : decode cL_law 499 = .ok (.aload_n 0, 1) := by decide +kernel
theorem dL_law_500 : decode cL_law 500 = .ok (.iload_n 3, 1) := by decide +kernel
theorem dL_law_501 : decode cL_law 501 = .ok (.iconst 2, 1) := by decide +kernel
theorem dL_law_502 : decode cL_law 502 = .ok (.iadd, 1) := by decide +kernel
theorem dL_law_503 : decode cL_law 503 = .ok (.iaload, 1) := by decide +kernel
theorem dL_law_504 : decode cL_law 504 = .ok (.invokevirtual 72, 3) := by decide +kernel
theorem dL_law_507 : decode cL_law 507 = .ok (.if_icmp .eq 513, 3) := by decide +kernel
theorem dL_law_510 : decode cL_law 510 = .ok (.iconst 0, 1) := by decide +kernel
theorem dL_law_511 : decode cL_law 511 = .ok (.ireturn, 1) := by decide +kernel
theorem dL_law_512 : decode cL_law 512 = .ok (.aload_n 1, 1) := by decide +kernel
theorem dL_law_513 : decode cL_law 513 = .ok (.aload_n 0, 1) := by decide +kernel
theorem dL_law_514 : decode cL_law 514 = .ok (.iload_n 3, 1) := by decide +kernel
theorem dL_law_515 : decode cL_law 515 = .ok (.iconst 1, 1) := by decide +kernel
theorem dL_law_516 : decode cL_law 516 = .ok (.iadd, 1) := by decide +kernel
theorem dL_law_517 : decode cL_law 517 = .ok (.iaload, 1) := by decide +kernel
theorem dL_law_518 : decode cL_law 518 = .ok (.aload_n 0, 1) := by decide +kernel
theorem dL_law_519 : decode cL_law 519 = .ok (.iload_n 3, 1) := by decide +kernel
theorem dL_law_520 : decode cL_law 520 = .ok (.iconst 2, 1) := by decide +kernel
theorem dL_law_521 : decode cL_law 521 = .ok (.iadd, 1) := by decide +kernel
theorem dL_law_522 : decode cL_law 522 = .ok (.iaload, 1) := by decide +kernel
theorem dL_law_523 : decode cL_law 523 = .ok (.invokevirtual 73, 3) := by decide +kernel
theorem dL_law_526 : decode cL_law 526 = .ok (.aload_n 2, 1) := by decide +kernel
theorem dL_law_527 : decode cL_law 527 = .ok (.aload_n 0, 1) := by decide +kernel
theorem dL_law_528 : decode cL_law 528 = .ok (.iload_n 3, 1) := by decide +kernel
theorem dL_law_529 : decode cL_law 529 = .ok (.iconst 1, 1) := by decide +kernel
theorem dL_law_530 : decode cL_law 530 = .ok (.iadd, 1) := by decide +kernel
theorem dL_law_531 : decode cL_law 531 = .ok (.iaload, 1) := by decide +kernel
theorem dL_law_532 : decode cL_law 532 = .ok (.aload_n 0, 1) := by decide +kernel
theorem dL_law_533 : decode cL_law 533 = .ok (.iload_n 3, 1) := by decide +kernel
theorem dL_law_534 : decode cL_law 534 = .ok (.iconst 2, 1) := by decide +kernel
theorem dL_law_535 : decode cL_law 535 = .ok (.iadd, 1) := by decide +kernel
theorem dL_law_536 : decode cL_law 536 = .ok (.iaload, 1) := by decide +kernel
theorem dL_law_537 : decode cL_law 537 = .ok (.invokevirtual 76, 3) := by decide +kernel
theorem dL_law_540 : decode cL_law 540 = .ok (.if_icmp .eq 480, 3) := by decide +kernel
theorem dL_law_543 : decode cL_law 543 = .ok (.iconst 0, 1) := by decide +kernel
theorem dL_law_544 : decode cL_law 544 = .ok (.ireturn, 1) := by decide +kernel
theorem dL_law_545 : decode cL_law 545 = .ok (.aload_n 1, 1) := by decide +kernel
theorem dL_law_546 : decode cL_law 546 = .ok (.aload_n 0, 1) := by decide +kernel
theorem dL_law_547 : decode cL_law 547 = .ok (.iload_n 3, 1) := by decide +kernel
theorem dL_law_548 : decode cL_law 548 = .ok (.iconst 1, 1) := by decide +kernel
theorem dL_law_549 : decode cL_law 549 = .ok (.iadd, 1) := by decide +kernel
theorem dL_law_550 : decode cL_law 550 = .ok (.iaload, 1) := by decide +kernel
theorem dL_law_551 : decode cL_law 551 = .ok (.invokevirtual 77, 3) := by decide +kernel
theorem dL_law_554 : decode cL_law 554 = .ok (.aload_n 2, 1) := by decide +kernel
theorem dL_law_555 : decode cL_law 555 = .ok (.aload_n 0, 1) := by decide +kernel
theorem dL_law_556 : decode cL_law 556 = .ok (.iload_n 3, 1) := by decide +kernel
theorem dL_law_557 : decode cL_law 557 = .ok (.iconst 1, 1) := by decide +kernel
theorem dL_law_558 : decode cL_law 558 = .ok (.iadd, 1) := by decide +kernel
theorem dL_law_559 : decode cL_law 559 = .ok (.iaload, 1) := by decide +kernel
theorem dL_law_560 : decode cL_law 560 = .ok (.invokevirtual 80, 3) := by decide +kernel
theorem dL_law_563 : decode cL_law 563 = .ok (.if_icmp .eq 457, 3) := by decide +kernel
theorem dL_law_566 : decode cL_law 566 = .ok (.iconst 0, 1) := by decide +kernel
theorem dL_law_567 : decode cL_law 567 = .ok (.ireturn, 1) := by decide +kernel
theorem dL_law_568 : decode cL_law 568 = .ok (.aload_n 1, 1) := by decide +kernel
theorem dL_law_569 : decode cL_law 569 = .ok (.aload_n 0, 1) := by decide +kernel
theorem dL_law_570 : decode cL_law 570 = .ok (.iload_n 3, 1) := by decide +kernel
theorem dL_law_571 : decode cL_law 571 = .ok (.iconst 1, 1) := by decide +kernel
theorem dL_law_572 : decode cL_law 572 = .ok (.iadd, 1) := by decide +kernel
theorem dL_law_573 : decode cL_law 573 = .ok (.iaload, 1) := by decide +kernel
theorem dL_law_574 : decode cL_law 574 = .ok (.invokevirtual 81, 3) := by decide +kernel
theorem dL_law_577 : decode cL_law 577 = .ok (.aload_n 2, 1) := by decide +kernel
theorem dL_law_578 : decode cL_law 578 = .ok (.aload_n 0, 1) := by decide +kernel
theorem dL_law_579 : decode cL_law 579 = .ok (.iload_n 3, 1) := by decide +kernel
theorem dL_law_580 : decode cL_law 580 = .ok (.iconst 1, 1) := by decide +kernel
theorem dL_law_581 : decode cL_law 581 = .ok (.iadd, 1) := by decide +kernel
theorem dL_law_582 : decode cL_law 582 = .ok (.iaload, 1) := by decide +kernel
theorem dL_law_583 : decode cL_law 583 = .ok (.invokevirtual 84, 3) := by decide +kernel
theorem dL_law_586 : decode cL_law 586 = .ok (.if_icmp .eq 434, 3) := by decide +kernel
theorem dL_law_589 : decode cL_law 589 = .ok (.iconst 0, 1) := by decide +kernel
theorem dL_law_590 : decode cL_law 590 = .ok (.ireturn, 1) := by decide +kernel
theorem dL_law_591 : decode cL_law 591 = .ok (.aload_n 1, 1) := by decide +kernel
theorem dL_law_592 : decode cL_law 592 = .ok (.aload_n 0, 1) := by decide +kernel
theorem dL_law_593 : decode cL_law 593 = .ok (.iload_n 3, 1) := by decide +kernel
theorem dL_law_594 : decode cL_law 594 = .ok (.iconst 1, 1) := by decide +kernel
theorem dL_law_595 : decode cL_law 595 = .ok (.iadd, 1) := by decide +kernel
theorem dL_law_596 : decode cL_law 596 = .ok (.iaload, 1) := by decide +kernel
theorem dL_law_597 : decode cL_law 597 = .ok (.invokevirtual 85, 3) := by decide +kernel
theorem dL_law_600 : decode cL_law 600 = .ok (.aload_n 2, 1) := by decide +kernel
theorem dL_law_601 : decode cL_law 601 = .ok (.aload_n 0, 1) := by decide +kernel
theorem dL_law_602 : decode cL_law 602 = .ok (.iload_n 3, 1) := by decide +kernel
theorem dL_law_603 : decode cL_law 603 = .ok (.iconst 1, 1) := by decide +kernel
theorem dL_law_604 : decode cL_law 604 = .ok (.iadd, 1) := by decide +kernel
theorem dL_law_605 : decode cL_law 605 = .ok (.iaload, 1) := by decide +kernel
theorem dL_law_606 : decode cL_law 606 = .ok (.invokevirtual 88, 3) := by decide +kernel
theorem dL_law_609 : decode cL_law 609 = .ok (.if_icmp .eq 411, 3) := by decide +kernel
theorem dL_law_612 : decode cL_law 612 = .ok (.iconst 0, 1) := by decide +kernel
theorem dL_law_613 : decode cL_law 613 = .ok (.ireturn, 1) := by decide +kernel
theorem dL_law_614 : decode cL_law 614 = .ok (.aload_n 1, 1) := by decide +kernel
theorem dL_law_615 : decode cL_law 615 = .ok (.aload_n 0, 1) := by decide +kernel
theorem dL_law_616 : decode cL_law 616 = .ok (.iload_n 3, 1) := by decide +kernel
theorem dL_law_617 : decode cL_law 617 = .ok (.iconst 1, 1) := by decide +kernel
theorem dL_law_618 : decode cL_law 618 = .ok (.iadd, 1) := by decide +kernel
theorem dL_law_619 : decode cL_law 619 = .ok (.iaload, 1) := by decide +kernel
theorem dL_law_620 : decode cL_law 620 = .ok (.aload_n 0, 1) := by decide +kernel
theorem dL_law_621 : decode cL_law 621 = .ok (.iload_n 3, 1) := by decide +kernel
theorem dL_law_622 : decode cL_law 622 = .ok (.iconst 2, 1) := by decide +kernel
theorem dL_law_623 : decode cL_law 623 = .ok (.iadd, 1) := by decide +kernel
theorem dL_law_624 : decode cL_law 624 = .ok (.iaload, 1) := by decide +kernel
theorem dL_law_625 : decode cL_law 625 = .ok (.i2l, 1) := by decide +kernel
theorem dL_law_626 : decode cL_law 626 = .ok (.bipush 32, 2) := by decide +kernel
theorem dL_law_628 : decode cL_law 628 = .ok (.lshl, 1) := by decide +kernel
theorem dL_law_629 : decode cL_law 629 = .ok (.aload_n 0, 1) := by decide +kernel
theorem dL_law_630 : decode cL_law 630 = .ok (.iload_n 3, 1) := by decide +kernel
theorem dL_law_631 : decode cL_law 631 = .ok (.iconst 3, 1) := by decide +kernel
theorem dL_law_632 : decode cL_law 632 = .ok (.iadd, 1) := by decide +kernel
theorem dL_law_633 : decode cL_law 633 = .ok (.iaload, 1) := by decide +kernel
theorem dL_law_634 : decode cL_law 634 = .ok (.i2l, 1) := by decide +kernel
theorem dL_law_635 : decode cL_law 635 = .ok (.ldc2_w 89, 3) := by decide +kernel
theorem dL_law_638 : decode cL_law 638 = .ok (.land, 1) := by decide +kernel
theorem dL_law_639 : decode cL_law 639 = .ok (.lor, 1) := by decide +kernel
theorem dL_law_640 : decode cL_law 640 = .ok (.invokevirtual 91, 3) := by decide +kernel
theorem dL_law_643 : decode cL_law 643 = .ok (.aload_n 2, 1) := by decide +kernel
theorem dL_law_644 : decode cL_law 644 = .ok (.aload_n 0, 1) := by decide +kernel
theorem dL_law_645 : decode cL_law 645 = .ok (.iload_n 3, 1) := by decide +kernel
theorem dL_law_646 : decode cL_law 646 = .ok (.iconst 1, 1) := by decide +kernel
theorem dL_law_647 : decode cL_law 647 = .ok (.iadd, 1) := by decide +kernel
theorem dL_law_648 : decode cL_law 648 = .ok (.iaload, 1) := by decide +kernel
theorem dL_law_649 : decode cL_law 649 = .ok (.aload_n 0, 1) := by decide +kernel
theorem dL_law_650 : decode cL_law 650 = .ok (.iload_n 3, 1) := by decide +kernel
theorem dL_law_651 : decode cL_law 651 = .ok (.iconst 2, 1) := by decide +kernel
theorem dL_law_652 : decode cL_law 652 = .ok (.iadd, 1) := by decide +kernel
theorem dL_law_653 : decode cL_law 653 = .ok (.iaload, 1) := by decide +kernel
theorem dL_law_654 : decode cL_law 654 = .ok (.i2l, 1) := by decide +kernel
theorem dL_law_655 : decode cL_law 655 = .ok (.bipush 32, 2) := by decide +kernel
theorem dL_law_657 : decode cL_law 657 = .ok (.lshl, 1) := by decide +kernel
theorem dL_law_658 : decode cL_law 658 = .ok (.aload_n 0, 1) := by decide +kernel
theorem dL_law_659 : decode cL_law 659 = .ok (.iload_n 3, 1) := by decide +kernel
theorem dL_law_660 : decode cL_law 660 = .ok (.iconst 3, 1) := by decide +kernel
theorem dL_law_661 : decode cL_law 661 = .ok (.iadd, 1) := by decide +kernel
theorem dL_law_662 : decode cL_law 662 = .ok (.iaload, 1) := by decide +kernel
theorem dL_law_663 : decode cL_law 663 = .ok (.i2l, 1) := by decide +kernel
theorem dL_law_664 : decode cL_law 664 = .ok (.ldc2_w 89, 3) := by decide +kernel
theorem dL_law_667 : decode cL_law 667 = .ok (.land, 1) := by decide +kernel
theorem dL_law_668 : decode cL_law 668 = .ok (.lor, 1) := by decide +kernel
theorem dL_law_669 : decode cL_law 669 = .ok (.invokevirtual 95, 3) := by decide +kernel
theorem dL_law_672 : decode cL_law 672 = .ok (.if_icmp .eq 348, 3) := by decide +kernel
theorem dL_law_675 : decode cL_law 675 = .ok (.iconst 0, 1) := by decide +kernel
theorem dL_law_676 : decode cL_law 676 = .ok (.ireturn, 1) := by decide +kernel
theorem dL_law_677 : decode cL_law 677 = .ok (.aload_n 1, 1) := by decide +kernel
theorem dL_law_678 : decode cL_law 678 = .ok (.aload_n 0, 1) := by decide +kernel
theorem dL_law_679 : decode cL_law 679 = .ok (.iload_n 3, 1) := by decide +kernel
theorem dL_law_680 : decode cL_law 680 = .ok (.iconst 1, 1) := by decide +kernel
theorem dL_law_681 : decode cL_law 681 = .ok (.iadd, 1) := by decide +kernel
theorem dL_law_682 : decode cL_law 682 = .ok (.iaload, 1) := by decide +kernel
theorem dL_law_683 : decode cL_law 683 = .ok (.aload_n 0, 1) := by decide +kernel
theorem dL_law_684 : decode cL_law 684 = .ok (.iload_n 3, 1) := by decide +kernel
theorem dL_law_685 : decode cL_law 685 = .ok (.iconst 2, 1) := by decide +kernel
theorem dL_law_686 : decode cL_law 686 = .ok (.iadd, 1) := by decide +kernel
theorem dL_law_687 : decode cL_law 687 = .ok (.iaload, 1) := by decide +kernel
theorem dL_law_688 : decode cL_law 688 = .ok (.ifCond .eq 7, 3) := by decide +kernel
theorem dL_law_691 : decode cL_law 691 = .ok (.iconst 1, 1) := by decide +kernel
theorem dL_law_692 : decode cL_law 692 = .ok (.goto 4, 3) := by decide +kernel
theorem dL_law_695 : decode cL_law 695 = .ok (.iconst 0, 1) := by decide +kernel
theorem dL_law_696 : decode cL_law 696 = .ok (.invokevirtual 96, 3) := by decide +kernel
theorem dL_law_699 : decode cL_law 699 = .ok (.aload_n 2, 1) := by decide +kernel
theorem dL_law_700 : decode cL_law 700 = .ok (.aload_n 0, 1) := by decide +kernel
theorem dL_law_701 : decode cL_law 701 = .ok (.iload_n 3, 1) := by decide +kernel
theorem dL_law_702 : decode cL_law 702 = .ok (.iconst 1, 1) := by decide +kernel
theorem dL_law_703 : decode cL_law 703 = .ok (.iadd, 1) := by decide +kernel
theorem dL_law_704 : decode cL_law 704 = .ok (.iaload, 1) := by decide +kernel
theorem dL_law_705 : decode cL_law 705 = .ok (.aload_n 0, 1) := by decide +kernel
theorem dL_law_706 : decode cL_law 706 = .ok (.iload_n 3, 1) := by decide +kernel
theorem dL_law_707 : decode cL_law 707 = .ok (.iconst 2, 1) := by decide +kernel
theorem dL_law_708 : decode cL_law 708 = .ok (.iadd, 1) := by decide +kernel
theorem dL_law_709 : decode cL_law 709 = .ok (.iaload, 1) := by decide +kernel
theorem dL_law_710 : decode cL_law 710 = .ok (.ifCond .eq 7, 3) := by decide +kernel
theorem dL_law_713 : decode cL_law 713 = .ok (.iconst 1, 1) := by decide +kernel
theorem dL_law_714 : decode cL_law 714 = .ok (.goto 4, 3) := by decide +kernel
theorem dL_law_717 : decode cL_law 717 = .ok (.iconst 0, 1) := by decide +kernel
theorem dL_law_718 : decode cL_law 718 = .ok (.invokevirtual 100, 3) := by decide +kernel
theorem dL_law_721 : decode cL_law 721 = .ok (.if_icmp .eq 299, 3) := by decide +kernel
theorem dL_law_724 : decode cL_law 724 = .ok (.iconst 0, 1) := by decide +kernel
theorem dL_law_725 : decode cL_law 725 = .ok (.ireturn, 1) := by decide +kernel
theorem dL_law_726 : decode cL_law 726 = .ok (.aload_n 1, 1) := by decide +kernel
theorem dL_law_727 : decode cL_law 727 = .ok (.aload_n 0, 1) := by decide +kernel
theorem dL_law_728 : decode cL_law 728 = .ok (.iload_n 3, 1) := by decide +kernel
theorem dL_law_729 : decode cL_law 729 = .ok (.iconst 1, 1) := by decide +kernel
theorem dL_law_730 : decode cL_law 730 = .ok (.iadd, 1) := by decide +kernel
theorem dL_law_731 : decode cL_law 731 = .ok (.iaload, 1) := by decide +kernel
theorem dL_law_732 : decode cL_law 732 = .ok (.aload_n 0, 1) := by decide +kernel
theorem dL_law_733 : decode cL_law 733 = .ok (.iload_n 3, 1) := by decide +kernel
theorem dL_law_734 : decode cL_law 734 = .ok (.iconst 2, 1) := by decide +kernel
theorem dL_law_735 : decode cL_law 735 = .ok (.iadd, 1) := by decide +kernel
theorem dL_law_736 : decode cL_law 736 = .ok (.iaload, 1) := by decide +kernel
theorem dL_law_737 : decode cL_law 737 = .ok (.aload_n 0, 1) := by decide +kernel
theorem dL_law_738 : decode cL_law 738 = .ok (.iload_n 3, 1) := by decide +kernel
theorem dL_law_739 : decode cL_law 739 = .ok (.iconst 3, 1) := by decide +kernel
theorem dL_law_740 : decode cL_law 740 = .ok (.iadd, 1) := by decide +kernel
theorem dL_law_741 : decode cL_law 741 = .ok (.iaload, 1) := by decide +kernel
theorem dL_law_742 : decode cL_law 742 = .ok (.invokevirtual 101, 3) := by decide +kernel
theorem dL_law_745 : decode cL_law 745 = .ok (.aload_n 2, 1) := by decide +kernel
theorem dL_law_746 : decode cL_law 746 = .ok (.aload_n 0, 1) := by decide +kernel
theorem dL_law_747 : decode cL_law 747 = .ok (.iload_n 3, 1) := by decide +kernel
theorem dL_law_748 : decode cL_law 748 = .ok (.iconst 1, 1) := by decide +kernel
theorem dL_law_749 : decode cL_law 749 = .ok (.iadd, 1) := by decide +kernel
theorem dL_law_750 : decode cL_law 750 = .ok (.iaload, 1) := by decide +kernel
theorem dL_law_751 : decode cL_law 751 = .ok (.aload_n 0, 1) := by decide +kernel
theorem dL_law_752 : decode cL_law 752 = .ok (.iload_n 3, 1) := by decide +kernel
theorem dL_law_753 : decode cL_law 753 = .ok (.iconst 2, 1) := by decide +kernel
theorem dL_law_754 : decode cL_law 754 = .ok (.iadd, 1) := by decide +kernel
theorem dL_law_755 : decode cL_law 755 = .ok (.iaload, 1) := by decide +kernel
theorem dL_law_756 : decode cL_law 756 = .ok (.aload_n 0, 1) := by decide +kernel
theorem dL_law_757 : decode cL_law 757 = .ok (.iload_n 3, 1) := by decide +kernel
theorem dL_law_758 : decode cL_law 758 = .ok (.iconst 3, 1) := by decide +kernel
theorem dL_law_759 : decode cL_law 759 = .ok (.iadd, 1) := by decide +kernel
theorem dL_law_760 : decode cL_law 760 = .ok (.iaload, 1) := by decide +kernel
theorem dL_law_761 : decode cL_law 761 = .ok (.invokevirtual 105, 3) := by decide +kernel
theorem dL_law_764 : decode cL_law 764 = .ok (.if_icmp .eq 256, 3) := by decide +kernel
theorem dL_law_767 : decode cL_law 767 = .ok (.iconst 0, 1) := by decide +kernel
theorem dL_law_768 : decode cL_law 768 = .ok (.ireturn, 1) := by decide +kernel
theorem dL_law_769 : decode cL_law 769 = .ok (.aload_n 1, 1) := by decide +kernel
theorem dL_law_770 : decode cL_law 770 = .ok (.invokevirtual 106, 3) := by decide +kernel
theorem dL_law_773 : decode cL_law 773 = .ok (.aload_n 2, 1) := by decide +kernel
theorem dL_law_774 : decode cL_law 774 = .ok (.invokevirtual 109, 3) := by decide +kernel
theorem dL_law_777 : decode cL_law 777 = .ok (.if_icmp .eq 243, 3) := by decide +kernel
theorem dL_law_780 : decode cL_law 780 = .ok (.iconst 0, 1) := by decide +kernel
theorem dL_law_781 : decode cL_law 781 = .ok (.ireturn, 1) := by decide +kernel
theorem dL_law_782 : decode cL_law 782 = .ok (.aload_n 1, 1) := by decide +kernel
theorem dL_law_783 : decode cL_law 783 = .ok (.invokevirtual 110, 3) := by decide +kernel
theorem dL_law_786 : decode cL_law 786 = .ok (.aload_n 2, 1) := by decide +kernel
theorem dL_law_787 : decode cL_law 787 = .ok (.invokevirtual 113, 3) := by decide +kernel
theorem dL_law_790 : decode cL_law 790 = .ok (.if_icmp .eq 230, 3) := by decide +kernel
theorem dL_law_793 : decode cL_law 793 = .ok (.iconst 0, 1) := by decide +kernel
theorem dL_law_794 : decode cL_law 794 = .ok (.ireturn, 1) := by decide +kernel
theorem dL_law_795 : decode cL_law 795 = .ok (.aload_n 1, 1) := by decide +kernel
theorem dL_law_796 : decode cL_law 796 = .ok (.aload_n 0, 1) := by decide +kernel
theorem dL_law_797 : decode cL_law 797 = .ok (.iload_n 3, 1) := by decide +kernel
theorem dL_law_798 : decode cL_law 798 = .ok (.iconst 1, 1) := by decide +kernel
theorem dL_law_799 : decode cL_law 799 = .ok (.iadd, 1) := by decide +kernel
theorem dL_law_800 : decode cL_law 800 = .ok (.iaload, 1) := by decide +kernel
theorem dL_law_801 : decode cL_law 801 = .ok (.aload_n 0, 1) := by decide +kernel
theorem dL_law_802 : decode cL_law 802 = .ok (.iload_n 3, 1) := by decide +kernel
theorem dL_law_803 : decode cL_law 803 = .ok (.iconst 2, 1) := by decide +kernel
theorem dL_law_804 : decode cL_law 804 = .ok (.iadd, 1) := by decide +kernel
theorem dL_law_805 : decode cL_law 805 = .ok (.iaload, 1) := by decide +kernel
theorem dL_law_806 : decode cL_law 806 = .ok (.aload_n 0, 1) := by decide +kernel
theorem dL_law_807 : decode cL_law 807 = .ok (.iload_n 3, 1) := by decide +kernel
theorem dL_law_808 : decode cL_law 808 = .ok (.iconst 3, 1) := by decide +kernel
theorem dL_law_809 : decode cL_law 809 = .ok (.iadd, 1) := by decide +kernel
theorem dL_law_810 : decode cL_law 810 = .ok (.iaload, 1) := by decide +kernel
theorem dL_law_811 : decode cL_law 811 = .ok (.invokevirtual 114, 3) := by decide +kernel
theorem dL_law_814 : decode cL_law 814 = .ok (.aload_n 2, 1) := by decide +kernel
theorem dL_law_815 : decode cL_law 815 = .ok (.aload_n 0, 1) := by decide +kernel
theorem dL_law_816 : decode cL_law 816 = .ok (.iload_n 3, 1) := by decide +kernel
theorem dL_law_817 : decode cL_law 817 = .ok (.iconst 1, 1) := by decide +kernel
theorem dL_law_818 : decode cL_law 818 = .ok (.iadd, 1) := by decide +kernel
theorem dL_law_819 : decode cL_law 819 = .ok (.iaload, 1) := by decide +kernel
theorem dL_law_820 : decode cL_law 820 = .ok (.aload_n 0, 1) := by decide +kernel
theorem dL_law_821 : decode cL_law 821 = .ok (.iload_n 3, 1) := by decide +kernel
theorem dL_law_822 : decode cL_law 822 = .ok (.iconst 2, 1) := by decide +kernel
theorem dL_law_823 : decode cL_law 823 = .ok (.iadd, 1) := by decide +kernel
theorem dL_law_824 : decode cL_law 824 = .ok (.iaload, 1) := by decide +kernel
theorem dL_law_825 : decode cL_law 825 = .ok (.aload_n 0, 1) := by decide +kernel
theorem dL_law_826 : decode cL_law 826 = .ok (.iload_n 3, 1) := by decide +kernel
theorem dL_law_827 : decode cL_law 827 = .ok (.iconst 3, 1) := by decide +kernel
theorem dL_law_828 : decode cL_law 828 = .ok (.iadd, 1) := by decide +kernel
theorem dL_law_829 : decode cL_law 829 = .ok (.iaload, 1) := by decide +kernel
theorem dL_law_830 : decode cL_law 830 = .ok (.invokevirtual 117, 3) := by decide +kernel
theorem dL_law_833 : decode cL_law 833 = .ok (.if_icmp .eq 187, 3) := by decide +kernel
theorem dL_law_836 : decode cL_law 836 = .ok (.iconst 0, 1) := by decide +kernel
theorem dL_law_837 : decode cL_law 837 = .ok (.ireturn, 1) := by decide +kernel
theorem dL_law_838 : decode cL_law 838 = .ok (.aload_n 1, 1) := by decide +kernel
theorem dL_law_839 : decode cL_law 839 = .ok (.aload_n 0, 1) := by decide +kernel
theorem dL_law_840 : decode cL_law 840 = .ok (.iload_n 3, 1) := by decide +kernel
theorem dL_law_841 : decode cL_law 841 = .ok (.iconst 1, 1) := by decide +kernel
theorem dL_law_842 : decode cL_law 842 = .ok (.iadd, 1) := by decide +kernel
theorem dL_law_843 : decode cL_law 843 = .ok (.iaload, 1) := by decide +kernel
theorem dL_law_844 : decode cL_law 844 = .ok (.aload_n 0, 1) := by decide +kernel
theorem dL_law_845 : decode cL_law 845 = .ok (.iload_n 3, 1) := by decide +kernel
theorem dL_law_846 : decode cL_law 846 = .ok (.iconst 2, 1) := by decide +kernel
theorem dL_law_847 : decode cL_law 847 = .ok (.iadd, 1) := by decide +kernel
theorem dL_law_848 : decode cL_law 848 = .ok (.iaload, 1) := by decide +kernel
theorem dL_law_849 : decode cL_law 849 = .ok (.aload_n 0, 1) := by decide +kernel
theorem dL_law_850 : decode cL_law 850 = .ok (.iload_n 3, 1) := by decide +kernel
theorem dL_law_851 : decode cL_law 851 = .ok (.iconst 3, 1) := by decide +kernel
theorem dL_law_852 : decode cL_law 852 = .ok (.iadd, 1) := by decide +kernel
theorem dL_law_853 : decode cL_law 853 = .ok (.iaload, 1) := by decide +kernel
theorem dL_law_854 : decode cL_law 854 = .ok (.ifCond .eq 7, 3) := by decide +kernel
theorem dL_law_857 : decode cL_law 857 = .ok (.iconst 1, 1) := by decide +kernel
theorem dL_law_858 : decode cL_law 858 = .ok (.goto 4, 3) := by decide +kernel
theorem dL_law_861 : decode cL_law 861 = .ok (.iconst 0, 1) := by decide +kernel
theorem dL_law_862 : decode cL_law 862 = .ok (.invokevirtual 118, 3) := by decide +kernel
theorem dL_law_865 : decode cL_law 865 = .ok (.aload_n 2, 1) := by decide +kernel
theorem dL_law_866 : decode cL_law 866 = .ok (.aload_n 0, 1) := by decide +kernel
theorem dL_law_867 : decode cL_law 867 = .ok (.iload_n 3, 1) := by decide +kernel
theorem dL_law_868 : decode cL_law 868 = .ok (.iconst 1, 1) := by decide +kernel
theorem dL_law_869 : decode cL_law 869 = .ok (.iadd, 1) := by decide +kernel
theorem dL_law_870 : decode cL_law 870 = .ok (.iaload, 1) := by decide +kernel
theorem dL_law_871 : decode cL_law 871 = .ok (.aload_n 0, 1) := by decide +kernel
theorem dL_law_872 : decode cL_law 872 = .ok (.iload_n 3, 1) := by decide +kernel
theorem dL_law_873 : decode cL_law 873 = .ok (.iconst 2, 1) := by decide +kernel
theorem dL_law_874 : decode cL_law 874 = .ok (.iadd, 1) := by decide +kernel
theorem dL_law_875 : decode cL_law 875 = .ok (.iaload, 1) := by decide +kernel
theorem dL_law_876 : decode cL_law 876 = .ok (.aload_n 0, 1) := by decide +kernel
theorem dL_law_877 : decode cL_law 877 = .ok (.iload_n 3, 1) := by decide +kernel
theorem dL_law_878 : decode cL_law 878 = .ok (.iconst 3, 1) := by decide +kernel
theorem dL_law_879 : decode cL_law 879 = .ok (.iadd, 1) := by decide +kernel
theorem dL_law_880 : decode cL_law 880 = .ok (.iaload, 1) := by decide +kernel
theorem dL_law_881 : decode cL_law 881 = .ok (.ifCond .eq 7, 3) := by decide +kernel
theorem dL_law_884 : decode cL_law 884 = .ok (.iconst 1, 1) := by decide +kernel
theorem dL_law_885 : decode cL_law 885 = .ok (.goto 4, 3) := by decide +kernel
theorem dL_law_888 : decode cL_law 888 = .ok (.iconst 0, 1) := by decide +kernel
theorem dL_law_889 : decode cL_law 889 = .ok (.invokevirtual 121, 3) := by decide +kernel
theorem dL_law_892 : decode cL_law 892 = .ok (.if_icmp .eq 128, 3) := by decide +kernel
theorem dL_law_895 : decode cL_law 895 = .ok (.iconst 0, 1) := by decide +kernel
theorem dL_law_896 : decode cL_law 896 = .ok (.ireturn, 1) := by decide +kernel
theorem dL_law_897 : decode cL_law 897 = .ok (.aload_n 1, 1) := by decide +kernel
theorem dL_law_898 : decode cL_law 898 = .ok (.aload_n 0, 1) := by decide +kernel
theorem dL_law_899 : decode cL_law 899 = .ok (.iload_n 3, 1) := by decide +kernel
theorem dL_law_900 : decode cL_law 900 = .ok (.iconst 1, 1) := by decide +kernel
theorem dL_law_901 : decode cL_law 901 = .ok (.iadd, 1) := by decide +kernel
theorem dL_law_902 : decode cL_law 902 = .ok (.iaload, 1) := by decide +kernel
theorem dL_law_903 : decode cL_law 903 = .ok (.i2l, 1) := by decide +kernel
theorem dL_law_904 : decode cL_law 904 = .ok (.bipush 32, 2) := by decide +kernel
theorem dL_law_906 : decode cL_law 906 = .ok (.lshl, 1) := by decide +kernel
theorem dL_law_907 : decode cL_law 907 = .ok (.aload_n 0, 1) := by decide +kernel
theorem dL_law_908 : decode cL_law 908 = .ok (.iload_n 3, 1) := by decide +kernel
theorem dL_law_909 : decode cL_law 909 = .ok (.iconst 2, 1) := by decide +kernel
theorem dL_law_910 : decode cL_law 910 = .ok (.iadd, 1) := by decide +kernel
theorem dL_law_911 : decode cL_law 911 = .ok (.iaload, 1) := by decide +kernel
theorem dL_law_912 : decode cL_law 912 = .ok (.i2l, 1) := by decide +kernel
theorem dL_law_913 : decode cL_law 913 = .ok (.ldc2_w 89, 3) := by decide +kernel
theorem dL_law_916 : decode cL_law 916 = .ok (.land, 1) := by decide +kernel
theorem dL_law_917 : decode cL_law 917 = .ok (.lor, 1) := by decide +kernel
theorem dL_law_918 : decode cL_law 918 = .ok (.invokevirtual 122, 3) := by decide +kernel
theorem dL_law_921 : decode cL_law 921 = .ok (.aload_n 2, 1) := by decide +kernel
theorem dL_law_922 : decode cL_law 922 = .ok (.aload_n 0, 1) := by decide +kernel
theorem dL_law_923 : decode cL_law 923 = .ok (.iload_n 3, 1) := by decide +kernel
theorem dL_law_924 : decode cL_law 924 = .ok (.iconst 1, 1) := by decide +kernel
theorem dL_law_925 : decode cL_law 925 = .ok (.iadd, 1) := by decide +kernel
theorem dL_law_926 : decode cL_law 926 = .ok (.iaload, 1) := by decide +kernel
theorem dL_law_927 : decode cL_law 927 = .ok (.i2l, 1) := by decide +kernel
theorem dL_law_928 : decode cL_law 928 = .ok (.bipush 32, 2) := by decide +kernel
theorem dL_law_930 : decode cL_law 930 = .ok (.lshl, 1) := by decide +kernel
theorem dL_law_931 : decode cL_law 931 = .ok (.aload_n 0, 1) := by decide +kernel
theorem dL_law_932 : decode cL_law 932 = .ok (.iload_n 3, 1) := by decide +kernel
theorem dL_law_933 : decode cL_law 933 = .ok (.iconst 2, 1) := by decide +kernel
theorem dL_law_934 : decode cL_law 934 = .ok (.iadd, 1) := by decide +kernel
theorem dL_law_935 : decode cL_law 935 = .ok (.iaload, 1) := by decide +kernel
theorem dL_law_936 : decode cL_law 936 = .ok (.i2l, 1) := by decide +kernel
theorem dL_law_937 : decode cL_law 937 = .ok (.ldc2_w 89, 3) := by decide +kernel
theorem dL_law_940 : decode cL_law 940 = .ok (.land, 1) := by decide +kernel
theorem dL_law_941 : decode cL_law 941 = .ok (.lor, 1) := by decide +kernel
theorem dL_law_942 : decode cL_law 942 = .ok (.invokevirtual 126, 3) := by decide +kernel
theorem dL_law_945 : decode cL_law 945 = .ok (.lcmp, 1) := by decide +kernel
theorem dL_law_946 : decode cL_law 946 = .ok (.ifCond .eq 74, 3) := by decide +kernel
theorem dL_law_949 : decode cL_law 949 = .ok (.iconst 0, 1) := by decide +kernel
theorem dL_law_950 : decode cL_law 950 = .ok (.ireturn, 1) := by decide +kernel
theorem dL_law_951 : decode cL_law 951 = .ok (.aload_n 1, 1) := by decide +kernel
theorem dL_law_952 : decode cL_law 952 = .ok (.aload_n 0, 1) := by decide +kernel
theorem dL_law_953 : decode cL_law 953 = .ok (.iload_n 3, 1) := by decide +kernel
theorem dL_law_954 : decode cL_law 954 = .ok (.iconst 1, 1) := by decide +kernel
theorem dL_law_955 : decode cL_law 955 = .ok (.iadd, 1) := by decide +kernel
theorem dL_law_956 : decode cL_law 956 = .ok (.iaload, 1) := by decide +kernel
theorem dL_law_957 : decode cL_law 957 = .ok (.invokevirtual 127, 3) := by decide +kernel
theorem dL_law_960 : decode cL_law 960 = .ok (.aload_n 2, 1) := by decide +kernel
theorem dL_law_961 : decode cL_law 961 = .ok (.aload_n 0, 1) := by decide +kernel
theorem dL_law_962 : decode cL_law 962 = .ok (.iload_n 3, 1) := by decide +kernel
theorem dL_law_963 : decode cL_law 963 = .ok (.iconst 1, 1) := by decide +kernel
theorem dL_law_964 : decode cL_law 964 = .ok (.iadd, 1) := by decide +kernel
theorem dL_law_965 : decode cL_law 965 = .ok (.iaload, 1) := by decide +kernel
theorem dL_law_966 : decode cL_law 966 = .ok (.invokevirtual 130, 3) := by decide +kernel
theorem dL_law_969 : decode cL_law 969 = .ok (.if_icmp .eq 51, 3) := by decide +kernel
theorem dL_law_972 : decode cL_law 972 = .ok (.iconst 0, 1) := by decide +kernel
theorem dL_law_973 : decode cL_law 973 = .ok (.ireturn, 1) := by decide +kernel
theorem dL_law_974 : decode cL_law 974 = .ok (.aload_n 1, 1) := by decide +kernel
theorem dL_law_975 : decode cL_law 975 = .ok (.aload_n 0, 1) := by decide +kernel
theorem dL_law_976 : decode cL_law 976 = .ok (.iload_n 3, 1) := by decide +kernel
theorem dL_law_977 : decode cL_law 977 = .ok (.iconst 1, 1) := by decide +kernel
theorem dL_law_978 : decode cL_law 978 = .ok (.iadd, 1) := by decide +kernel
theorem dL_law_979 : decode cL_law 979 = .ok (.iaload, 1) := by decide +kernel
theorem dL_law_980 : decode cL_law 980 = .ok (.invokevirtual 131, 3) := by decide +kernel
theorem dL_law_983 : decode cL_law 983 = .ok (.aload_n 2, 1) := by decide +kernel
theorem dL_law_984 : decode cL_law 984 = .ok (.aload_n 0, 1) := by decide +kernel
theorem dL_law_985 : decode cL_law 985 = .ok (.iload_n 3, 1) := by decide +kernel
theorem dL_law_986 : decode cL_law 986 = .ok (.iconst 1, 1) := by decide +kernel
theorem dL_law_987 : decode cL_law 987 = .ok (.iadd, 1) := by decide +kernel
theorem dL_law_988 : decode cL_law 988 = .ok (.iaload, 1) := by decide +kernel
theorem dL_law_989 : decode cL_law 989 = .ok (.invokevirtual 134, 3) := by decide +kernel
theorem dL_law_992 : decode cL_law 992 = .ok (.if_icmp .eq 28, 3) := by decide +kernel
theorem dL_law_995 : decode cL_law 995 = .ok (.iconst 0, 1) := by decide +kernel
theorem dL_law_996 : decode cL_law 996 = .ok (.ireturn, 1) := by decide +kernel
theorem dL_law_997 : decode cL_law 997 = .ok (.aload_n 1, 1) := by decide +kernel
theorem dL_law_998 : decode cL_law 998 = .ok (.aload_n 0, 1) := by decide +kernel
theorem dL_law_999 : decode cL_law 999 = .ok (.iload_n 3, 1) := by decide +kernel
theorem dL_law_1000 : decode cL_law 1000 = .ok (.iconst 1, 1) := by decide +kernel
theorem dL_law_1001 : decode cL_law 1001 = .ok (.iadd, 1) := by decide +kernel
theorem dL_law_1002 : decode cL_law 1002 = .ok (.iaload, 1) := by decide +kernel
theorem dL_law_1003 : decode cL_law 1003 = .ok (.invokevirtual 135, 3) := by decide +kernel
theorem dL_law_1006 : decode cL_law 1006 = .ok (.aload_n 2, 1) := by decide +kernel
theorem dL_law_1007 : decode cL_law 1007 = .ok (.aload_n 0, 1) := by decide +kernel
theorem dL_law_1008 : decode cL_law 1008 = .ok (.iload_n 3, 1) := by decide +kernel
theorem dL_law_1009 : decode cL_law 1009 = .ok (.iconst 1, 1) := by decide +kernel
theorem dL_law_1010 : decode cL_law 1010 = .ok (.iadd, 1) := by decide +kernel
theorem dL_law_1011 : decode cL_law 1011 = .ok (.iaload, 1) := by decide +kernel
theorem dL_law_1012 : decode cL_law 1012 = .ok (.invokevirtual 138, 3) := by decide +kernel
theorem dL_law_1015 : decode cL_law 1015 = .ok (.if_icmp .eq 5, 3) := by decide +kernel
theorem dL_law_1018 : decode cL_law 1018 = .ok (.iconst 0, 1) := by decide +kernel
theorem dL_law_1019 : decode cL_law 1019 = .ok (.ireturn, 1) := by decide +kernel
theorem dL_law_1020 : decode cL_law 1020 = .ok (.iinc 3 4, 3) := by decide +kernel
theorem dL_law_1023 : decode cL_law 1023 = .ok (.goto (-1005), 3) := by decide +kernel
theorem dL_law_1026 : decode cL_law 1026 = .ok (.iconst 1, 1) := by decide +kernel
theorem dL_law_1027 : decode cL_law 1027 = .ok (.ireturn, 1) := by decide +kernel
end
