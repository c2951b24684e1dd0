section
-- ===== PART A: goes FIRST, ahead of the names: the tables' words, and 'selects' of the private methods out of them =====
/-- a private method of a class that the tables say can be made, by its rows of tables_1 -/
def lw_okq (q : MethodName × Nat) : Prop := (q.1.cls ≠ "java/lang/invoke/MethodHandle" ∧ q.1.cls ≠ "java/lang/invoke/VarHandle") ∧ Cond.instantiable q.1.cls q.2 ∈ tables_1 ∧ Cond.privateMethod q.1 ∈ tables_1 ∧ Cond.instanceMethod q.1 ∈ tables_1
theorem lw_p0 : lw_okq (⟨"PaperTrellis", "stepsRound", "(II)I"⟩, 13) := ⟨⟨by decide +kernel, by decide +kernel⟩, List.mem_of_getElem? (i := 15) (by decide +kernel), List.mem_of_getElem? (i := 522) (by decide +kernel), List.mem_of_getElem? (i := 523) (by decide +kernel)⟩
theorem lw_p1 : lw_okq (⟨"PaperTrellis", "looksLike", "(II)Z"⟩, 13) := ⟨⟨by decide +kernel, by decide +kernel⟩, List.mem_of_getElem? (i := 15) (by decide +kernel), List.mem_of_getElem? (i := 532) (by decide +kernel), List.mem_of_getElem? (i := 533) (by decide +kernel)⟩
theorem lw_p2 : lw_okq (⟨"PaperTrellis", "unlikeRows", "(I)I"⟩, 13) := ⟨⟨by decide +kernel, by decide +kernel⟩, List.mem_of_getElem? (i := 15) (by decide +kernel), List.mem_of_getElem? (i := 562) (by decide +kernel), List.mem_of_getElem? (i := 563) (by decide +kernel)⟩
theorem lw_p3 : lw_okq (⟨"PaperTrellis", "holds", "(III)Z"⟩, 13) := ⟨⟨by decide +kernel, by decide +kernel⟩, List.mem_of_getElem? (i := 15) (by decide +kernel), List.mem_of_getElem? (i := 575) (by decide +kernel), List.mem_of_getElem? (i := 576) (by decide +kernel)⟩
theorem lw_p4 : lw_okq (⟨"PaperTrellis", "countOfRests", "()I"⟩, 13) := ⟨⟨by decide +kernel, by decide +kernel⟩, List.mem_of_getElem? (i := 15) (by decide +kernel), List.mem_of_getElem? (i := 637) (by decide +kernel), List.mem_of_getElem? (i := 638) (by decide +kernel)⟩
theorem lw_p5 : lw_okq (⟨"PaperTrellis", "isRest", "(II)Z"⟩, 13) := ⟨⟨by decide +kernel, by decide +kernel⟩, List.mem_of_getElem? (i := 15) (by decide +kernel), List.mem_of_getElem? (i := 641) (by decide +kernel), List.mem_of_getElem? (i := 642) (by decide +kernel)⟩
theorem lw_p6 : lw_okq (⟨"PaperTrellis", "firstRest", "()I"⟩, 13) := ⟨⟨by decide +kernel, by decide +kernel⟩, List.mem_of_getElem? (i := 15) (by decide +kernel), List.mem_of_getElem? (i := 649) (by decide +kernel), List.mem_of_getElem? (i := 650) (by decide +kernel)⟩
theorem lw_p7 : lw_okq (⟨"PaperTrellis", "happens", "(I)V"⟩, 13) := ⟨⟨by decide +kernel, by decide +kernel⟩, List.mem_of_getElem? (i := 15) (by decide +kernel), List.mem_of_getElem? (i := 674) (by decide +kernel), List.mem_of_getElem? (i := 675) (by decide +kernel)⟩
theorem lw_p8 : lw_okq (⟨"PaperTrellisModel", "readPaper", "()I"⟩, 36) := ⟨⟨by decide +kernel, by decide +kernel⟩, List.mem_of_getElem? (i := 692) (by decide +kernel), List.mem_of_getElem? (i := 823) (by decide +kernel), List.mem_of_getElem? (i := 824) (by decide +kernel)⟩
theorem lw_p9 : lw_okq (⟨"PaperTrellisModel", "readPattern", "()Z"⟩, 36) := ⟨⟨by decide +kernel, by decide +kernel⟩, List.mem_of_getElem? (i := 692) (by decide +kernel), List.mem_of_getElem? (i := 827) (by decide +kernel), List.mem_of_getElem? (i := 828) (by decide +kernel)⟩
theorem lw_p10 : lw_okq (⟨"PaperTrellisModel", "from", "(III)I"⟩, 36) := ⟨⟨by decide +kernel, by decide +kernel⟩, List.mem_of_getElem? (i := 692) (by decide +kernel), List.mem_of_getElem? (i := 831) (by decide +kernel), List.mem_of_getElem? (i := 832) (by decide +kernel)⟩
theorem lw_p11 : lw_okq (⟨"PaperTrellisModel", "readKind", "()I"⟩, 36) := ⟨⟨by decide +kernel, by decide +kernel⟩, List.mem_of_getElem? (i := 692) (by decide +kernel), List.mem_of_getElem? (i := 835) (by decide +kernel), List.mem_of_getElem? (i := 836) (by decide +kernel)⟩
theorem lw_p12 : lw_okq (⟨"PaperTrellisModel", "readOneBoy", "()Z"⟩, 36) := ⟨⟨by decide +kernel, by decide +kernel⟩, List.mem_of_getElem? (i := 692) (by decide +kernel), List.mem_of_getElem? (i := 839) (by decide +kernel), List.mem_of_getElem? (i := 840) (by decide +kernel)⟩
theorem lw_p13 : lw_okq (⟨"PaperTrellisModel", "hasRoom", "()Z"⟩, 36) := ⟨⟨by decide +kernel, by decide +kernel⟩, List.mem_of_getElem? (i := 692) (by decide +kernel), List.mem_of_getElem? (i := 843) (by decide +kernel), List.mem_of_getElem? (i := 844) (by decide +kernel)⟩
theorem lw_p14 : lw_okq (⟨"PaperTrellisModel", "cellsOf", "(I)I"⟩, 36) := ⟨⟨by decide +kernel, by decide +kernel⟩, List.mem_of_getElem? (i := 692) (by decide +kernel), List.mem_of_getElem? (i := 855) (by decide +kernel), List.mem_of_getElem? (i := 856) (by decide +kernel)⟩
theorem lw_p15 : lw_okq (⟨"PaperTrellisModel", "kindOf", "([II)I"⟩, 36) := ⟨⟨by decide +kernel, by decide +kernel⟩, List.mem_of_getElem? (i := 692) (by decide +kernel), List.mem_of_getElem? (i := 859) (by decide +kernel), List.mem_of_getElem? (i := 860) (by decide +kernel)⟩
def lw_privs_1 : List (MethodName × Nat) := [(⟨"PaperTrellis", "stepsRound", "(II)I"⟩, 13), (⟨"PaperTrellis", "looksLike", "(II)Z"⟩, 13), (⟨"PaperTrellis", "unlikeRows", "(I)I"⟩, 13), (⟨"PaperTrellis", "holds", "(III)Z"⟩, 13), (⟨"PaperTrellis", "countOfRests", "()I"⟩, 13), (⟨"PaperTrellis", "isRest", "(II)Z"⟩, 13), (⟨"PaperTrellis", "firstRest", "()I"⟩, 13), (⟨"PaperTrellis", "happens", "(I)V"⟩, 13), (⟨"PaperTrellisModel", "readPaper", "()I"⟩, 36), (⟨"PaperTrellisModel", "readPattern", "()Z"⟩, 36), (⟨"PaperTrellisModel", "from", "(III)I"⟩, 36), (⟨"PaperTrellisModel", "readKind", "()I"⟩, 36), (⟨"PaperTrellisModel", "readOneBoy", "()Z"⟩, 36), (⟨"PaperTrellisModel", "hasRoom", "()Z"⟩, 36), (⟨"PaperTrellisModel", "cellsOf", "(I)I"⟩, 36), (⟨"PaperTrellisModel", "kindOf", "([II)I"⟩, 36)]
theorem lw_r1 : ∀ q ∈ lw_privs_1, lw_okq q := List.forall_mem_cons.mpr ⟨lw_p0, List.forall_mem_cons.mpr ⟨lw_p1, List.forall_mem_cons.mpr ⟨lw_p2, List.forall_mem_cons.mpr ⟨lw_p3, List.forall_mem_cons.mpr ⟨lw_p4, List.forall_mem_cons.mpr ⟨lw_p5, List.forall_mem_cons.mpr ⟨lw_p6, List.forall_mem_cons.mpr ⟨lw_p7, List.forall_mem_cons.mpr ⟨lw_p8, List.forall_mem_cons.mpr ⟨lw_p9, List.forall_mem_cons.mpr ⟨lw_p10, List.forall_mem_cons.mpr ⟨lw_p11, List.forall_mem_cons.mpr ⟨lw_p12, List.forall_mem_cons.mpr ⟨lw_p13, List.forall_mem_cons.mpr ⟨lw_p14, List.forall_mem_cons.mpr ⟨lw_p15, fun _ h => absurd h List.not_mem_nil⟩⟩⟩⟩⟩⟩⟩⟩⟩⟩⟩⟩⟩⟩⟩⟩
theorem lw_p16 : lw_okq (⟨"PaperTrellisModel", "homes", "([I)I"⟩, 36) := ⟨⟨by decide +kernel, by decide +kernel⟩, List.mem_of_getElem? (i := 692) (by decide +kernel), List.mem_of_getElem? (i := 866) (by decide +kernel), List.mem_of_getElem? (i := 867) (by decide +kernel)⟩
theorem lw_p17 : lw_okq (⟨"PaperTrellisModel", "isHome", "([II)Z"⟩, 36) := ⟨⟨by decide +kernel, by decide +kernel⟩, List.mem_of_getElem? (i := 692) (by decide +kernel), List.mem_of_getElem? (i := 870) (by decide +kernel), List.mem_of_getElem? (i := 871) (by decide +kernel)⟩
theorem lw_p18 : lw_okq (⟨"PaperTrellisModel", "noCell", "(I)Z"⟩, 36) := ⟨⟨by decide +kernel, by decide +kernel⟩, List.mem_of_getElem? (i := 692) (by decide +kernel), List.mem_of_getElem? (i := 878) (by decide +kernel), List.mem_of_getElem? (i := 879) (by decide +kernel)⟩
theorem lw_p19 : lw_okq (⟨"PaperTrellisModel", "cellBeside", "(IIZ)I"⟩, 36) := ⟨⟨by decide +kernel, by decide +kernel⟩, List.mem_of_getElem? (i := 692) (by decide +kernel), List.mem_of_getElem? (i := 890) (by decide +kernel), List.mem_of_getElem? (i := 891) (by decide +kernel)⟩
theorem lw_p20 : lw_okq (⟨"PaperTrellisModel", "goWay", "(IZ)V"⟩, 36) := ⟨⟨by decide +kernel, by decide +kernel⟩, List.mem_of_getElem? (i := 692) (by decide +kernel), List.mem_of_getElem? (i := 894) (by decide +kernel), List.mem_of_getElem? (i := 895) (by decide +kernel)⟩
theorem lw_p21 : lw_okq (⟨"PaperTrellisModel", "noBoy", "(I)Z"⟩, 36) := ⟨⟨by decide +kernel, by decide +kernel⟩, List.mem_of_getElem? (i := 692) (by decide +kernel), List.mem_of_getElem? (i := 902) (by decide +kernel), List.mem_of_getElem? (i := 903) (by decide +kernel)⟩
theorem lw_p22 : lw_okq (⟨"PaperTrellisModel", "waysOf", "(I)I"⟩, 36) := ⟨⟨by decide +kernel, by decide +kernel⟩, List.mem_of_getElem? (i := 692) (by decide +kernel), List.mem_of_getElem? (i := 906) (by decide +kernel), List.mem_of_getElem? (i := 907) (by decide +kernel)⟩
theorem lw_p23 : lw_okq (⟨"PaperTrellisModel", "canGo", "([III)Z"⟩, 36) := ⟨⟨by decide +kernel, by decide +kernel⟩, List.mem_of_getElem? (i := 692) (by decide +kernel), List.mem_of_getElem? (i := 910) (by decide +kernel), List.mem_of_getElem? (i := 911) (by decide +kernel)⟩
theorem lw_p24 : lw_okq (⟨"PaperTrellisModel", "stand", "([II)V"⟩, 36) := ⟨⟨by decide +kernel, by decide +kernel⟩, List.mem_of_getElem? (i := 692) (by decide +kernel), List.mem_of_getElem? (i := 914) (by decide +kernel), List.mem_of_getElem? (i := 915) (by decide +kernel)⟩
theorem lw_p25 : lw_okq (⟨"PaperTrellisModel", "isThere", "()Z"⟩, 36) := ⟨⟨by decide +kernel, by decide +kernel⟩, List.mem_of_getElem? (i := 692) (by decide +kernel), List.mem_of_getElem? (i := 918) (by decide +kernel), List.mem_of_getElem? (i := 919) (by decide +kernel)⟩
theorem lw_p26 : lw_okq (⟨"PaperTrellisModel", "canBe", "([III)Z"⟩, 36) := ⟨⟨by decide +kernel, by decide +kernel⟩, List.mem_of_getElem? (i := 692) (by decide +kernel), List.mem_of_getElem? (i := 923) (by decide +kernel), List.mem_of_getElem? (i := 924) (by decide +kernel)⟩
theorem lw_p27 : lw_okq (⟨"PaperTrellisModel", "note", "()V"⟩, 36) := ⟨⟨by decide +kernel, by decide +kernel⟩, List.mem_of_getElem? (i := 692) (by decide +kernel), List.mem_of_getElem? (i := 931) (by decide +kernel), List.mem_of_getElem? (i := 932) (by decide +kernel)⟩
theorem lw_p28 : lw_okq (⟨"PaperTrellisModel", "goStep", "([III)Z"⟩, 36) := ⟨⟨by decide +kernel, by decide +kernel⟩, List.mem_of_getElem? (i := 692) (by decide +kernel), List.mem_of_getElem? (i := 935) (by decide +kernel), List.mem_of_getElem? (i := 936) (by decide +kernel)⟩
theorem lw_p29 : lw_okq (⟨"PaperTrellisModel", "away", "([I)I"⟩, 36) := ⟨⟨by decide +kernel, by decide +kernel⟩, List.mem_of_getElem? (i := 692) (by decide +kernel), List.mem_of_getElem? (i := 943) (by decide +kernel), List.mem_of_getElem? (i := 944) (by decide +kernel)⟩
theorem lw_p30 : lw_okq (⟨"PaperTrellisModel", "goCall", "([II)V"⟩, 36) := ⟨⟨by decide +kernel, by decide +kernel⟩, List.mem_of_getElem? (i := 692) (by decide +kernel), List.mem_of_getElem? (i := 950) (by decide +kernel), List.mem_of_getElem? (i := 951) (by decide +kernel)⟩
theorem lw_p31 : lw_okq (⟨"PaperTrellisModel", "hears", "([III)Z"⟩, 36) := ⟨⟨by decide +kernel, by decide +kernel⟩, List.mem_of_getElem? (i := 692) (by decide +kernel), List.mem_of_getElem? (i := 954) (by decide +kernel), List.mem_of_getElem? (i := 955) (by decide +kernel)⟩
def lw_privs_2 : List (MethodName × Nat) := [(⟨"PaperTrellisModel", "homes", "([I)I"⟩, 36), (⟨"PaperTrellisModel", "isHome", "([II)Z"⟩, 36), (⟨"PaperTrellisModel", "noCell", "(I)Z"⟩, 36), (⟨"PaperTrellisModel", "cellBeside", "(IIZ)I"⟩, 36), (⟨"PaperTrellisModel", "goWay", "(IZ)V"⟩, 36), (⟨"PaperTrellisModel", "noBoy", "(I)Z"⟩, 36), (⟨"PaperTrellisModel", "waysOf", "(I)I"⟩, 36), (⟨"PaperTrellisModel", "canGo", "([III)Z"⟩, 36), (⟨"PaperTrellisModel", "stand", "([II)V"⟩, 36), (⟨"PaperTrellisModel", "isThere", "()Z"⟩, 36), (⟨"PaperTrellisModel", "canBe", "([III)Z"⟩, 36), (⟨"PaperTrellisModel", "note", "()V"⟩, 36), (⟨"PaperTrellisModel", "goStep", "([III)Z"⟩, 36), (⟨"PaperTrellisModel", "away", "([I)I"⟩, 36), (⟨"PaperTrellisModel", "goCall", "([II)V"⟩, 36), (⟨"PaperTrellisModel", "hears", "([III)Z"⟩, 36)]
theorem lw_r2 : ∀ q ∈ lw_privs_2, lw_okq q := List.forall_mem_cons.mpr ⟨lw_p16, List.forall_mem_cons.mpr ⟨lw_p17, List.forall_mem_cons.mpr ⟨lw_p18, List.forall_mem_cons.mpr ⟨lw_p19, List.forall_mem_cons.mpr ⟨lw_p20, List.forall_mem_cons.mpr ⟨lw_p21, List.forall_mem_cons.mpr ⟨lw_p22, List.forall_mem_cons.mpr ⟨lw_p23, List.forall_mem_cons.mpr ⟨lw_p24, List.forall_mem_cons.mpr ⟨lw_p25, List.forall_mem_cons.mpr ⟨lw_p26, List.forall_mem_cons.mpr ⟨lw_p27, List.forall_mem_cons.mpr ⟨lw_p28, List.forall_mem_cons.mpr ⟨lw_p29, List.forall_mem_cons.mpr ⟨lw_p30, List.forall_mem_cons.mpr ⟨lw_p31, fun _ h => absurd h List.not_mem_nil⟩⟩⟩⟩⟩⟩⟩⟩⟩⟩⟩⟩⟩⟩⟩⟩
theorem lw_p32 : lw_okq (⟨"PaperTrellisModel", "layFar", "(I)V"⟩, 36) := ⟨⟨by decide +kernel, by decide +kernel⟩, List.mem_of_getElem? (i := 692) (by decide +kernel), List.mem_of_getElem? (i := 970) (by decide +kernel), List.mem_of_getElem? (i := 971) (by decide +kernel)⟩
theorem lw_p33 : lw_okq (⟨"PaperTrellisModel", "spotNumber", "()I"⟩, 36) := ⟨⟨by decide +kernel, by decide +kernel⟩, List.mem_of_getElem? (i := 692) (by decide +kernel), List.mem_of_getElem? (i := 974) (by decide +kernel), List.mem_of_getElem? (i := 975) (by decide +kernel)⟩
theorem lw_p34 : lw_okq (⟨"PaperTrellisModel", "reachOf", "(II)I"⟩, 36) := ⟨⟨by decide +kernel, by decide +kernel⟩, List.mem_of_getElem? (i := 692) (by decide +kernel), List.mem_of_getElem? (i := 983) (by decide +kernel), List.mem_of_getElem? (i := 984) (by decide +kernel)⟩
theorem lw_p35 : lw_okq (⟨"PaperTrellisModel", "areAlike", "(II)Z"⟩, 36) := ⟨⟨by decide +kernel, by decide +kernel⟩, List.mem_of_getElem? (i := 692) (by decide +kernel), List.mem_of_getElem? (i := 995) (by decide +kernel), List.mem_of_getElem? (i := 996) (by decide +kernel)⟩
theorem lw_p36 : lw_okq (⟨"PaperTrellisModel", "fewest", "()I"⟩, 36) := ⟨⟨by decide +kernel, by decide +kernel⟩, List.mem_of_getElem? (i := 692) (by decide +kernel), List.mem_of_getElem? (i := 1003) (by decide +kernel), List.mem_of_getElem? (i := 1004) (by decide +kernel)⟩
theorem lw_p37 : lw_okq (⟨"PaperTrellisModel", "unlikeBy", "(I)I"⟩, 36) := ⟨⟨by decide +kernel, by decide +kernel⟩, List.mem_of_getElem? (i := 692) (by decide +kernel), List.mem_of_getElem? (i := 1014) (by decide +kernel), List.mem_of_getElem? (i := 1015) (by decide +kernel)⟩
theorem lw_p38 : lw_okq (⟨"PaperTrellisModel", "begin", "()V"⟩, 36) := ⟨⟨by decide +kernel, by decide +kernel⟩, List.mem_of_getElem? (i := 692) (by decide +kernel), List.mem_of_getElem? (i := 1027) (by decide +kernel), List.mem_of_getElem? (i := 1028) (by decide +kernel)⟩
theorem lw_p39 : lw_okq (⟨"PaperTrellisModel", "does", "(I)Z"⟩, 36) := ⟨⟨by decide +kernel, by decide +kernel⟩, List.mem_of_getElem? (i := 692) (by decide +kernel), List.mem_of_getElem? (i := 1031) (by decide +kernel), List.mem_of_getElem? (i := 1032) (by decide +kernel)⟩
theorem lw_p40 : lw_okq (⟨"PaperTrellisModel", "cellFrom", "(III)I"⟩, 36) := ⟨⟨by decide +kernel, by decide +kernel⟩, List.mem_of_getElem? (i := 692) (by decide +kernel), List.mem_of_getElem? (i := 1061) (by decide +kernel), List.mem_of_getElem? (i := 1062) (by decide +kernel)⟩
theorem lw_p41 : lw_okq (⟨"PaperTrellisModel", "layGains", "(III)V"⟩, 36) := ⟨⟨by decide +kernel, by decide +kernel⟩, List.mem_of_getElem? (i := 692) (by decide +kernel), List.mem_of_getElem? (i := 1069) (by decide +kernel), List.mem_of_getElem? (i := 1070) (by decide +kernel)⟩
def lw_privs_3 : List (MethodName × Nat) := [(⟨"PaperTrellisModel", "layFar", "(I)V"⟩, 36), (⟨"PaperTrellisModel", "spotNumber", "()I"⟩, 36), (⟨"PaperTrellisModel", "reachOf", "(II)I"⟩, 36), (⟨"PaperTrellisModel", "areAlike", "(II)Z"⟩, 36), (⟨"PaperTrellisModel", "fewest", "()I"⟩, 36), (⟨"PaperTrellisModel", "unlikeBy", "(I)I"⟩, 36), (⟨"PaperTrellisModel", "begin", "()V"⟩, 36), (⟨"PaperTrellisModel", "does", "(I)Z"⟩, 36), (⟨"PaperTrellisModel", "cellFrom", "(III)I"⟩, 36), (⟨"PaperTrellisModel", "layGains", "(III)V"⟩, 36)]
theorem lw_r3 : ∀ q ∈ lw_privs_3, lw_okq q := List.forall_mem_cons.mpr ⟨lw_p32, List.forall_mem_cons.mpr ⟨lw_p33, List.forall_mem_cons.mpr ⟨lw_p34, List.forall_mem_cons.mpr ⟨lw_p35, List.forall_mem_cons.mpr ⟨lw_p36, List.forall_mem_cons.mpr ⟨lw_p37, List.forall_mem_cons.mpr ⟨lw_p38, List.forall_mem_cons.mpr ⟨lw_p39, List.forall_mem_cons.mpr ⟨lw_p40, List.forall_mem_cons.mpr ⟨lw_p41, fun _ h => absurd h List.not_mem_nil⟩⟩⟩⟩⟩⟩⟩⟩⟩⟩
def lw_privs : List (MethodName × Nat) := lw_privs_1 ++ (lw_privs_2 ++ (lw_privs_3))
def lw_tbl : List Cond := k2_sels lw_privs ++ tables_1
theorem lw_privs_ok : ∀ q ∈ lw_privs, lw_okq q := by
  show ∀ q ∈ lw_privs_1 ++ (lw_privs_2 ++ (lw_privs_3)), lw_okq q
  exact List.forall_mem_append.mpr ⟨lw_r1, List.forall_mem_append.mpr ⟨lw_r2, lw_r3⟩⟩
-- ===== end of PART A; then your names; then what follows =====
end
section
def RX0 : String := "PaperTrellis$Acts"
def TX0 : u_T := fun k => match k with
  | 0 => ("PaperTrellis$Acts", "before", "[LPaperTrellis$Scene;", true)
  | 1 => ("PaperTrellis$Acts", "next", "I", false)
  | _ => ("PaperTrellis$Acts", "count", "I", false)
def tyX0 : Nat → FieldType := fun k => match k with
  | 0 => .array (.object "PaperTrellis$Scene")
  | 1 => .int
  | _ => .int
abbrev wsX00 : List Cond := u_ws RX0 TX0 3
theorem nmX0 : ∀ a, a < 3 → ∀ b, b < 3 → a ≠ b → (TX0 a).2.1 ≠ (TX0 b).2.1 := by decide +kernel
theorem tyX0_ok : ∀ k, k < 3 → parseFieldDescriptor (TX0 k).2.2.1 = some (tyX0 k) := by decide +kernel
abbrev cX0_init : ByteArray := prog_2_method_1_code
def yX0_init : MethodName := ⟨RX0, "<init>", "(LPaperTrellis$Pattern;)V"⟩
abbrev cX0_remember : ByteArray := prog_2_method_2_code
def yX0_remember : MethodName := ⟨RX0, "remember", "(LPaperTrellis$Scene;)V"⟩
abbrev cX0_takeBack : ByteArray := prog_2_method_3_code
def yX0_takeBack : MethodName := ⟨RX0, "takeBack", "(LPaperTrellis$Scene;)Z"⟩
abbrev cX0_forgetAll : ByteArray := prog_2_method_4_code
def yX0_forgetAll : MethodName := ⟨RX0, "forgetAll", "()V"⟩
def RX1 : String := "PaperTrellis$Cover"
def TX1 : u_T := fun k => match k with
  | _ => ("PaperTrellis$Cover", "best", "[I", true)
def tyX1 : Nat → FieldType := fun k => match k with
  | _ => .array .int
abbrev wsX10 : List Cond := u_ws RX1 TX1 1
theorem nmX1 : ∀ a, a < 1 → ∀ b, b < 1 → a ≠ b → (TX1 a).2.1 ≠ (TX1 b).2.1 := by decide +kernel
theorem tyX1_ok : ∀ k, k < 1 → parseFieldDescriptor (TX1 k).2.2.1 = some (tyX1 k) := by decide +kernel
abbrev cX1_init : ByteArray := prog_3_method_1_code
def yX1_init : MethodName := ⟨RX1, "<init>", "()V"⟩
abbrev cX1_cellsToCall : ByteArray := prog_3_method_2_code
def yX1_cellsToCall : MethodName := ⟨RX1, "cellsToCall", "(LPaperTrellis$Scene;)I"⟩
abbrev cX1_addCell : ByteArray := prog_3_method_3_code
def yX1_addCell : MethodName := ⟨RX1, "addCell", "(II)V"⟩
abbrev cX1_hearers : ByteArray := prog_3_method_4_code
def yX1_hearers : MethodName := ⟨RX1, "hearers", "(LPaperTrellis$Scene;I)I"⟩
def RX2 : String := "PaperTrellis$Goings"
def TX2 : u_T := fun k => match k with
  | 0 => ("PaperTrellis$Goings", "cells", "[I", true)
  | _ => ("PaperTrellis$Goings", "alone", "[I", true)
def tyX2 : Nat → FieldType := fun k => match k with
  | 0 => .array .int
  | _ => .array .int
abbrev wsX20 : List Cond := u_ws RX2 TX2 2
theorem nmX2 : ∀ a, a < 2 → ∀ b, b < 2 → a ≠ b → (TX2 a).2.1 ≠ (TX2 b).2.1 := by decide +kernel
theorem tyX2_ok : ∀ k, k < 2 → parseFieldDescriptor (TX2 k).2.2.1 = some (tyX2 k) := by decide +kernel
abbrev cX2_init : ByteArray := prog_4_method_1_code
def yX2_init : MethodName := ⟨RX2, "<init>", "()V"⟩
abbrev cX2_lookAt : ByteArray := prog_4_method_2_code
def yX2_lookAt : MethodName := ⟨RX2, "lookAt", "(LPaperTrellis$Scene;I)V"⟩
abbrev cX2_worth : ByteArray := prog_4_method_3_code
def yX2_worth : MethodName := ⟨RX2, "worth", "(ILPaperTrellis$Goings;I)I"⟩
def RX3 : String := "PaperTrellis$Pattern"
def TX3 : u_T := fun k => match k with
  | 0 => ("PaperTrellis$Pattern", "w", "I", false)
  | 1 => ("PaperTrellis$Pattern", "h", "I", false)
  | 2 => ("PaperTrellis$Pattern", "drop", "I", false)
  | 3 => ("PaperTrellis$Pattern", "cells", "I", false)
  | 4 => ("PaperTrellis$Pattern", "boys", "I", false)
  | 5 => ("PaperTrellis$Pattern", "kinds", "[I", true)
  | 6 => ("PaperTrellis$Pattern", "homes", "[I", true)
  | 7 => ("PaperTrellis$Pattern", "boyKinds", "[I", true)
  | 8 => ("PaperTrellis$Pattern", "besidePlain", "[I", true)
  | 9 => ("PaperTrellis$Pattern", "besideStraight", "[I", true)
  | _ => ("PaperTrellis$Pattern", "sheets", "[I", true)
def tyX3 : Nat → FieldType := fun k => match k with
  | 0 => .int
  | 1 => .int
  | 2 => .int
  | 3 => .int
  | 4 => .int
  | 5 => .array .int
  | 6 => .array .int
  | 7 => .array .int
  | 8 => .array .int
  | 9 => .array .int
  | _ => .array .int
abbrev wsX30 : List Cond := u_ws RX3 TX3 11
theorem nmX3 : ∀ a, a < 11 → ∀ b, b < 11 → a ≠ b → (TX3 a).2.1 ≠ (TX3 b).2.1 := by decide +kernel
theorem tyX3_ok : ∀ k, k < 11 → parseFieldDescriptor (TX3 k).2.2.1 = some (tyX3 k) := by decide +kernel
abbrev cX3_init : ByteArray := prog_5_method_1_code
def yX3_init : MethodName := ⟨RX3, "<init>", "()V"⟩
abbrev cX3_readFrom : ByteArray := prog_5_method_2_code
def yX3_readFrom : MethodName := ⟨RX3, "readFrom", "(LPaperTrellis$Text;)V"⟩
abbrev cX3_layOut : ByteArray := prog_5_method_3_code
def yX3_layOut : MethodName := ⟨RX3, "layOut", "()V"⟩
abbrev cX3_layRow : ByteArray := prog_5_method_4_code
def yX3_layRow : MethodName := ⟨RX3, "layRow", "(II)V"⟩
abbrev cX3_layColumn : ByteArray := prog_5_method_5_code
def yX3_layColumn : MethodName := ⟨RX3, "layColumn", "(II)V"⟩
abbrev cX3_lay : ByteArray := prog_5_method_6_code
def yX3_lay : MethodName := ⟨RX3, "lay", "(IIIII)V"⟩
abbrev cX3_rowOn : ByteArray := prog_5_method_7_code
def yX3_rowOn : MethodName := ⟨RX3, "rowOn", "(II)I"⟩
abbrev cX3_hasCell : ByteArray := prog_5_method_8_code
def yX3_hasCell : MethodName := ⟨RX3, "hasCell", "(I)Z"⟩
abbrev cX3_hasBoy : ByteArray := prog_5_method_9_code
def yX3_hasBoy : MethodName := ⟨RX3, "hasBoy", "(I)Z"⟩
abbrev cX3_goesStraight : ByteArray := prog_5_method_10_code
def yX3_goesStraight : MethodName := ⟨RX3, "goesStraight", "(I)Z"⟩
abbrev cX3_cellBeside : ByteArray := prog_5_method_11_code
def yX3_cellBeside : MethodName := ⟨RX3, "cellBeside", "(IIZ)I"⟩
abbrev cX3_placeBeside : ByteArray := prog_5_method_12_code
def yX3_placeBeside : MethodName := ⟨RX3, "placeBeside", "(IIZ)I"⟩
def RX4 : String := "PaperTrellis$Scene"
def TX4 : u_T := fun k => match k with
  | 0 => ("PaperTrellis$Scene", "pattern", "LPaperTrellis$Pattern;", true)
  | 1 => ("PaperTrellis$Scene", "places", "[I", true)
  | _ => ("PaperTrellis$Scene", "cutCells", "I", false)
def tyX4 : Nat → FieldType := fun k => match k with
  | 0 => .object "PaperTrellis$Pattern"
  | 1 => .array .int
  | _ => .int
abbrev wsX40 : List Cond := u_ws RX4 TX4 3
theorem nmX4 : ∀ a, a < 3 → ∀ b, b < 3 → a ≠ b → (TX4 a).2.1 ≠ (TX4 b).2.1 := by decide +kernel
theorem tyX4_ok : ∀ k, k < 3 → parseFieldDescriptor (TX4 k).2.2.1 = some (tyX4 k) := by decide +kernel
abbrev cX4_init : ByteArray := prog_6_method_1_code
def yX4_init : MethodName := ⟨RX4, "<init>", "(LPaperTrellis$Pattern;)V"⟩
abbrev cX4_begin : ByteArray := prog_6_method_2_code
def yX4_begin : MethodName := ⟨RX4, "begin", "()V"⟩
abbrev cX4_become : ByteArray := prog_6_method_3_code
def yX4_become : MethodName := ⟨RX4, "become", "(LPaperTrellis$Scene;)V"⟩
abbrev cX4_kindAt : ByteArray := prog_6_method_4_code
def yX4_kindAt : MethodName := ⟨RX4, "kindAt", "(I)I"⟩
abbrev cX4_cellsOfKind : ByteArray := prog_6_method_5_code
def yX4_cellsOfKind : MethodName := ⟨RX4, "cellsOfKind", "(I)I"⟩
abbrev cX4_cutAway : ByteArray := prog_6_method_6_code
def yX4_cutAway : MethodName := ⟨RX4, "cutAway", "(I)V"⟩
abbrev cX4_canBe : ByteArray := prog_6_method_7_code
def yX4_canBe : MethodName := ⟨RX4, "canBe", "(II)Z"⟩
abbrev cX4_placeOn : ByteArray := prog_6_method_8_code
def yX4_placeOn : MethodName := ⟨RX4, "placeOn", "(III)I"⟩
abbrev cX4_goes : ByteArray := prog_6_method_9_code
def yX4_goes : MethodName := ⟨RX4, "goes", "(II)Z"⟩
abbrev cX4_waysOpen : ByteArray := prog_6_method_10_code
def yX4_waysOpen : MethodName := ⟨RX4, "waysOpen", "(I)I"⟩
abbrev cX4_homePlace : ByteArray := prog_6_method_11_code
def yX4_homePlace : MethodName := ⟨RX4, "homePlace", "(I)I"⟩
abbrev cX4_isHome : ByteArray := prog_6_method_12_code
def yX4_isHome : MethodName := ⟨RX4, "isHome", "(I)Z"⟩
abbrev cX4_whoIsHome : ByteArray := prog_6_method_13_code
def yX4_whoIsHome : MethodName := ⟨RX4, "whoIsHome", "()I"⟩
abbrev cX4_countNotHome : ByteArray := prog_6_method_14_code
def yX4_countNotHome : MethodName := ⟨RX4, "countNotHome", "()I"⟩
abbrev cX4_doesHear : ByteArray := prog_6_method_15_code
def yX4_doesHear : MethodName := ⟨RX4, "doesHear", "(II)Z"⟩
abbrev cX4_bringHome : ByteArray := prog_6_method_16_code
def yX4_bringHome : MethodName := ⟨RX4, "bringHome", "(I)I"⟩
def RX5 : String := "PaperTrellis$Search"
def TX5 : u_T := fun k => match k with
  | 0 => ("PaperTrellis$Search", "rounds", "[I", true)
  | 1 => ("PaperTrellis$Search", "found", "[I", true)
  | 2 => ("PaperTrellis$Search", "count", "I", false)
  | _ => ("PaperTrellis$Search", "reaches", "[I", true)
def tyX5 : Nat → FieldType := fun k => match k with
  | 0 => .array .int
  | 1 => .array .int
  | 2 => .int
  | _ => .array .int
abbrev wsX50 : List Cond := u_ws RX5 TX5 4
theorem nmX5 : ∀ a, a < 4 → ∀ b, b < 4 → a ≠ b → (TX5 a).2.1 ≠ (TX5 b).2.1 := by decide +kernel
theorem tyX5_ok : ∀ k, k < 4 → parseFieldDescriptor (TX5 k).2.2.1 = some (tyX5 k) := by decide +kernel
abbrev cX5_init : ByteArray := prog_7_method_1_code
def yX5_init : MethodName := ⟨RX5, "<init>", "()V"⟩
abbrev cX5_spread : ByteArray := prog_7_method_2_code
def yX5_spread : MethodName := ⟨RX5, "spread", "(LPaperTrellis$Scene;II)V"⟩
abbrev cX5_clear : ByteArray := prog_7_method_3_code
def yX5_clear : MethodName := ⟨RX5, "clear", "()V"⟩
abbrev cX5_put : ByteArray := prog_7_method_4_code
def yX5_put : MethodName := ⟨RX5, "put", "(II)V"⟩
abbrev cX5_stepsHome : ByteArray := prog_7_method_5_code
def yX5_stepsHome : MethodName := ⟨RX5, "stepsHome", "(LPaperTrellis$Scene;I)I"⟩
abbrev cX5_cellsWithin : ByteArray := prog_7_method_6_code
def yX5_cellsWithin : MethodName := ⟨RX5, "cellsWithin", "(LPaperTrellis$Scene;II)I"⟩
abbrev cX5_sixtiethsShared : ByteArray := prog_7_method_7_code
def yX5_sixtiethsShared : MethodName := ⟨RX5, "sixtiethsShared", "(LPaperTrellis$Scene;I)I"⟩
def RX6 : String := "PaperTrellis$Sight"
def TX6 : u_T := fun k => match k with
  | 0 => ("PaperTrellis$Sight", "xs", "[I", true)
  | 1 => ("PaperTrellis$Sight", "ys", "[I", true)
  | 2 => ("PaperTrellis$Sight", "kinds", "[I", true)
  | _ => ("PaperTrellis$Sight", "count", "I", false)
def tyX6 : Nat → FieldType := fun k => match k with
  | 0 => .array .int
  | 1 => .array .int
  | 2 => .array .int
  | _ => .int
abbrev wsX60 : List Cond := u_ws RX6 TX6 4
theorem nmX6 : ∀ a, a < 4 → ∀ b, b < 4 → a ≠ b → (TX6 a).2.1 ≠ (TX6 b).2.1 := by decide +kernel
theorem tyX6_ok : ∀ k, k < 4 → parseFieldDescriptor (TX6 k).2.2.1 = some (tyX6 k) := by decide +kernel
abbrev cX6_init : ByteArray := prog_8_method_1_code
def yX6_init : MethodName := ⟨RX6, "<init>", "()V"⟩
abbrev cX6_add : ByteArray := prog_8_method_2_code
def yX6_add : MethodName := ⟨RX6, "add", "(III)Z"⟩
abbrev cX6_isSoFrom : ByteArray := prog_8_method_3_code
def yX6_isSoFrom : MethodName := ⟨RX6, "isSoFrom", "(LPaperTrellis$Scene;I)Z"⟩
abbrev cX6_cellOff : ByteArray := prog_8_method_4_code
def yX6_cellOff : MethodName := ⟨RX6, "cellOff", "(LPaperTrellis$Pattern;IIII)I"⟩
def RX7 : String := "PaperTrellis$Text"
def TX7 : u_T := fun k => match k with
  | 0 => ("PaperTrellis$Text", "bytes", "[I", true)
  | _ => ("PaperTrellis$Text", "length", "I", false)
def tyX7 : Nat → FieldType := fun k => match k with
  | 0 => .array .int
  | _ => .int
abbrev wsX70 : List Cond := u_ws RX7 TX7 2
theorem nmX7 : ∀ a, a < 2 → ∀ b, b < 2 → a ≠ b → (TX7 a).2.1 ≠ (TX7 b).2.1 := by decide +kernel
theorem tyX7_ok : ∀ k, k < 2 → parseFieldDescriptor (TX7 k).2.2.1 = some (tyX7 k) := by decide +kernel
abbrev cX7_init : ByteArray := prog_9_method_1_code
def yX7_init : MethodName := ⟨RX7, "<init>", "()V"⟩
abbrev cX7_add : ByteArray := prog_9_method_2_code
def yX7_add : MethodName := ⟨RX7, "add", "(I)Z"⟩
abbrev cX7_firstFault : ByteArray := prog_9_method_3_code
def yX7_firstFault : MethodName := ⟨RX7, "firstFault", "()I"⟩
abbrev cX7_fits : ByteArray := prog_9_method_4_code
def yX7_fits : MethodName := ⟨RX7, "fits", "(I)Z"⟩
abbrev cX7_fitsInBoy : ByteArray := prog_9_method_5_code
def yX7_fitsInBoy : MethodName := ⟨RX7, "fitsInBoy", "(II)Z"⟩
abbrev cX7_isFreeCell : ByteArray := prog_9_method_6_code
def yX7_isFreeCell : MethodName := ⟨RX7, "isFreeCell", "(I)Z"⟩
abbrev cX7_hasFreeCell : ByteArray := prog_9_method_7_code
def yX7_hasFreeCell : MethodName := ⟨RX7, "hasFreeCell", "()Z"⟩
abbrev cX7_isWhole : ByteArray := prog_9_method_8_code
def yX7_isWhole : MethodName := ⟨RX7, "isWhole", "()Z"⟩
abbrev cX7_figure : ByteArray := prog_9_method_9_code
def yX7_figure : MethodName := ⟨RX7, "figure", "(I)I"⟩
abbrev cX7_cells : ByteArray := prog_9_method_10_code
def yX7_cells : MethodName := ⟨RX7, "cells", "()I"⟩
abbrev cX7_boys : ByteArray := prog_9_method_11_code
def yX7_boys : MethodName := ⟨RX7, "boys", "()I"⟩
abbrev cX7_kindOfCell : ByteArray := prog_9_method_12_code
def yX7_kindOfCell : MethodName := ⟨RX7, "kindOfCell", "(I)I"⟩
abbrev cX7_homeOfBoy : ByteArray := prog_9_method_13_code
def yX7_homeOfBoy : MethodName := ⟨RX7, "homeOfBoy", "(I)I"⟩
abbrev cX7_kindOfBoy : ByteArray := prog_9_method_14_code
def yX7_kindOfBoy : MethodName := ⟨RX7, "kindOfBoy", "(I)I"⟩
abbrev cX7_kindOf : ByteArray := prog_9_method_15_code
def yX7_kindOf : MethodName := ⟨RX7, "kindOf", "(I)I"⟩
def RX8 : String := "PaperTrellis"
def TX8 : u_T := fun k => match k with
  | 0 => ("PaperTrellis", "text", "LPaperTrellis$Text;", true)
  | 1 => ("PaperTrellis", "pattern", "LPaperTrellis$Pattern;", true)
  | 2 => ("PaperTrellis", "now", "LPaperTrellis$Scene;", true)
  | 3 => ("PaperTrellis", "trial", "LPaperTrellis$Scene;", true)
  | 4 => ("PaperTrellis", "acts", "LPaperTrellis$Acts;", true)
  | 5 => ("PaperTrellis", "slots", "[LPaperTrellis$Scene;", true)
  | 6 => ("PaperTrellis", "kept", "[Z", true)
  | 7 => ("PaperTrellis", "search", "LPaperTrellis$Search;", true)
  | 8 => ("PaperTrellis", "cover", "LPaperTrellis$Cover;", true)
  | 9 => ("PaperTrellis", "sight", "LPaperTrellis$Sight;", true)
  | 10 => ("PaperTrellis", "goingsOfOne", "LPaperTrellis$Goings;", true)
  | 11 => ("PaperTrellis", "goingsOfOther", "LPaperTrellis$Goings;", true)
  | _ => ("PaperTrellis", "theSeed", "J", false)
def tyX8 : Nat → FieldType := fun k => match k with
  | 0 => .object "PaperTrellis$Text"
  | 1 => .object "PaperTrellis$Pattern"
  | 2 => .object "PaperTrellis$Scene"
  | 3 => .object "PaperTrellis$Scene"
  | 4 => .object "PaperTrellis$Acts"
  | 5 => .array (.object "PaperTrellis$Scene")
  | 6 => .array .boolean
  | 7 => .object "PaperTrellis$Search"
  | 8 => .object "PaperTrellis$Cover"
  | 9 => .object "PaperTrellis$Sight"
  | 10 => .object "PaperTrellis$Goings"
  | 11 => .object "PaperTrellis$Goings"
  | _ => .long
abbrev wsX80 : List Cond := u_ws RX8 TX8 13
theorem nmX8 : ∀ a, a < 13 → ∀ b, b < 13 → a ≠ b → (TX8 a).2.1 ≠ (TX8 b).2.1 := by decide +kernel
theorem tyX8_ok : ∀ k, k < 13 → parseFieldDescriptor (TX8 k).2.2.1 = some (tyX8 k) := by decide +kernel
abbrev cX8_init : ByteArray := prog_1_method_1_code
def yX8_init : MethodName := ⟨RX8, "<init>", "()V"⟩
abbrev cX8_write : ByteArray := prog_1_method_2_code
def yX8_write : MethodName := ⟨RX8, "write", "(I)I"⟩
abbrev cX8_wipe : ByteArray := prog_1_method_3_code
def yX8_wipe : MethodName := ⟨RX8, "wipe", "()I"⟩
abbrev cX8_fault : ByteArray := prog_1_method_4_code
def yX8_fault : MethodName := ⟨RX8, "fault", "()I"⟩
abbrev cX8_paper : ByteArray := prog_1_method_5_code
def yX8_paper : MethodName := ⟨RX8, "paper", "()I"⟩
abbrev cX8_about : ByteArray := prog_1_method_6_code
def yX8_about : MethodName := ⟨RX8, "about", "(I)I"⟩
abbrev cX8_cell : ByteArray := prog_1_method_7_code
def yX8_cell : MethodName := ⟨RX8, "cell", "(I)I"⟩
abbrev cX8_beside : ByteArray := prog_1_method_8_code
def yX8_beside : MethodName := ⟨RX8, "beside", "(IIZ)I"⟩
abbrev cX8_boy : ByteArray := prog_1_method_9_code
def yX8_boy : MethodName := ⟨RX8, "boy", "(II)I"⟩
abbrev cX8_step : ByteArray := prog_1_method_10_code
def yX8_step : MethodName := ⟨RX8, "step", "(II)I"⟩
abbrev cX8_call : ByteArray := prog_1_method_11_code
def yX8_call : MethodName := ⟨RX8, "call", "(I)I"⟩
abbrev cX8_cut : ByteArray := prog_1_method_12_code
def yX8_cut : MethodName := ⟨RX8, "cut", "(I)I"⟩
abbrev cX8_undo : ByteArray := prog_1_method_13_code
def yX8_undo : MethodName := ⟨RX8, "undo", "()I"⟩
abbrev cX8_far : ByteArray := prog_1_method_14_code
def yX8_far : MethodName := ⟨RX8, "far", "(I)I"⟩
abbrev cX8_reach : ByteArray := prog_1_method_15_code
def yX8_reach : MethodName := ⟨RX8, "reach", "(II)I"⟩
abbrev cX8_again : ByteArray := prog_1_method_16_code
def yX8_again : MethodName := ⟨RX8, "again", "(II)I"⟩
abbrev cX8_alike : ByteArray := prog_1_method_17_code
def yX8_alike : MethodName := ⟨RX8, "alike", "(I)I"⟩
abbrev cX8_calls : ByteArray := prog_1_method_18_code
def yX8_calls : MethodName := ⟨RX8, "calls", "(I)I"⟩
abbrev cX8_match : ByteArray := prog_1_method_19_code
def yX8_match : MethodName := ⟨RX8, "match", "(I)I"⟩
abbrev cX8_judge : ByteArray := prog_1_method_20_code
def yX8_judge : MethodName := ⟨RX8, "judge", "(IJ)I"⟩
abbrev cX8_share : ByteArray := prog_1_method_21_code
def yX8_share : MethodName := ⟨RX8, "share", "(IZ)I"⟩
abbrev cX8_see : ByteArray := prog_1_method_22_code
def yX8_see : MethodName := ⟨RX8, "see", "(III)I"⟩
abbrev cX8_unsee : ByteArray := prog_1_method_23_code
def yX8_unsee : MethodName := ⟨RX8, "unsee", "()I"⟩
abbrev cX8_stands : ByteArray := prog_1_method_24_code
def yX8_stands : MethodName := ⟨RX8, "stands", "()I"⟩
abbrev cX8_rests : ByteArray := prog_1_method_25_code
def yX8_rests : MethodName := ⟨RX8, "rests", "(III)I"⟩
abbrev cX8_strays : ByteArray := prog_1_method_26_code
def yX8_strays : MethodName := ⟨RX8, "strays", "(IIZ)I"⟩
abbrev cX8_seed : ByteArray := prog_1_method_27_code
def yX8_seed : MethodName := ⟨RX8, "seed", "(J)J"⟩
abbrev cX8_nights : ByteArray := prog_1_method_28_code
def yX8_nights : MethodName := ⟨RX8, "nights", "(I)I"⟩
abbrev cX8_keep : ByteArray := prog_1_method_29_code
def yX8_keep : MethodName := ⟨RX8, "keep", "(I)I"⟩
abbrev cX8_goOn : ByteArray := prog_1_method_30_code
def yX8_goOn : MethodName := ⟨RX8, "goOn", "(I)I"⟩
abbrev cX8_isWay : ByteArray := prog_1_method_31_code
def yX8_isWay : MethodName := ⟨RX8, "isWay", "(I)Z"⟩
abbrev cX8_inSight : ByteArray := prog_1_method_32_code
def yX8_inSight : MethodName := ⟨RX8, "inSight", "(I)Z"⟩
abbrev cX8_cellOf : ByteArray := prog_1_method_33_code
def yX8_cellOf : MethodName := ⟨RX8, "cellOf", "(I)I"⟩
abbrev cX8_widthOf : ByteArray := prog_1_method_34_code
def yX8_widthOf : MethodName := ⟨RX8, "widthOf", "(I)I"⟩
abbrev cX8_heightOf : ByteArray := prog_1_method_35_code
def yX8_heightOf : MethodName := ⟨RX8, "heightOf", "(I)I"⟩
abbrev cX8_told : ByteArray := prog_1_method_36_code
def yX8_told : MethodName := ⟨RX8, "told", "(IIZ)I"⟩
abbrev cX8_commonDivisor : ByteArray := prog_1_method_37_code
def yX8_commonDivisor : MethodName := ⟨RX8, "commonDivisor", "(II)I"⟩
abbrev cX8_stepsRound : ByteArray := prog_1_method_38_code
def yX8_stepsRound : MethodName := ⟨RX8, "stepsRound", "(II)I"⟩
abbrev cX8_looksLike : ByteArray := prog_1_method_39_code
def yX8_looksLike : MethodName := ⟨RX8, "looksLike", "(II)Z"⟩
abbrev cX8_unlikeRows : ByteArray := prog_1_method_40_code
def yX8_unlikeRows : MethodName := ⟨RX8, "unlikeRows", "(I)I"⟩
abbrev cX8_holds : ByteArray := prog_1_method_41_code
def yX8_holds : MethodName := ⟨RX8, "holds", "(III)Z"⟩
abbrev cX8_happens : ByteArray := prog_1_method_42_code
def yX8_happens : MethodName := ⟨RX8, "happens", "(I)V"⟩
abbrev cX8_isRest : ByteArray := prog_1_method_43_code
def yX8_isRest : MethodName := ⟨RX8, "isRest", "(II)Z"⟩
abbrev cX8_countOfRests : ByteArray := prog_1_method_44_code
def yX8_countOfRests : MethodName := ⟨RX8, "countOfRests", "()I"⟩
abbrev cX8_firstRest : ByteArray := prog_1_method_45_code
def yX8_firstRest : MethodName := ⟨RX8, "firstRest", "()I"⟩
abbrev cX8_walksHome : ByteArray := prog_1_method_46_code
def yX8_walksHome : MethodName := ⟨RX8, "walksHome", "(LPaperTrellis$Scene;III)I"⟩
def RX9 : String := "PaperTrellisModel"
def TX9 : u_T := fun k => match k with
  | 0 => ("PaperTrellisModel", "thrown", "I", false)
  | 1 => ("PaperTrellisModel", "text", "[I", true)
  | 2 => ("PaperTrellisModel", "textSize", "I", false)
  | 3 => ("PaperTrellisModel", "place", "I", false)
  | 4 => ("PaperTrellisModel", "wide", "I", false)
  | 5 => ("PaperTrellisModel", "high", "I", false)
  | 6 => ("PaperTrellisModel", "drop", "I", false)
  | 7 => ("PaperTrellisModel", "sort", "[I", true)
  | 8 => ("PaperTrellisModel", "boys", "I", false)
  | 9 => ("PaperTrellisModel", "home", "[I", true)
  | 10 => ("PaperTrellisModel", "kind", "[I", true)
  | 11 => ("PaperTrellisModel", "readWide", "I", false)
  | 12 => ("PaperTrellisModel", "readHigh", "I", false)
  | 13 => ("PaperTrellisModel", "readDrop", "I", false)
  | 14 => ("PaperTrellisModel", "readSort", "[I", true)
  | 15 => ("PaperTrellisModel", "readBoys", "I", false)
  | 16 => ("PaperTrellisModel", "readBoy", "[I", true)
  | 17 => ("PaperTrellisModel", "page", "[I", true)
  | 18 => ("PaperTrellisModel", "trial", "[I", true)
  | 19 => ("PaperTrellisModel", "book", "[I", true)
  | 20 => ("PaperTrellisModel", "acts", "I", false)
  | 21 => ("PaperTrellisModel", "kept", "[I", true)
  | 22 => ("PaperTrellisModel", "isKept", "[Z", true)
  | 23 => ("PaperTrellisModel", "seen", "I", false)
  | 24 => ("PaperTrellisModel", "seenRight", "[I", true)
  | 25 => ("PaperTrellisModel", "seenDown", "[I", true)
  | 26 => ("PaperTrellisModel", "seenKind", "[I", true)
  | 27 => ("PaperTrellisModel", "seed", "J", false)
  | 28 => ("PaperTrellisModel", "spot", "[I", true)
  | 29 => ("PaperTrellisModel", "far", "[I", true)
  | 30 => ("PaperTrellisModel", "queue", "[I", true)
  | 31 => ("PaperTrellisModel", "unlike", "I", false)
  | 32 => ("PaperTrellisModel", "restMany", "I", false)
  | 33 => ("PaperTrellisModel", "restFirst", "I", false)
  | 34 => ("PaperTrellisModel", "gains", "[I", true)
  | _ => ("PaperTrellisModel", "value", "[I", true)
def tyX9 : Nat → FieldType := fun k => match k with
  | 0 => .int
  | 1 => .array .int
  | 2 => .int
  | 3 => .int
  | 4 => .int
  | 5 => .int
  | 6 => .int
  | 7 => .array .int
  | 8 => .int
  | 9 => .array .int
  | 10 => .array .int
  | 11 => .int
  | 12 => .int
  | 13 => .int
  | 14 => .array .int
  | 15 => .int
  | 16 => .array .int
  | 17 => .array .int
  | 18 => .array .int
  | 19 => .array .int
  | 20 => .int
  | 21 => .array .int
  | 22 => .array .boolean
  | 23 => .int
  | 24 => .array .int
  | 25 => .array .int
  | 26 => .array .int
  | 27 => .long
  | 28 => .array .int
  | 29 => .array .int
  | 30 => .array .int
  | 31 => .int
  | 32 => .int
  | 33 => .int
  | 34 => .array .int
  | _ => .array .int
abbrev wsX90 : List Cond := u_ws RX9 TX9 36
theorem nmX9 : ∀ a, a < 36 → ∀ b, b < 36 → a ≠ b → (TX9 a).2.1 ≠ (TX9 b).2.1 := by decide +kernel
theorem tyX9_ok : ∀ k, k < 36 → parseFieldDescriptor (TX9 k).2.2.1 = some (tyX9 k) := by decide +kernel
abbrev cX9_init : ByteArray := prog_11_method_1_code
def yX9_init : MethodName := ⟨RX9, "<init>", "()V"⟩
abbrev cX9_in : ByteArray := prog_11_method_3_code
def yX9_in : MethodName := ⟨RX9, "in", "(JJJ)Z"⟩
abbrev cX9_has : ByteArray := prog_11_method_4_code
def yX9_has : MethodName := ⟨RX9, "has", "(II)Z"⟩
abbrev cX9_many : ByteArray := prog_11_method_5_code
def yX9_many : MethodName := ⟨RX9, "many", "(I)I"⟩
abbrev cX9_power : ByteArray := prog_11_method_6_code
def yX9_power : MethodName := ⟨RX9, "power", "(II)I"⟩
abbrev cX9_noBoy : ByteArray := prog_11_method_7_code
def yX9_noBoy : MethodName := ⟨RX9, "noBoy", "(I)Z"⟩
abbrev cX9_noCell : ByteArray := prog_11_method_8_code
def yX9_noCell : MethodName := ⟨RX9, "noCell", "(I)Z"⟩
abbrev cX9_noWay : ByteArray := prog_11_method_9_code
def yX9_noWay : MethodName := ⟨RX9, "noWay", "(I)Z"⟩
abbrev cX9_write : ByteArray := prog_11_method_10_code
def yX9_write : MethodName := ⟨RX9, "write", "(I)I"⟩
abbrev cX9_wipe : ByteArray := prog_11_method_11_code
def yX9_wipe : MethodName := ⟨RX9, "wipe", "()I"⟩
abbrev cX9_from : ByteArray := prog_11_method_12_code
def yX9_from : MethodName := ⟨RX9, "from", "(III)I"⟩
abbrev cX9_readKind : ByteArray := prog_11_method_13_code
def yX9_readKind : MethodName := ⟨RX9, "readKind", "()I"⟩
abbrev cX9_hasRoom : ByteArray := prog_11_method_14_code
def yX9_hasRoom : MethodName := ⟨RX9, "hasRoom", "()Z"⟩
abbrev cX9_readOneBoy : ByteArray := prog_11_method_15_code
def yX9_readOneBoy : MethodName := ⟨RX9, "readOneBoy", "()Z"⟩
abbrev cX9_readPattern : ByteArray := prog_11_method_16_code
def yX9_readPattern : MethodName := ⟨RX9, "readPattern", "()Z"⟩
abbrev cX9_readPaper : ByteArray := prog_11_method_17_code
def yX9_readPaper : MethodName := ⟨RX9, "readPaper", "()I"⟩
abbrev cX9_fault : ByteArray := prog_11_method_18_code
def yX9_fault : MethodName := ⟨RX9, "fault", "()I"⟩
abbrev cX9_paper : ByteArray := prog_11_method_19_code
def yX9_paper : MethodName := ⟨RX9, "paper", "()I"⟩
abbrev cX9_kindOf : ByteArray := prog_11_method_20_code
def yX9_kindOf : MethodName := ⟨RX9, "kindOf", "([II)I"⟩
abbrev cX9_goWay : ByteArray := prog_11_method_21_code
def yX9_goWay : MethodName := ⟨RX9, "goWay", "(IZ)V"⟩
abbrev cX9_isThere : ByteArray := prog_11_method_22_code
def yX9_isThere : MethodName := ⟨RX9, "isThere", "()Z"⟩
abbrev cX9_cellBeside : ByteArray := prog_11_method_23_code
def yX9_cellBeside : MethodName := ⟨RX9, "cellBeside", "(IIZ)I"⟩
abbrev cX9_canBe : ByteArray := prog_11_method_24_code
def yX9_canBe : MethodName := ⟨RX9, "canBe", "([III)Z"⟩
abbrev cX9_stand : ByteArray := prog_11_method_25_code
def yX9_stand : MethodName := ⟨RX9, "stand", "([II)V"⟩
abbrev cX9_canGo : ByteArray := prog_11_method_26_code
def yX9_canGo : MethodName := ⟨RX9, "canGo", "([III)Z"⟩
abbrev cX9_goStep : ByteArray := prog_11_method_27_code
def yX9_goStep : MethodName := ⟨RX9, "goStep", "([III)Z"⟩
abbrev cX9_isHome : ByteArray := prog_11_method_28_code
def yX9_isHome : MethodName := ⟨RX9, "isHome", "([II)Z"⟩
abbrev cX9_homes : ByteArray := prog_11_method_29_code
def yX9_homes : MethodName := ⟨RX9, "homes", "([I)I"⟩
abbrev cX9_away : ByteArray := prog_11_method_30_code
def yX9_away : MethodName := ⟨RX9, "away", "([I)I"⟩
abbrev cX9_cellsOf : ByteArray := prog_11_method_31_code
def yX9_cellsOf : MethodName := ⟨RX9, "cellsOf", "(I)I"⟩
abbrev cX9_about : ByteArray := prog_11_method_32_code
def yX9_about : MethodName := ⟨RX9, "about", "(I)I"⟩
abbrev cX9_cell : ByteArray := prog_11_method_33_code
def yX9_cell : MethodName := ⟨RX9, "cell", "(I)I"⟩
abbrev cX9_beside : ByteArray := prog_11_method_34_code
def yX9_beside : MethodName := ⟨RX9, "beside", "(IIZ)I"⟩
abbrev cX9_waysOf : ByteArray := prog_11_method_35_code
def yX9_waysOf : MethodName := ⟨RX9, "waysOf", "(I)I"⟩
abbrev cX9_boy : ByteArray := prog_11_method_36_code
def yX9_boy : MethodName := ⟨RX9, "boy", "(II)I"⟩
abbrev cX9_note : ByteArray := prog_11_method_37_code
def yX9_note : MethodName := ⟨RX9, "note", "()V"⟩
abbrev cX9_step : ByteArray := prog_11_method_38_code
def yX9_step : MethodName := ⟨RX9, "step", "(II)I"⟩
abbrev cX9_hears : ByteArray := prog_11_method_39_code
def yX9_hears : MethodName := ⟨RX9, "hears", "([III)Z"⟩
abbrev cX9_goCall : ByteArray := prog_11_method_40_code
def yX9_goCall : MethodName := ⟨RX9, "goCall", "([II)V"⟩
abbrev cX9_call : ByteArray := prog_11_method_41_code
def yX9_call : MethodName := ⟨RX9, "call", "(I)I"⟩
abbrev cX9_cut : ByteArray := prog_11_method_42_code
def yX9_cut : MethodName := ⟨RX9, "cut", "(I)I"⟩
abbrev cX9_undo : ByteArray := prog_11_method_43_code
def yX9_undo : MethodName := ⟨RX9, "undo", "()I"⟩
abbrev cX9_begin : ByteArray := prog_11_method_44_code
def yX9_begin : MethodName := ⟨RX9, "begin", "()V"⟩
abbrev cX9_spotNumber : ByteArray := prog_11_method_45_code
def yX9_spotNumber : MethodName := ⟨RX9, "spotNumber", "()I"⟩
abbrev cX9_layFar : ByteArray := prog_11_method_46_code
def yX9_layFar : MethodName := ⟨RX9, "layFar", "(I)V"⟩
abbrev cX9_far : ByteArray := prog_11_method_47_code
def yX9_far : MethodName := ⟨RX9, "far", "(I)I"⟩
abbrev cX9_reachOf : ByteArray := prog_11_method_48_code
def yX9_reachOf : MethodName := ⟨RX9, "reachOf", "(II)I"⟩
abbrev cX9_reach : ByteArray := prog_11_method_49_code
def yX9_reach : MethodName := ⟨RX9, "reach", "(II)I"⟩
abbrev cX9_again : ByteArray := prog_11_method_50_code
def yX9_again : MethodName := ⟨RX9, "again", "(II)I"⟩
abbrev cX9_areAlike : ByteArray := prog_11_method_51_code
def yX9_areAlike : MethodName := ⟨RX9, "areAlike", "(II)Z"⟩
abbrev cX9_alike : ByteArray := prog_11_method_52_code
def yX9_alike : MethodName := ⟨RX9, "alike", "(I)I"⟩
abbrev cX9_nextOf : ByteArray := prog_11_method_53_code
def yX9_nextOf : MethodName := ⟨RX9, "nextOf", "(I)I"⟩
abbrev cX9_fewest : ByteArray := prog_11_method_54_code
def yX9_fewest : MethodName := ⟨RX9, "fewest", "()I"⟩
abbrev cX9_calls : ByteArray := prog_11_method_55_code
def yX9_calls : MethodName := ⟨RX9, "calls", "(I)I"⟩
abbrev cX9_unlikeBy : ByteArray := prog_11_method_56_code
def yX9_unlikeBy : MethodName := ⟨RX9, "unlikeBy", "(I)I"⟩
abbrev cX9_match : ByteArray := prog_11_method_57_code
def yX9_match : MethodName := ⟨RX9, "match", "(I)I"⟩
abbrev cX9_longPower : ByteArray := prog_11_method_58_code
def yX9_longPower : MethodName := ⟨RX9, "longPower", "(JI)J"⟩
abbrev cX9_does : ByteArray := prog_11_method_59_code
def yX9_does : MethodName := ⟨RX9, "does", "(I)Z"⟩
abbrev cX9_judge : ByteArray := prog_11_method_60_code
def yX9_judge : MethodName := ⟨RX9, "judge", "(IJ)I"⟩
abbrev cX9_ways : ByteArray := prog_11_method_61_code
def yX9_ways : MethodName := ⟨RX9, "ways", "(I)I"⟩
abbrev cX9_divisor : ByteArray := prog_11_method_62_code
def yX9_divisor : MethodName := ⟨RX9, "divisor", "(II)I"⟩
abbrev cX9_fraction : ByteArray := prog_11_method_63_code
def yX9_fraction : MethodName := ⟨RX9, "fraction", "(IIZ)I"⟩
abbrev cX9_share : ByteArray := prog_11_method_64_code
def yX9_share : MethodName := ⟨RX9, "share", "(IZ)I"⟩
abbrev cX9_see : ByteArray := prog_11_method_65_code
def yX9_see : MethodName := ⟨RX9, "see", "(III)I"⟩
abbrev cX9_unsee : ByteArray := prog_11_method_66_code
def yX9_unsee : MethodName := ⟨RX9, "unsee", "()I"⟩
abbrev cX9_cellFrom : ByteArray := prog_11_method_67_code
def yX9_cellFrom : MethodName := ⟨RX9, "cellFrom", "(III)I"⟩
abbrev cX9_stands : ByteArray := prog_11_method_68_code
def yX9_stands : MethodName := ⟨RX9, "stands", "()I"⟩
abbrev cX9_layGains : ByteArray := prog_11_method_69_code
def yX9_layGains : MethodName := ⟨RX9, "layGains", "(III)V"⟩
abbrev cX9_rests : ByteArray := prog_11_method_70_code
def yX9_rests : MethodName := ⟨RX9, "rests", "(III)I"⟩
abbrev cX9_strays : ByteArray := prog_11_method_71_code
def yX9_strays : MethodName := ⟨RX9, "strays", "(IIZ)I"⟩
abbrev cX9_seed : ByteArray := prog_11_method_72_code
def yX9_seed : MethodName := ⟨RX9, "seed", "(J)J"⟩
abbrev cX9_nights : ByteArray := prog_11_method_73_code
def yX9_nights : MethodName := ⟨RX9, "nights", "(I)I"⟩
abbrev cX9_keep : ByteArray := prog_11_method_74_code
def yX9_keep : MethodName := ⟨RX9, "keep", "(I)I"⟩
abbrev cX9_goOn : ByteArray := prog_11_method_75_code
def yX9_goOn : MethodName := ⟨RX9, "goOn", "(I)I"⟩
def RJ6 : String := "java/lang/Integer"
abbrev cJ6_bitCount_0f7a4 : ByteArray := prog_12_method_49_code
def yJ6_bitCount_0f7a4 : MethodName := ⟨RJ6, "bitCount", "(I)I"⟩
def RJ9 : String := "java/lang/Math"
abbrev cJ9_abs_0f7a4 : ByteArray := prog_13_method_59_code
def yJ9_abs_0f7a4 : MethodName := ⟨RJ9, "abs", "(I)I"⟩
abbrev cJ9_min_7cf53 : ByteArray := prog_13_method_69_code
def yJ9_min_7cf53 : MethodName := ⟨RJ9, "min", "(II)I"⟩
def RJ10 : String := "java/lang/System"
def RL : String := "PaperTrellisLaw"
abbrev cL_law : ByteArray := code
def yL_law : MethodName := ⟨RL, "law", "([I)Z"⟩
abbrev vwCl : List vw_C := [(RX0, TX0, 3), (RX1, TX1, 1), (RX2, TX2, 2), (RX3, TX3, 11), (RX4, TX4, 3), (RX5, TX5, 4), (RX6, TX6, 4), (RX7, TX7, 2), (RX8, TX8, 13), (RX9, TX9, 36)]
end
section
/-! the machine under one picture: the heap from b0 on is cells 0 .. n-1, in the order in which they were made -/
abbrev zM : Type := MethodName × ByteArray × Nat × Option FieldType
abbrev zE : Type := (Nat × vp_A) ⊕ (Nat × List Value)
abbrev zH : Type := Nat → zE
abbrev zX : Type := Nat × (Nat → Int32)
def zU : List Cond := lw_tbl.filter goodWord
theorem zin {w : Cond} (i : Nat) (h : lw_tbl[i]? = some w) (g : goodWord w = true) : w ∈ zU := List.mem_filter.mpr ⟨List.mem_of_getElem? h, g⟩
theorem zU_good {w : Cond} (h : w ∈ zU) : goodWord w = true := (List.mem_filter.mp h).2
theorem zU_goodIn (c : Cond) : ∀ {w : Cond}, w ∈ zU → w ∈ c :: zU ∧ ((w.onTables && w.keeps) = true ∨ ∃ ty, w = .arrayClass ty) := fun h => ⟨List.mem_cons_of_mem _ h, good_of_word (zU_good h)⟩
abbrev zu : Value := .retAddr 0
def ztr (b0 : Nat) (cs : Nat → Nat) : Value → Value
  | .ref a => .ref (if a < 1000000 then b0 + a else cs (a - 1000000))
  | v => v
theorem ztr_ref {b0 : Nat} {cs : Nat → Nat} {a : Nat} (h : a < 1000000) : ztr b0 cs (.ref a) = .ref (b0 + a) := by simp [ztr, h]
theorem ztr_cat {b0 : Nat} {cs : Nat → Nat} (v : Value) : (ztr b0 cs v).category = v.category := by cases v <;> rfl
def ztE (cy : Nat → ClassId) (b0 : Nat) (cs : Nat → Nat) : zE → va_E
  | .inl (t, n, .inl f) => .inl (cy t, n, .inl f)
  | .inl (t, n, .inr (.inr (.inr (.inr f)))) => .inl (cy t, n, .inr (.inr (.inr (.inr (fun k => (f k).map (fun a => b0 + a))))))
  | .inl (t, x) => .inl (cy t, x)
  | .inr (ci, fs) => .inr (ci, fs.map (ztr b0 cs))
def zWl (cy : Nat → ClassId) (b0 : Nat) (cs : Nat → Nat) (n : Nat) (h : zH) : va_W := (List.range n).map fun i => (b0 + i, ztE cy b0 cs (h i))
theorem zWl_at {cy : Nat → ClassId} {b0 : Nat} {cs : Nat → Nat} {n : Nat} {h : zH} {i : Nat} (hi : i < n) : (zWl cy b0 cs n h)[i]? = some (b0 + i, ztE cy b0 cs (h i)) := by
  simp [zWl, hi]
theorem zWl_of {cy : Nat → ClassId} {b0 : Nat} {cs : Nat → Nat} {n : Nat} {h : zH} {k : Nat} {q : Nat × va_E} (hq : (zWl cy b0 cs n h)[k]? = some q) : k < n ∧ q = (b0 + k, ztE cy b0 cs (h k)) := by
  by_cases hk : k < n
  · rw [zWl_at hk] at hq
    exact ⟨hk, (Option.some.inj hq).symm⟩
  · simp [zWl, hk] at hq
theorem zWl_len {cy : Nat → ClassId} {b0 : Nat} {cs : Nat → Nat} {n : Nat} {h : zH} : (zWl cy b0 cs n h).length = n := by simp [zWl]
theorem zWl_D {cy : Nat → ClassId} {b0 : Nat} {cs : Nat → Nat} {n : Nat} {h : zH} : va_D (fun q => b0 ≤ q) (zWl cy b0 cs n h) := by
  refine ⟨fun i j x y hi hj hxy => ?_, fun k x hk => ?_⟩
  · obtain ⟨-, rfl⟩ := zWl_of hi
    obtain ⟨-, rfl⟩ := zWl_of hj
    have : b0 + i = b0 + j := hxy
    omega
  · obtain ⟨-, rfl⟩ := zWl_of hk
    exact Nat.le_add_right _ _
theorem zWl_set {cy : Nat → ClassId} {b0 : Nat} {cs : Nat → Nat} {n : Nat} {h : zH} {i : Nat} (e : zE) : (zWl cy b0 cs n h).set i (b0 + i, ztE cy b0 cs e) = zWl cy b0 cs n (va_up h i e) := by
  apply List.ext_getElem?
  intro k
  by_cases hk : k < n
  · rw [zWl_at hk]
    by_cases hi : k = i
    · subst hi
      rw [List.getElem?_set_self (by rw [zWl_len]; exact hk)]
      simp [va_up]
    · rw [List.getElem?_set_ne (Ne.symm hi), zWl_at hk]
      simp [va_up, hi]
  · rw [List.getElem?_eq_none (by rw [List.length_set, zWl_len]; omega), List.getElem?_eq_none (by rw [zWl_len]; omega)]
theorem zWl_push {cy : Nat → ClassId} {b0 : Nat} {cs : Nat → Nat} {n : Nat} {h : zH} (e : zE) : zWl cy b0 cs n h ++ [(b0 + n, ztE cy b0 cs e)] = zWl cy b0 cs (n + 1) (va_up h n e) := by
  apply List.ext_getElem?
  intro k
  by_cases hk : k < n
  · rw [List.getElem?_append_left (by rw [zWl_len]; exact hk), zWl_at hk, zWl_at (by omega)]
    have : k ≠ n := by omega
    simp [va_up, this]
  · by_cases hk2 : k = n
    · subst hk2
      rw [List.getElem?_append_right (by rw [zWl_len]; exact Nat.le_refl _), zWl_len, Nat.sub_self, zWl_at (by omega)]
      simp [va_up]
    · rw [List.getElem?_eq_none (by rw [List.length_append, zWl_len]; simp; omega), List.getElem?_eq_none (by rw [zWl_len]; omega)]
def ztys (cy : Nat → ClassId) : List (ClassId × FieldType) := [(cy 0, .int), (cy 1, .boolean), (cy 2, .object "PaperTrellis$Scene")]
def zThou (k : Nat) : Value := .long (Int64.ofNat (1000 ^ k))
def zPow (k : Nat) : Value := .int (Int32.ofNat (4 ^ k))
def zN : List (String × Nat × MethodName × String) := [("PaperTrellis", 11, ⟨"PaperTrellis$Text", "<init>", "()V"⟩, "PaperTrellis"), ("PaperTrellis", 52, ⟨"PaperTrellis$Search", "<init>", "()V"⟩, "PaperTrellis"), ("PaperTrellis", 59, ⟨"PaperTrellis$Cover", "<init>", "()V"⟩, "PaperTrellis"), ("PaperTrellis", 66, ⟨"PaperTrellis$Sight", "<init>", "()V"⟩, "PaperTrellis"), ("PaperTrellis", 73, ⟨"PaperTrellis$Goings", "<init>", "()V"⟩, "PaperTrellis"), ("PaperTrellis$Pattern", 87, ⟨"PaperTrellis", "cellOf", "(I)I"⟩, "PaperTrellis"), ("PaperTrellis$Pattern", 90, ⟨"PaperTrellis", "widthOf", "(I)I"⟩, "PaperTrellis"), ("PaperTrellis$Pattern", 93, ⟨"PaperTrellis", "heightOf", "(I)I"⟩, "PaperTrellis"), ("PaperTrellis$Scene", 58, ⟨"PaperTrellis", "cellOf", "(I)I"⟩, "PaperTrellis"), ("PaperTrellis$Search", 49, ⟨"PaperTrellis", "cellOf", "(I)I"⟩, "PaperTrellis"), ("PaperTrellis$Goings", 27, ⟨"PaperTrellis", "cellOf", "(I)I"⟩, "PaperTrellis")]
/-- what holds at every frame's start: the tables, the constants below b0 -/
def zG (X : zX) (D : va_G) (cy : Nat → ClassId) (b0 : Nat) (cs : Nat → Nat) (U : State) : Prop :=
  va_K D vwCl (ztys cy) U ∧ (∀ q ∈ zN, va_Nw (.methodLinkNest q.1 q.2.1 q.2.2.1 q.2.2.2) U) ∧ va_AO "PaperTrellis$Scene" U ∧ va_X (cs 0) X.1 X.2 U U.heap ∧ cs 0 < b0 ∧ b0 ≤ U.heap.size ∧
  va_Z "PaperTrellis" "THOUSANDS" "[J" (.ref (cs 1)) (fun q => b0 ≤ q) U U.heap ∧ va_T .long (cs 1) 5 zThou (fun q => b0 ≤ q) U U.heap ∧ va_Z "PaperTrellis" "POWERS_OF_FOUR" "[I" (.ref (cs 2)) (fun q => b0 ≤ q) U U.heap ∧ va_T .int (cs 2) 6 zPow (fun q => b0 ≤ q) U U.heap
def zF (X : zX) (M : zM) (D : va_G) (cy : Nat → ClassId) (b0 : Nat) (cs : Nat → Nat) (p : Program) (R : Room) (s : State) (m : MethodId) (args : Array Value) (meth : Method) (c : Code) (d : Nat) : Prop :=
  p.tables.exec = Jvm.exec ∧ c.code = M.2.1 ∧ c.maxLocals = M.2.2.1 ∧ meth.sig.returnType = M.2.2.2 ∧ s.vm.findClass M.1.cls = some m.cls ∧ (∀ w ∈ zU, w.before args s = true) ∧ meth.locks = false ∧ (M.1.name = "<init>" → meth.name = "<init>") ∧ zG X D cy b0 cs s ∧ d ≤ R.frames ∧ 64 * d ≤ R.locals
def zS (D : va_G) (cy : Nat → ClassId) (b0 : Nat) (cs : Nat → Nat) (s : State) (n : Nat) (h : zH) (H : Heap) (locs : List Loc) (cells : Nat) : Prop :=
  H.size = b0 + n ∧ va_P D vwCl (zWl cy b0 cs n h) H ∧ H.size = s.heap.size + cells ∧ va_S (fun q => b0 ≤ q) s.heap H locs
def zL (b0 : Nat) (cs : Nat → Nat) (ls : Array Slot) (nL : Nat) (L : List Value) : Prop := L.length = nL ∧ ls.size = nL ∧ lv_wf ls ∧ ∀ (i : Nat) (v : Value), L[i]? = some v → v ≠ zu → ls[i]? = some (.val (ztr b0 cs v))
def zend (M : zM) (pc : Nat) (r : Option Value) : Prop :=
  (r = none ∧ M.2.2.2 = none ∧ decode M.2.1 pc = .ok (.return_, 1)) ∨ (∃ v ty, r = some (.int v) ∧ M.2.2.2 = some ty ∧ narrow ty (.int v) = .int v ∧ decode M.2.1 pc = .ok (.ireturn, 1)) ∨ (∃ v, r = some (.long v) ∧ M.2.2.2 = some .long ∧ decode M.2.1 pc = .ok (.lreturn, 1))
abbrev zQ : Type := Option Value → Nat → zH → Prop
/-- THE JUDGEMENT: method M at pc, with locals L, operands S, heap (n, h), room for d frames, k cells, q slots more, comes to its end with Q -/
def zJ (X : zX) (M : zM) (d k q pc : Nat) (L S : List Value) (n : Nat) (h : zH) (Q : zQ) : Prop :=
  ∀ (D : va_G) (cy : Nat → ClassId) (b0 : Nat) (cs : Nat → Nat) (l : Launch) (p : Program) (e : Env) (R : Room) (s : State) (m : MethodId) (args : Array Value) (below : List Frame) (meth : Method) (c : Code) (Qw : State → Prop) (H : Heap) (locs : List Loc) (cells slots : Nat) (ls : Array Slot) (mc ms : Nat),
    zF X M D cy b0 cs p R s m args meth c d → zS D cy b0 cs s n h H locs cells → zL b0 cs ls M.2.2.1 L → cells + k = mc → slots + q ≤ ms → mc ≤ R.cells → ms ≤ R.slots →
    (∀ (r : Option Value) (n' : Nat) (h' : zH) (H' : Heap) (locs' : List Loc) (slots' pc' : Nat) (ls' : Array Slot), Q r n' h' → zS D cy b0 cs s n' h' H' locs' mc → slots' ≤ ms → zend M pc' r → W p l e R s m args below meth c H' locs' mc slots' Qw (F0 m pc' ls' r.toList)) →
    W p l e R s m args below meth c H locs cells slots Qw (F0 m pc ls (S.map (ztr b0 cs)))
end
section
theorem z_iadd {X : zX} {M : zM} {d k q pc : Nat} {L S : List Value} {n : Nat} {h : zH} {Q : zQ} {x y : Int32} (hd : decode M.2.1 pc = .ok (.iadd, 1))  (kk : zJ X M d k q (pc + 1) L (.int (x + y) :: S) n h Q) : zJ X M d k q pc L (.int y :: .int x :: S) n h Q := by
  intro D cy b0 cs l p e R s m args below meth c Qw H locs cells slots ls mc ms hF hS hL h1 h2 h3 h4 hf
  exact lv_iadd hF.1 hF.2.1 hd  (kk D cy b0 cs l p e R s m args below meth c Qw H locs cells slots ls mc ms hF hS hL h1 h2 h3 h4 hf)
theorem z_isub {X : zX} {M : zM} {d k q pc : Nat} {L S : List Value} {n : Nat} {h : zH} {Q : zQ} {x y : Int32} (hd : decode M.2.1 pc = .ok (.isub, 1))  (kk : zJ X M d k q (pc + 1) L (.int (x - y) :: S) n h Q) : zJ X M d k q pc L (.int y :: .int x :: S) n h Q := by
  intro D cy b0 cs l p e R s m args below meth c Qw H locs cells slots ls mc ms hF hS hL h1 h2 h3 h4 hf
  exact lv_isub hF.1 hF.2.1 hd  (kk D cy b0 cs l p e R s m args below meth c Qw H locs cells slots ls mc ms hF hS hL h1 h2 h3 h4 hf)
theorem z_imul {X : zX} {M : zM} {d k q pc : Nat} {L S : List Value} {n : Nat} {h : zH} {Q : zQ} {x y : Int32} (hd : decode M.2.1 pc = .ok (.imul, 1))  (kk : zJ X M d k q (pc + 1) L (.int (x * y) :: S) n h Q) : zJ X M d k q pc L (.int y :: .int x :: S) n h Q := by
  intro D cy b0 cs l p e R s m args below meth c Qw H locs cells slots ls mc ms hF hS hL h1 h2 h3 h4 hf
  exact lv_imul hF.1 hF.2.1 hd  (kk D cy b0 cs l p e R s m args below meth c Qw H locs cells slots ls mc ms hF hS hL h1 h2 h3 h4 hf)
theorem z_iand {X : zX} {M : zM} {d k q pc : Nat} {L S : List Value} {n : Nat} {h : zH} {Q : zQ} {x y : Int32} (hd : decode M.2.1 pc = .ok (.iand, 1))  (kk : zJ X M d k q (pc + 1) L (.int (x &&& y) :: S) n h Q) : zJ X M d k q pc L (.int y :: .int x :: S) n h Q := by
  intro D cy b0 cs l p e R s m args below meth c Qw H locs cells slots ls mc ms hF hS hL h1 h2 h3 h4 hf
  exact lv_iand hF.1 hF.2.1 hd  (kk D cy b0 cs l p e R s m args below meth c Qw H locs cells slots ls mc ms hF hS hL h1 h2 h3 h4 hf)
theorem z_ior {X : zX} {M : zM} {d k q pc : Nat} {L S : List Value} {n : Nat} {h : zH} {Q : zQ} {x y : Int32} (hd : decode M.2.1 pc = .ok (.ior, 1))  (kk : zJ X M d k q (pc + 1) L (.int (x ||| y) :: S) n h Q) : zJ X M d k q pc L (.int y :: .int x :: S) n h Q := by
  intro D cy b0 cs l p e R s m args below meth c Qw H locs cells slots ls mc ms hF hS hL h1 h2 h3 h4 hf
  exact lv_ior hF.1 hF.2.1 hd  (kk D cy b0 cs l p e R s m args below meth c Qw H locs cells slots ls mc ms hF hS hL h1 h2 h3 h4 hf)
theorem z_ixor {X : zX} {M : zM} {d k q pc : Nat} {L S : List Value} {n : Nat} {h : zH} {Q : zQ} {x y : Int32} (hd : decode M.2.1 pc = .ok (.ixor, 1))  (kk : zJ X M d k q (pc + 1) L (.int (x ^^^ y) :: S) n h Q) : zJ X M d k q pc L (.int y :: .int x :: S) n h Q := by
  intro D cy b0 cs l p e R s m args below meth c Qw H locs cells slots ls mc ms hF hS hL h1 h2 h3 h4 hf
  exact lv_ixor hF.1 hF.2.1 hd  (kk D cy b0 cs l p e R s m args below meth c Qw H locs cells slots ls mc ms hF hS hL h1 h2 h3 h4 hf)
theorem z_ishl {X : zX} {M : zM} {d k q pc : Nat} {L S : List Value} {n : Nat} {h : zH} {Q : zQ} {x y : Int32} (hd : decode M.2.1 pc = .ok (.ishl, 1))  (kk : zJ X M d k q (pc + 1) L (.int (x <<< (y &&& 31)) :: S) n h Q) : zJ X M d k q pc L (.int y :: .int x :: S) n h Q := by
  intro D cy b0 cs l p e R s m args below meth c Qw H locs cells slots ls mc ms hF hS hL h1 h2 h3 h4 hf
  exact lv_ishl hF.1 hF.2.1 hd  (kk D cy b0 cs l p e R s m args below meth c Qw H locs cells slots ls mc ms hF hS hL h1 h2 h3 h4 hf)
theorem z_ishr {X : zX} {M : zM} {d k q pc : Nat} {L S : List Value} {n : Nat} {h : zH} {Q : zQ} {x y : Int32} (hd : decode M.2.1 pc = .ok (.ishr, 1))  (kk : zJ X M d k q (pc + 1) L (.int (x >>> (y &&& 31)) :: S) n h Q) : zJ X M d k q pc L (.int y :: .int x :: S) n h Q := by
  intro D cy b0 cs l p e R s m args below meth c Qw H locs cells slots ls mc ms hF hS hL h1 h2 h3 h4 hf
  exact lv_ishr hF.1 hF.2.1 hd  (kk D cy b0 cs l p e R s m args below meth c Qw H locs cells slots ls mc ms hF hS hL h1 h2 h3 h4 hf)
theorem z_idiv {X : zX} {M : zM} {d k q pc : Nat} {L S : List Value} {n : Nat} {h : zH} {Q : zQ} {x y : Int32} (hd : decode M.2.1 pc = .ok (.idiv, 1)) (hne : ¬ y = 0) (kk : zJ X M d k q (pc + 1) L (.int (x / y) :: S) n h Q) : zJ X M d k q pc L (.int y :: .int x :: S) n h Q := by
  intro D cy b0 cs l p e R s m args below meth c Qw H locs cells slots ls mc ms hF hS hL h1 h2 h3 h4 hf
  exact lv_idiv hF.1 hF.2.1 hd hne (kk D cy b0 cs l p e R s m args below meth c Qw H locs cells slots ls mc ms hF hS hL h1 h2 h3 h4 hf)
theorem z_irem {X : zX} {M : zM} {d k q pc : Nat} {L S : List Value} {n : Nat} {h : zH} {Q : zQ} {x y : Int32} (hd : decode M.2.1 pc = .ok (.irem, 1)) (hne : ¬ y = 0) (kk : zJ X M d k q (pc + 1) L (.int (x - x / y * y) :: S) n h Q) : zJ X M d k q pc L (.int y :: .int x :: S) n h Q := by
  intro D cy b0 cs l p e R s m args below meth c Qw H locs cells slots ls mc ms hF hS hL h1 h2 h3 h4 hf
  exact lv_irem hF.1 hF.2.1 hd hne (kk D cy b0 cs l p e R s m args below meth c Qw H locs cells slots ls mc ms hF hS hL h1 h2 h3 h4 hf)
theorem z_ladd {X : zX} {M : zM} {d k q pc : Nat} {L S : List Value} {n : Nat} {h : zH} {Q : zQ} {x y : Int64} (hd : decode M.2.1 pc = .ok (.ladd, 1))  (kk : zJ X M d k q (pc + 1) L (.long (x + y) :: S) n h Q) : zJ X M d k q pc L (.long y :: .long x :: S) n h Q := by
  intro D cy b0 cs l p e R s m args below meth c Qw H locs cells slots ls mc ms hF hS hL h1 h2 h3 h4 hf
  exact lv_ladd hF.1 hF.2.1 hd  (kk D cy b0 cs l p e R s m args below meth c Qw H locs cells slots ls mc ms hF hS hL h1 h2 h3 h4 hf)
theorem z_lsub {X : zX} {M : zM} {d k q pc : Nat} {L S : List Value} {n : Nat} {h : zH} {Q : zQ} {x y : Int64} (hd : decode M.2.1 pc = .ok (.lsub, 1))  (kk : zJ X M d k q (pc + 1) L (.long (x - y) :: S) n h Q) : zJ X M d k q pc L (.long y :: .long x :: S) n h Q := by
  intro D cy b0 cs l p e R s m args below meth c Qw H locs cells slots ls mc ms hF hS hL h1 h2 h3 h4 hf
  exact lv_lsub hF.1 hF.2.1 hd  (kk D cy b0 cs l p e R s m args below meth c Qw H locs cells slots ls mc ms hF hS hL h1 h2 h3 h4 hf)
theorem z_lmul {X : zX} {M : zM} {d k q pc : Nat} {L S : List Value} {n : Nat} {h : zH} {Q : zQ} {x y : Int64} (hd : decode M.2.1 pc = .ok (.lmul, 1))  (kk : zJ X M d k q (pc + 1) L (.long (x * y) :: S) n h Q) : zJ X M d k q pc L (.long y :: .long x :: S) n h Q := by
  intro D cy b0 cs l p e R s m args below meth c Qw H locs cells slots ls mc ms hF hS hL h1 h2 h3 h4 hf
  exact lv_lmul hF.1 hF.2.1 hd  (kk D cy b0 cs l p e R s m args below meth c Qw H locs cells slots ls mc ms hF hS hL h1 h2 h3 h4 hf)
theorem z_land {X : zX} {M : zM} {d k q pc : Nat} {L S : List Value} {n : Nat} {h : zH} {Q : zQ} {x y : Int64} (hd : decode M.2.1 pc = .ok (.land, 1))  (kk : zJ X M d k q (pc + 1) L (.long (x &&& y) :: S) n h Q) : zJ X M d k q pc L (.long y :: .long x :: S) n h Q := by
  intro D cy b0 cs l p e R s m args below meth c Qw H locs cells slots ls mc ms hF hS hL h1 h2 h3 h4 hf
  exact lv_land hF.1 hF.2.1 hd  (kk D cy b0 cs l p e R s m args below meth c Qw H locs cells slots ls mc ms hF hS hL h1 h2 h3 h4 hf)
theorem z_lor {X : zX} {M : zM} {d k q pc : Nat} {L S : List Value} {n : Nat} {h : zH} {Q : zQ} {x y : Int64} (hd : decode M.2.1 pc = .ok (.lor, 1))  (kk : zJ X M d k q (pc + 1) L (.long (x ||| y) :: S) n h Q) : zJ X M d k q pc L (.long y :: .long x :: S) n h Q := by
  intro D cy b0 cs l p e R s m args below meth c Qw H locs cells slots ls mc ms hF hS hL h1 h2 h3 h4 hf
  exact lv_lor hF.1 hF.2.1 hd  (kk D cy b0 cs l p e R s m args below meth c Qw H locs cells slots ls mc ms hF hS hL h1 h2 h3 h4 hf)
theorem z_ldiv {X : zX} {M : zM} {d k q pc : Nat} {L S : List Value} {n : Nat} {h : zH} {Q : zQ} {x y : Int64} (hd : decode M.2.1 pc = .ok (.ldiv, 1)) (hne : ¬ y = 0) (kk : zJ X M d k q (pc + 1) L (.long (x / y) :: S) n h Q) : zJ X M d k q pc L (.long y :: .long x :: S) n h Q := by
  intro D cy b0 cs l p e R s m args below meth c Qw H locs cells slots ls mc ms hF hS hL h1 h2 h3 h4 hf
  exact lv_ldiv hF.1 hF.2.1 hd hne (kk D cy b0 cs l p e R s m args below meth c Qw H locs cells slots ls mc ms hF hS hL h1 h2 h3 h4 hf)
theorem z_lrem {X : zX} {M : zM} {d k q pc : Nat} {L S : List Value} {n : Nat} {h : zH} {Q : zQ} {x y : Int64} (hd : decode M.2.1 pc = .ok (.lrem, 1)) (hne : ¬ y = 0) (kk : zJ X M d k q (pc + 1) L (.long (x - x / y * y) :: S) n h Q) : zJ X M d k q pc L (.long y :: .long x :: S) n h Q := by
  intro D cy b0 cs l p e R s m args below meth c Qw H locs cells slots ls mc ms hF hS hL h1 h2 h3 h4 hf
  exact lv_lrem hF.1 hF.2.1 hd hne (kk D cy b0 cs l p e R s m args below meth c Qw H locs cells slots ls mc ms hF hS hL h1 h2 h3 h4 hf)
theorem z_ineg {X : zX} {M : zM} {d k q pc : Nat} {L S : List Value} {n : Nat} {h : zH} {Q : zQ} {x : Int32} (hd : decode M.2.1 pc = .ok (.ineg, 1))  (kk : zJ X M d k q (pc + 1) L (.int (-x) :: S) n h Q) : zJ X M d k q pc L (.int x :: S) n h Q := by
  intro D cy b0 cs l p e R s m args below meth c Qw H locs cells slots ls mc ms hF hS hL h1 h2 h3 h4 hf
  exact lv_ineg hF.1 hF.2.1 hd  (kk D cy b0 cs l p e R s m args below meth c Qw H locs cells slots ls mc ms hF hS hL h1 h2 h3 h4 hf)
theorem z_i2l {X : zX} {M : zM} {d k q pc : Nat} {L S : List Value} {n : Nat} {h : zH} {Q : zQ} {x : Int32} (hd : decode M.2.1 pc = .ok (.i2l, 1))  (kk : zJ X M d k q (pc + 1) L (.long x.toInt64 :: S) n h Q) : zJ X M d k q pc L (.int x :: S) n h Q := by
  intro D cy b0 cs l p e R s m args below meth c Qw H locs cells slots ls mc ms hF hS hL h1 h2 h3 h4 hf
  exact lv_i2l hF.1 hF.2.1 hd rfl (kk D cy b0 cs l p e R s m args below meth c Qw H locs cells slots ls mc ms hF hS hL h1 h2 h3 h4 hf)
theorem z_l2i {X : zX} {M : zM} {d k q pc : Nat} {L S : List Value} {n : Nat} {h : zH} {Q : zQ} {x : Int64} (hd : decode M.2.1 pc = .ok (.l2i, 1))  (kk : zJ X M d k q (pc + 1) L (.int x.toInt32 :: S) n h Q) : zJ X M d k q pc L (.long x :: S) n h Q := by
  intro D cy b0 cs l p e R s m args below meth c Qw H locs cells slots ls mc ms hF hS hL h1 h2 h3 h4 hf
  exact lv_l2i hF.1 hF.2.1 hd rfl (kk D cy b0 cs l p e R s m args below meth c Qw H locs cells slots ls mc ms hF hS hL h1 h2 h3 h4 hf)
theorem z_iushr {X : zX} {M : zM} {d k q pc : Nat} {L S : List Value} {n : Nat} {h : zH} {Q : zQ} {x y : Int32} (hd : decode M.2.1 pc = .ok (.iushr, 1))  (kk : zJ X M d k q (pc + 1) L (.int (x.toUInt32 >>> (y.toUInt32 &&& Int32.toUInt32 31)).toInt32 :: S) n h Q) : zJ X M d k q pc L (.int y :: .int x :: S) n h Q := by
  intro D cy b0 cs l p e R s m args below meth c Qw H locs cells slots ls mc ms hF hS hL h1 h2 h3 h4 hf
  exact lv_iushr hF.1 hF.2.1 hd rfl (kk D cy b0 cs l p e R s m args below meth c Qw H locs cells slots ls mc ms hF hS hL h1 h2 h3 h4 hf)
theorem z_lushr {X : zX} {M : zM} {d k q pc : Nat} {L S : List Value} {n : Nat} {h : zH} {Q : zQ} {x : Int64} {y : Int32} (hd : decode M.2.1 pc = .ok (.lushr, 1))  (kk : zJ X M d k q (pc + 1) L (.long (x.toUInt64 >>> (y.toInt64.toUInt64 &&& Int64.toUInt64 63)).toInt64 :: S) n h Q) : zJ X M d k q pc L (.int y :: .long x :: S) n h Q := by
  intro D cy b0 cs l p e R s m args below meth c Qw H locs cells slots ls mc ms hF hS hL h1 h2 h3 h4 hf
  exact lv_lushr hF.1 hF.2.1 hd rfl (kk D cy b0 cs l p e R s m args below meth c Qw H locs cells slots ls mc ms hF hS hL h1 h2 h3 h4 hf)
theorem z_lshl {X : zX} {M : zM} {d k q pc : Nat} {L S : List Value} {n : Nat} {h : zH} {Q : zQ} {x : Int64} {y : Int32} (hd : decode M.2.1 pc = .ok (.lshl, 1))  (kk : zJ X M d k q (pc + 1) L (.long (x <<< (y.toInt64 &&& 63)) :: S) n h Q) : zJ X M d k q pc L (.int y :: .long x :: S) n h Q := by
  intro D cy b0 cs l p e R s m args below meth c Qw H locs cells slots ls mc ms hF hS hL h1 h2 h3 h4 hf
  exact lv_lshl hF.1 hF.2.1 hd rfl (kk D cy b0 cs l p e R s m args below meth c Qw H locs cells slots ls mc ms hF hS hL h1 h2 h3 h4 hf)
theorem z_lcmp {X : zX} {M : zM} {d k q pc : Nat} {L S : List Value} {n : Nat} {h : zH} {Q : zQ} {x y : Int64} (hd : decode M.2.1 pc = .ok (.lcmp, 1))  (kk : zJ X M d k q (pc + 1) L (.int (lg_cmp x y) :: S) n h Q) : zJ X M d k q pc L (.long y :: .long x :: S) n h Q := by
  intro D cy b0 cs l p e R s m args below meth c Qw H locs cells slots ls mc ms hF hS hL h1 h2 h3 h4 hf
  exact W.lcmp hF.1 hF.2.1 hd  (kk D cy b0 cs l p e R s m args below meth c Qw H locs cells slots ls mc ms hF hS hL h1 h2 h3 h4 hf)
theorem z_iconst {X : zX} {M : zM} {d k q pc : Nat} {L S : List Value} {n : Nat} {h : zH} {Q : zQ} {z : Int} {v : Int32} (hd : decode M.2.1 pc = .ok (.iconst z, 1)) (hv : Int32.ofInt z = v) (kk : zJ X M d k q (pc + 1) L (.int v :: S) n h Q) : zJ X M d k q pc L S n h Q := by
  intro D cy b0 cs l p e R s m args below meth c Qw H locs cells slots ls mc ms hF hS hL h1 h2 h3 h4 hf
  exact lv_iconst hF.1 hF.2.1 hd hv (kk D cy b0 cs l p e R s m args below meth c Qw H locs cells slots ls mc ms hF hS hL h1 h2 h3 h4 hf)
theorem z_bipush {X : zX} {M : zM} {d k q pc : Nat} {L S : List Value} {n : Nat} {h : zH} {Q : zQ} {z : Int} {v : Int32} (hd : decode M.2.1 pc = .ok (.bipush z, 2)) (hv : (Int8.ofInt z).toInt32 = v) (kk : zJ X M d k q (pc + 2) L (.int v :: S) n h Q) : zJ X M d k q pc L S n h Q := by
  intro D cy b0 cs l p e R s m args below meth c Qw H locs cells slots ls mc ms hF hS hL h1 h2 h3 h4 hf
  exact lv_bipush hF.1 hF.2.1 hd hv (kk D cy b0 cs l p e R s m args below meth c Qw H locs cells slots ls mc ms hF hS hL h1 h2 h3 h4 hf)
theorem z_sipush {X : zX} {M : zM} {d k q pc : Nat} {L S : List Value} {n : Nat} {h : zH} {Q : zQ} {z : Int} {v : Int32} (hd : decode M.2.1 pc = .ok (.sipush z, 3)) (hv : (Int16.ofInt z).toInt32 = v) (kk : zJ X M d k q (pc + 3) L (.int v :: S) n h Q) : zJ X M d k q pc L S n h Q := by
  intro D cy b0 cs l p e R s m args below meth c Qw H locs cells slots ls mc ms hF hS hL h1 h2 h3 h4 hf
  exact lv_sipush hF.1 hF.2.1 hd hv (kk D cy b0 cs l p e R s m args below meth c Qw H locs cells slots ls mc ms hF hS hL h1 h2 h3 h4 hf)
theorem z_lconst {X : zX} {M : zM} {d k q pc : Nat} {L S : List Value} {n : Nat} {h : zH} {Q : zQ} {z : Fin 2} {v : Int64} (hd : decode M.2.1 pc = .ok (.lconst z, 1)) (hv : Int64.ofNat (z : Nat) = v) (kk : zJ X M d k q (pc + 1) L (.long v :: S) n h Q) : zJ X M d k q pc L S n h Q := by
  intro D cy b0 cs l p e R s m args below meth c Qw H locs cells slots ls mc ms hF hS hL h1 h2 h3 h4 hf
  exact lv_lconst hF.1 hF.2.1 hd hv (kk D cy b0 cs l p e R s m args below meth c Qw H locs cells slots ls mc ms hF hS hL h1 h2 h3 h4 hf)
theorem z_dup {X : zX} {M : zM} {d k q pc : Nat} {L S : List Value} {n : Nat} {h : zH} {Q : zQ} {va : Value} (hd : decode M.2.1 pc = .ok (.dup, 1)) (hva : va.category = 1) (kk : zJ X M d k q (pc + 1) L (va :: va :: S) n h Q) : zJ X M d k q pc L (va :: S) n h Q := by
  intro D cy b0 cs l p e R s m args below meth c Qw H locs cells slots ls mc ms hF hS hL h1 h2 h3 h4 hf
  exact lv_dup hF.1 hF.2.1 hd (by rw [ztr_cat]; exact hva) (kk D cy b0 cs l p e R s m args below meth c Qw H locs cells slots ls mc ms hF hS hL h1 h2 h3 h4 hf)
theorem z_pop {X : zX} {M : zM} {d k q pc : Nat} {L S : List Value} {n : Nat} {h : zH} {Q : zQ} {va : Value} (hd : decode M.2.1 pc = .ok (.pop, 1)) (hva : va.category = 1) (kk : zJ X M d k q (pc + 1) L S n h Q) : zJ X M d k q pc L (va :: S) n h Q := by
  intro D cy b0 cs l p e R s m args below meth c Qw H locs cells slots ls mc ms hF hS hL h1 h2 h3 h4 hf
  exact lv_pop hF.1 hF.2.1 hd (by rw [ztr_cat]; exact hva) (kk D cy b0 cs l p e R s m args below meth c Qw H locs cells slots ls mc ms hF hS hL h1 h2 h3 h4 hf)
theorem z_dup2 {X : zX} {M : zM} {d k q pc : Nat} {L S : List Value} {n : Nat} {h : zH} {Q : zQ} {va vb : Value} (hd : decode M.2.1 pc = .ok (.dup2, 1)) (hva : va.category = 1) (hvb : vb.category = 1) (kk : zJ X M d k q (pc + 1) L (va :: vb :: va :: vb :: S) n h Q) : zJ X M d k q pc L (va :: vb :: S) n h Q := by
  intro D cy b0 cs l p e R s m args below meth c Qw H locs cells slots ls mc ms hF hS hL h1 h2 h3 h4 hf
  exact lv_dup2_11 hF.1 hF.2.1 hd (by rw [ztr_cat]; exact hva) (by rw [ztr_cat]; exact hvb) (kk D cy b0 cs l p e R s m args below meth c Qw H locs cells slots ls mc ms hF hS hL h1 h2 h3 h4 hf)
theorem z_if_eq {X : zX} {M : zM} {d k q pc : Nat} {L S : List Value} {n : Nat} {h : zH} {Q : zQ} {x : Int32} {off : Int} {tgt : Nat} (hd : decode M.2.1 pc = .ok (.ifCond .eq off, 3)) (ht : (pc : Int) + off = (tgt : Int)) (kt : x = 0 → zJ X M d k q tgt L S n h Q) (kf : ¬ (x = 0) → zJ X M d k q (pc + 3) L S n h Q) : zJ X M d k q pc L (.int x :: S) n h Q := by
  intro D cy b0 cs l p e R s m args below meth c Qw H locs cells slots ls mc ms hF hS hL h1 h2 h3 h4 hf
  exact lv_if_eq hF.1 hF.2.1 hd ht (fun hc => kt hc D cy b0 cs l p e R s m args below meth c Qw H locs cells slots ls mc ms hF hS hL h1 h2 h3 h4 hf) (fun hc => kf hc D cy b0 cs l p e R s m args below meth c Qw H locs cells slots ls mc ms hF hS hL h1 h2 h3 h4 hf)
theorem z_icmp_eq {X : zX} {M : zM} {d k q pc : Nat} {L S : List Value} {n : Nat} {h : zH} {Q : zQ} {x y : Int32} {off : Int} {tgt : Nat} (hd : decode M.2.1 pc = .ok (.if_icmp .eq off, 3)) (ht : (pc : Int) + off = (tgt : Int)) (kt : x = y → zJ X M d k q tgt L S n h Q) (kf : ¬ (x = y) → zJ X M d k q (pc + 3) L S n h Q) : zJ X M d k q pc L (.int y :: .int x :: S) n h Q := by
  intro D cy b0 cs l p e R s m args below meth c Qw H locs cells slots ls mc ms hF hS hL h1 h2 h3 h4 hf
  exact lv_icmp_eq hF.1 hF.2.1 hd ht (fun hc => kt hc D cy b0 cs l p e R s m args below meth c Qw H locs cells slots ls mc ms hF hS hL h1 h2 h3 h4 hf) (fun hc => kf hc D cy b0 cs l p e R s m args below meth c Qw H locs cells slots ls mc ms hF hS hL h1 h2 h3 h4 hf)
theorem z_if_ne {X : zX} {M : zM} {d k q pc : Nat} {L S : List Value} {n : Nat} {h : zH} {Q : zQ} {x : Int32} {off : Int} {tgt : Nat} (hd : decode M.2.1 pc = .ok (.ifCond .ne off, 3)) (ht : (pc : Int) + off = (tgt : Int)) (kt : ¬ x = 0 → zJ X M d k q tgt L S n h Q) (kf : x = 0 → zJ X M d k q (pc + 3) L S n h Q) : zJ X M d k q pc L (.int x :: S) n h Q := by
  intro D cy b0 cs l p e R s m args below meth c Qw H locs cells slots ls mc ms hF hS hL h1 h2 h3 h4 hf
  exact lv_if_ne hF.1 hF.2.1 hd ht (fun hc => kt hc D cy b0 cs l p e R s m args below meth c Qw H locs cells slots ls mc ms hF hS hL h1 h2 h3 h4 hf) (fun hc => kf hc D cy b0 cs l p e R s m args below meth c Qw H locs cells slots ls mc ms hF hS hL h1 h2 h3 h4 hf)
theorem z_icmp_ne {X : zX} {M : zM} {d k q pc : Nat} {L S : List Value} {n : Nat} {h : zH} {Q : zQ} {x y : Int32} {off : Int} {tgt : Nat} (hd : decode M.2.1 pc = .ok (.if_icmp .ne off, 3)) (ht : (pc : Int) + off = (tgt : Int)) (kt : ¬ x = y → zJ X M d k q tgt L S n h Q) (kf : x = y → zJ X M d k q (pc + 3) L S n h Q) : zJ X M d k q pc L (.int y :: .int x :: S) n h Q := by
  intro D cy b0 cs l p e R s m args below meth c Qw H locs cells slots ls mc ms hF hS hL h1 h2 h3 h4 hf
  exact lv_icmp_ne hF.1 hF.2.1 hd ht (fun hc => kt hc D cy b0 cs l p e R s m args below meth c Qw H locs cells slots ls mc ms hF hS hL h1 h2 h3 h4 hf) (fun hc => kf hc D cy b0 cs l p e R s m args below meth c Qw H locs cells slots ls mc ms hF hS hL h1 h2 h3 h4 hf)
theorem z_if_lt {X : zX} {M : zM} {d k q pc : Nat} {L S : List Value} {n : Nat} {h : zH} {Q : zQ} {x : Int32} {off : Int} {tgt : Nat} (hd : decode M.2.1 pc = .ok (.ifCond .lt off, 3)) (ht : (pc : Int) + off = (tgt : Int)) (kt : x < 0 → zJ X M d k q tgt L S n h Q) (kf : ¬ (x < 0) → zJ X M d k q (pc + 3) L S n h Q) : zJ X M d k q pc L (.int x :: S) n h Q := by
  intro D cy b0 cs l p e R s m args below meth c Qw H locs cells slots ls mc ms hF hS hL h1 h2 h3 h4 hf
  exact lv_if_lt hF.1 hF.2.1 hd ht (fun hc => kt hc D cy b0 cs l p e R s m args below meth c Qw H locs cells slots ls mc ms hF hS hL h1 h2 h3 h4 hf) (fun hc => kf hc D cy b0 cs l p e R s m args below meth c Qw H locs cells slots ls mc ms hF hS hL h1 h2 h3 h4 hf)
theorem z_icmp_lt {X : zX} {M : zM} {d k q pc : Nat} {L S : List Value} {n : Nat} {h : zH} {Q : zQ} {x y : Int32} {off : Int} {tgt : Nat} (hd : decode M.2.1 pc = .ok (.if_icmp .lt off, 3)) (ht : (pc : Int) + off = (tgt : Int)) (kt : x < y → zJ X M d k q tgt L S n h Q) (kf : ¬ (x < y) → zJ X M d k q (pc + 3) L S n h Q) : zJ X M d k q pc L (.int y :: .int x :: S) n h Q := by
  intro D cy b0 cs l p e R s m args below meth c Qw H locs cells slots ls mc ms hF hS hL h1 h2 h3 h4 hf
  exact lv_icmp_lt hF.1 hF.2.1 hd ht (fun hc => kt hc D cy b0 cs l p e R s m args below meth c Qw H locs cells slots ls mc ms hF hS hL h1 h2 h3 h4 hf) (fun hc => kf hc D cy b0 cs l p e R s m args below meth c Qw H locs cells slots ls mc ms hF hS hL h1 h2 h3 h4 hf)
theorem z_if_ge {X : zX} {M : zM} {d k q pc : Nat} {L S : List Value} {n : Nat} {h : zH} {Q : zQ} {x : Int32} {off : Int} {tgt : Nat} (hd : decode M.2.1 pc = .ok (.ifCond .ge off, 3)) (ht : (pc : Int) + off = (tgt : Int)) (kt : 0 ≤ x → zJ X M d k q tgt L S n h Q) (kf : ¬ (0 ≤ x) → zJ X M d k q (pc + 3) L S n h Q) : zJ X M d k q pc L (.int x :: S) n h Q := by
  intro D cy b0 cs l p e R s m args below meth c Qw H locs cells slots ls mc ms hF hS hL h1 h2 h3 h4 hf
  exact lv_if_ge hF.1 hF.2.1 hd ht (fun hc => kt hc D cy b0 cs l p e R s m args below meth c Qw H locs cells slots ls mc ms hF hS hL h1 h2 h3 h4 hf) (fun hc => kf hc D cy b0 cs l p e R s m args below meth c Qw H locs cells slots ls mc ms hF hS hL h1 h2 h3 h4 hf)
theorem z_icmp_ge {X : zX} {M : zM} {d k q pc : Nat} {L S : List Value} {n : Nat} {h : zH} {Q : zQ} {x y : Int32} {off : Int} {tgt : Nat} (hd : decode M.2.1 pc = .ok (.if_icmp .ge off, 3)) (ht : (pc : Int) + off = (tgt : Int)) (kt : y ≤ x → zJ X M d k q tgt L S n h Q) (kf : ¬ (y ≤ x) → zJ X M d k q (pc + 3) L S n h Q) : zJ X M d k q pc L (.int y :: .int x :: S) n h Q := by
  intro D cy b0 cs l p e R s m args below meth c Qw H locs cells slots ls mc ms hF hS hL h1 h2 h3 h4 hf
  exact lv_icmp_ge hF.1 hF.2.1 hd ht (fun hc => kt hc D cy b0 cs l p e R s m args below meth c Qw H locs cells slots ls mc ms hF hS hL h1 h2 h3 h4 hf) (fun hc => kf hc D cy b0 cs l p e R s m args below meth c Qw H locs cells slots ls mc ms hF hS hL h1 h2 h3 h4 hf)
theorem z_if_gt {X : zX} {M : zM} {d k q pc : Nat} {L S : List Value} {n : Nat} {h : zH} {Q : zQ} {x : Int32} {off : Int} {tgt : Nat} (hd : decode M.2.1 pc = .ok (.ifCond .gt off, 3)) (ht : (pc : Int) + off = (tgt : Int)) (kt : 0 < x → zJ X M d k q tgt L S n h Q) (kf : ¬ (0 < x) → zJ X M d k q (pc + 3) L S n h Q) : zJ X M d k q pc L (.int x :: S) n h Q := by
  intro D cy b0 cs l p e R s m args below meth c Qw H locs cells slots ls mc ms hF hS hL h1 h2 h3 h4 hf
  exact lv_if_gt hF.1 hF.2.1 hd ht (fun hc => kt hc D cy b0 cs l p e R s m args below meth c Qw H locs cells slots ls mc ms hF hS hL h1 h2 h3 h4 hf) (fun hc => kf hc D cy b0 cs l p e R s m args below meth c Qw H locs cells slots ls mc ms hF hS hL h1 h2 h3 h4 hf)
theorem z_icmp_gt {X : zX} {M : zM} {d k q pc : Nat} {L S : List Value} {n : Nat} {h : zH} {Q : zQ} {x y : Int32} {off : Int} {tgt : Nat} (hd : decode M.2.1 pc = .ok (.if_icmp .gt off, 3)) (ht : (pc : Int) + off = (tgt : Int)) (kt : y < x → zJ X M d k q tgt L S n h Q) (kf : ¬ (y < x) → zJ X M d k q (pc + 3) L S n h Q) : zJ X M d k q pc L (.int y :: .int x :: S) n h Q := by
  intro D cy b0 cs l p e R s m args below meth c Qw H locs cells slots ls mc ms hF hS hL h1 h2 h3 h4 hf
  exact lv_icmp_gt hF.1 hF.2.1 hd ht (fun hc => kt hc D cy b0 cs l p e R s m args below meth c Qw H locs cells slots ls mc ms hF hS hL h1 h2 h3 h4 hf) (fun hc => kf hc D cy b0 cs l p e R s m args below meth c Qw H locs cells slots ls mc ms hF hS hL h1 h2 h3 h4 hf)
theorem z_if_le {X : zX} {M : zM} {d k q pc : Nat} {L S : List Value} {n : Nat} {h : zH} {Q : zQ} {x : Int32} {off : Int} {tgt : Nat} (hd : decode M.2.1 pc = .ok (.ifCond .le off, 3)) (ht : (pc : Int) + off = (tgt : Int)) (kt : x ≤ 0 → zJ X M d k q tgt L S n h Q) (kf : ¬ (x ≤ 0) → zJ X M d k q (pc + 3) L S n h Q) : zJ X M d k q pc L (.int x :: S) n h Q := by
  intro D cy b0 cs l p e R s m args below meth c Qw H locs cells slots ls mc ms hF hS hL h1 h2 h3 h4 hf
  exact lv_if_le hF.1 hF.2.1 hd ht (fun hc => kt hc D cy b0 cs l p e R s m args below meth c Qw H locs cells slots ls mc ms hF hS hL h1 h2 h3 h4 hf) (fun hc => kf hc D cy b0 cs l p e R s m args below meth c Qw H locs cells slots ls mc ms hF hS hL h1 h2 h3 h4 hf)
theorem z_icmp_le {X : zX} {M : zM} {d k q pc : Nat} {L S : List Value} {n : Nat} {h : zH} {Q : zQ} {x y : Int32} {off : Int} {tgt : Nat} (hd : decode M.2.1 pc = .ok (.if_icmp .le off, 3)) (ht : (pc : Int) + off = (tgt : Int)) (kt : x ≤ y → zJ X M d k q tgt L S n h Q) (kf : ¬ (x ≤ y) → zJ X M d k q (pc + 3) L S n h Q) : zJ X M d k q pc L (.int y :: .int x :: S) n h Q := by
  intro D cy b0 cs l p e R s m args below meth c Qw H locs cells slots ls mc ms hF hS hL h1 h2 h3 h4 hf
  exact lv_icmp_le hF.1 hF.2.1 hd ht (fun hc => kt hc D cy b0 cs l p e R s m args below meth c Qw H locs cells slots ls mc ms hF hS hL h1 h2 h3 h4 hf) (fun hc => kf hc D cy b0 cs l p e R s m args below meth c Qw H locs cells slots ls mc ms hF hS hL h1 h2 h3 h4 hf)
theorem z_goto {X : zX} {M : zM} {d k q pc : Nat} {L S : List Value} {n : Nat} {h : zH} {Q : zQ} {off : Int} {tgt : Nat} (hd : decode M.2.1 pc = .ok (.goto off, 3)) (ht : (pc : Int) + off = (tgt : Int)) (kk : zJ X M d k q tgt L S n h Q) : zJ X M d k q pc L S n h Q := by
  intro D cy b0 cs l p e R s m args below meth c Qw H locs cells slots ls mc ms hF hS hL h1 h2 h3 h4 hf
  exact lv_goto hF.1 hF.2.1 hd ht (kk D cy b0 cs l p e R s m args below meth c Qw H locs cells slots ls mc ms hF hS hL h1 h2 h3 h4 hf)
theorem z_iload {X : zX} {M : zM} {d k q pc : Nat} {L S : List Value} {n : Nat} {h : zH} {Q : zQ} {i : Nat} {x : Int32} (hd : decode M.2.1 pc = .ok (.iload i, 2)) (hx : L[i]? = some (.int x)) (kk : zJ X M d k q (pc + 2) L (.int x :: S) n h Q) : zJ X M d k q pc L S n h Q := by
  intro D cy b0 cs l p e R s m args below meth c Qw H locs cells slots ls mc ms hF hS hL h1 h2 h3 h4 hf
  exact lv_iload hF.1 hF.2.1 hd (hL.2.2.2 i _ hx (by intro z; cases z)) (kk D cy b0 cs l p e R s m args below meth c Qw H locs cells slots ls mc ms hF hS hL h1 h2 h3 h4 hf)
theorem z_iload_n {X : zX} {M : zM} {d k q pc : Nat} {L S : List Value} {n : Nat} {h : zH} {Q : zQ} {i : Fin 4} {x : Int32} (hd : decode M.2.1 pc = .ok (.iload_n i, 1)) (hx : L[(i : Nat)]? = some (.int x)) (kk : zJ X M d k q (pc + 1) L (.int x :: S) n h Q) : zJ X M d k q pc L S n h Q := by
  intro D cy b0 cs l p e R s m args below meth c Qw H locs cells slots ls mc ms hF hS hL h1 h2 h3 h4 hf
  exact lv_iload_n hF.1 hF.2.1 hd rfl (hL.2.2.2 i _ hx (by intro z; cases z)) (kk D cy b0 cs l p e R s m args below meth c Qw H locs cells slots ls mc ms hF hS hL h1 h2 h3 h4 hf)
theorem z_lload {X : zX} {M : zM} {d k q pc : Nat} {L S : List Value} {n : Nat} {h : zH} {Q : zQ} {i : Nat} {x : Int64} (hd : decode M.2.1 pc = .ok (.lload i, 2)) (hx : L[i]? = some (.long x)) (kk : zJ X M d k q (pc + 2) L (.long x :: S) n h Q) : zJ X M d k q pc L S n h Q := by
  intro D cy b0 cs l p e R s m args below meth c Qw H locs cells slots ls mc ms hF hS hL h1 h2 h3 h4 hf
  exact lv_lload hF.1 hF.2.1 hd (hL.2.2.2 i _ hx (by intro z; cases z)) (kk D cy b0 cs l p e R s m args below meth c Qw H locs cells slots ls mc ms hF hS hL h1 h2 h3 h4 hf)
theorem z_lload_n {X : zX} {M : zM} {d k q pc : Nat} {L S : List Value} {n : Nat} {h : zH} {Q : zQ} {i : Fin 4} {x : Int64} (hd : decode M.2.1 pc = .ok (.lload_n i, 1)) (hx : L[(i : Nat)]? = some (.long x)) (kk : zJ X M d k q (pc + 1) L (.long x :: S) n h Q) : zJ X M d k q pc L S n h Q := by
  intro D cy b0 cs l p e R s m args below meth c Qw H locs cells slots ls mc ms hF hS hL h1 h2 h3 h4 hf
  exact lv_lload_n hF.1 hF.2.1 hd rfl (hL.2.2.2 i _ hx (by intro z; cases z)) (kk D cy b0 cs l p e R s m args below meth c Qw H locs cells slots ls mc ms hF hS hL h1 h2 h3 h4 hf)
theorem z_aload {X : zX} {M : zM} {d k q pc : Nat} {L S : List Value} {n : Nat} {h : zH} {Q : zQ} {i x : Nat} (hd : decode M.2.1 pc = .ok (.aload i, 2)) (hx : L[i]? = some (.ref x)) (kk : zJ X M d k q (pc + 2) L (.ref x :: S) n h Q) : zJ X M d k q pc L S n h Q := by
  intro D cy b0 cs l p e R s m args below meth c Qw H locs cells slots ls mc ms hF hS hL h1 h2 h3 h4 hf
  exact lv_aload hF.1 hF.2.1 hd (hL.2.2.2 i _ hx (by intro z; cases z)) (kk D cy b0 cs l p e R s m args below meth c Qw H locs cells slots ls mc ms hF hS hL h1 h2 h3 h4 hf)
theorem z_aload_n {X : zX} {M : zM} {d k q pc : Nat} {L S : List Value} {n : Nat} {h : zH} {Q : zQ} {i : Fin 4} {x : Nat} (hd : decode M.2.1 pc = .ok (.aload_n i, 1)) (hx : L[(i : Nat)]? = some (.ref x)) (kk : zJ X M d k q (pc + 1) L (.ref x :: S) n h Q) : zJ X M d k q pc L S n h Q := by
  intro D cy b0 cs l p e R s m args below meth c Qw H locs cells slots ls mc ms hF hS hL h1 h2 h3 h4 hf
  exact lv_aload_n hF.1 hF.2.1 hd rfl (hL.2.2.2 i _ hx (by intro z; cases z)) (kk D cy b0 cs l p e R s m args below meth c Qw H locs cells slots ls mc ms hF hS hL h1 h2 h3 h4 hf)
end
section
/-- fewer locals known -/
def zsub : List Value → List Value → Prop
  | [], [] => True
  | a :: L, b :: L' => (a = zu ∨ a = b) ∧ zsub L L'
  | _, _ => False
theorem zsub_len : ∀ {L L' : List Value}, zsub L L' → L.length = L'.length
  | [], [], _ => rfl
  | _ :: _, _ :: _, h => congrArg (· + 1) (zsub_len h.2)
  | [], _ :: _, h => h.elim
  | _ :: _, [], h => h.elim
theorem zsub_at : ∀ {L L' : List Value}, zsub L L' → ∀ (i : Nat) (v : Value), L[i]? = some v → v ≠ zu → L'[i]? = some v
  | a :: L, b :: L', h, 0, v, e, hv => by
    simp only [List.getElem?_cons_zero, Option.some.injEq] at e ⊢
    rcases h.1 with h1 | h1
    · exact absurd (e.symm.trans h1) hv
    · exact h1 ▸ e
  | a :: L, b :: L', h, i + 1, v, e, hv => by
    simp only [List.getElem?_cons_succ] at e ⊢
    exact zsub_at h.2 i v e hv
  | [], _, _, i, v, e, _ => by simp at e
  | _ :: _, [], h, _, _, _, _ => h.elim
theorem z_sub {X : zX} {M : zM} {d k q pc : Nat} {L L' S : List Value} {n : Nat} {h : zH} {Q : zQ} (kk : zJ X M d k q pc L S n h Q) (hs : zsub L L') : zJ X M d k q pc L' S n h Q := by
  intro D cy b0 cs l p e R s m args below meth c Qw H locs cells slots ls mc ms hF hS hL h1 h2 h3 h4 hf
  exact kk D cy b0 cs l p e R s m args below meth c Qw H locs cells slots ls mc ms hF hS ⟨(zsub_len hs).trans hL.1, hL.2.1, hL.2.2.1, fun i v e hv => hL.2.2.2 i v (zsub_at hs i v e hv) hv⟩ h1 h2 h3 h4 hf
theorem z_post {X : zX} {M : zM} {d k q pc : Nat} {L S : List Value} {n : Nat} {h : zH} {Q Q' : zQ} (kk : zJ X M d k q pc L S n h Q) (hq : ∀ r n' h', Q r n' h' → Q' r n' h') : zJ X M d k q pc L S n h Q' := by
  intro D cy b0 cs l p e R s m args below meth c Qw H locs cells slots ls mc ms hF hS hL h1 h2 h3 h4 hf
  exact kk D cy b0 cs l p e R s m args below meth c Qw H locs cells slots ls mc ms hF hS hL h1 h2 h3 h4 (fun r n' h' H' locs' slots' pc' ls' hq' => hf r n' h' H' locs' slots' pc' ls' (hq r n' h' hq'))
theorem z_depth {X : zX} {M : zM} {d d' k q pc : Nat} {L S : List Value} {n : Nat} {h : zH} {Q : zQ} (kk : zJ X M d k q pc L S n h Q) (hd : d ≤ d') : zJ X M d' k q pc L S n h Q := by
  intro D cy b0 cs l p e R s m args below meth c Qw H locs cells slots ls mc ms hF hS hL h1 h2 h3 h4 hf
  obtain ⟨f1, f2, f3, f4, f5, f6, f7, f8, f9, f10, f11⟩ := hF
  exact kk D cy b0 cs l p e R s m args below meth c Qw H locs cells slots ls mc ms ⟨f1, f2, f3, f4, f5, f6, f7, f8, f9, Nat.le_trans hd f10, Nat.le_trans (Nat.mul_le_mul_left 64 hd) f11⟩ hS hL h1 h2 h3 h4 hf
def zasc (b0 : Nat) (cs : Nat → Nat) (L : List Value) : List (Nat × Value) := (L.zipIdx.filter (fun q => decide (q.1 ≠ zu))).map (fun q => (q.2, ztr b0 cs q.1))
theorem zasc_mem {b0 : Nat} {cs : Nat → Nat} {L : List Value} {i : Nat} {v : Value} (h : L[i]? = some v) (hv : v ≠ zu) : (i, ztr b0 cs v) ∈ zasc b0 cs L :=
  List.mem_map.mpr ⟨(v, i), List.mem_filter.mpr ⟨List.mem_zipIdx_iff_getElem?.mpr h, decide_eq_true hv⟩, rfl⟩
theorem zL.has {b0 : Nat} {cs : Nat → Nat} {ls : Array Slot} {nL : Nat} {L : List Value} (hL : zL b0 cs ls nL L) : lv_has ls nL (zasc b0 cs L) := by
  refine ⟨hL.2.1, hL.2.2.1, fun q hq => ?_⟩
  obtain ⟨⟨v, i⟩, hm, rfl⟩ := List.mem_map.mp hq
  obtain ⟨h1, h2⟩ := List.mem_filter.mp hm
  exact hL.2.2.2 i v (List.mem_zipIdx_iff_getElem?.mp h1) (of_decide_eq_true h2)
theorem zL.st1 {b0 : Nat} {cs : Nat → Nat} {ls ls' : Array Slot} {nL i : Nat} {L : List Value} {v : Value} (hL : zL b0 cs ls nL L) (hi : i < L.length) (hk : ∀ j w, j + 1 = i → L[j]? = some w → w.category = 1)
    (h' : lv_has ls' nL ((i, ztr b0 cs v) :: (zasc b0 cs L).filter (fun q => !(q.1 == i) && !(q.1 + 1 == i && q.2.category == 2)))) : zL b0 cs ls' nL (L.set i v) := by
  refine ⟨by rw [List.length_set]; exact hL.1, h'.1, h'.2.1, fun j w hj hw => ?_⟩
  by_cases hji : j = i
  · subst hji
    rw [List.getElem?_set_self hi] at hj
    cases hj
    exact h'.2.2 _ List.mem_cons_self
  · rw [List.getElem?_set_ne (Ne.symm hji)] at hj
    refine h'.2.2 (j, ztr b0 cs w) (List.mem_cons_of_mem _ (List.mem_filter.mpr ⟨zasc_mem hj hw, ?_⟩))
    by_cases hj1 : j + 1 = i
    · have := hk j w hj1 hj
      simp [hji, ztr_cat, this]
    · simp [hji, hj1]
theorem zL.st2 {b0 : Nat} {cs : Nat → Nat} {ls ls' : Array Slot} {nL i : Nat} {L : List Value} {v : Value} (hL : zL b0 cs ls nL L) (hi : i + 1 < L.length) (hk : ∀ j w, j + 1 = i → L[j]? = some w → w.category = 1)
    (h' : lv_has ls' nL ((i, ztr b0 cs v) :: (zasc b0 cs L).filter (fun q => !(q.1 == i) && (!(q.1 == i + 1) && !(q.1 + 1 == i && q.2.category == 2))))) : zL b0 cs ls' nL ((L.set i v).set (i + 1) zu) := by
  refine ⟨by rw [List.length_set, List.length_set]; exact hL.1, h'.1, h'.2.1, fun j w hj hw => ?_⟩
  by_cases hj2 : j = i + 1
  · subst hj2
    rw [List.getElem?_set_self (by rw [List.length_set]; exact hi)] at hj
    cases hj
    exact absurd rfl hw
  rw [List.getElem?_set_ne (Ne.symm hj2)] at hj
  by_cases hji : j = i
  · subst hji
    rw [List.getElem?_set_self (by omega)] at hj
    cases hj
    exact h'.2.2 _ List.mem_cons_self
  · rw [List.getElem?_set_ne (Ne.symm hji)] at hj
    refine h'.2.2 (j, ztr b0 cs w) (List.mem_cons_of_mem _ (List.mem_filter.mpr ⟨zasc_mem hj hw, ?_⟩))
    by_cases hj1 : j + 1 = i
    · have := hk j w hj1 hj
      simp [hji, hj2, ztr_cat, this]
    · simp [hji, hj1, hj2]
theorem z_istore0 {X : zX} {M : zM} {d k q pc : Nat} {L S : List Value} {n : Nat} {h : zH} {Q : zQ} {x : Value} {v : Int32} (hd : decode M.2.1 pc = .ok (.istore_n 0, 1)) (kk : zJ X M d k q (pc + 1) (.int v :: L) S n h Q) : zJ X M d k q pc (x :: L) (.int v :: S) n h Q := by
  intro D cy b0 cs l p e R s m args below meth c Qw H locs cells slots ls mc ms hF hS hL h1 h2 h3 h4 hf
  refine lv_istore_n hF.1 hF.2.1 hd rfl hL.has (show 0 < M.2.2.1 by rw [← hL.1]; simp) rfl (fun ls1 hl => ?_)
  have hk0 : ∀ (j : Nat) (w : Value), j + 1 = 0 → (x :: L)[j]? = some w → w.category = 1 := fun j w e _ => by omega
  have hL1 := hL.st1 (i := 0) (v := .int v) (by simp) hk0 hl
  exact kk D cy b0 cs l p e R s m args below meth c Qw H locs cells slots ls1 mc ms hF hS hL1 h1 h2 h3 h4 hf
theorem z_istore1 {X : zX} {M : zM} {d k q pc : Nat} {L S : List Value} {n : Nat} {h : zH} {Q : zQ} {x0 x : Value} {v : Int32} (hd : decode M.2.1 pc = .ok (.istore_n 1, 1)) (hc : x0.category = 1) (kk : zJ X M d k q (pc + 1) (x0 :: .int v :: L) S n h Q) : zJ X M d k q pc (x0 :: x :: L) (.int v :: S) n h Q := by
  intro D cy b0 cs l p e R s m args below meth c Qw H locs cells slots ls mc ms hF hS hL h1 h2 h3 h4 hf
  refine lv_istore_n hF.1 hF.2.1 hd rfl hL.has (show 1 < M.2.2.1 by rw [← hL.1]; simp) rfl (fun ls1 hl => ?_)
  have hk0 : ∀ (j : Nat) (w : Value), j + 1 = 1 → (x0 :: x :: L)[j]? = some w → w.category = 1 := by
    intro j w e1 e2
    obtain rfl : j = 0 := by omega
    cases e2
    exact hc
  have hL1 := hL.st1 (i := 1) (v := .int v) (by simp) hk0 hl
  exact kk D cy b0 cs l p e R s m args below meth c Qw H locs cells slots ls1 mc ms hF hS hL1 h1 h2 h3 h4 hf
theorem z_istore2 {X : zX} {M : zM} {d k q pc : Nat} {L S : List Value} {n : Nat} {h : zH} {Q : zQ} {x0 x1 x : Value} {v : Int32} (hd : decode M.2.1 pc = .ok (.istore_n 2, 1)) (hc : x1.category = 1) (kk : zJ X M d k q (pc + 1) (x0 :: x1 :: .int v :: L) S n h Q) : zJ X M d k q pc (x0 :: x1 :: x :: L) (.int v :: S) n h Q := by
  intro D cy b0 cs l p e R s m args below meth c Qw H locs cells slots ls mc ms hF hS hL h1 h2 h3 h4 hf
  refine lv_istore_n hF.1 hF.2.1 hd rfl hL.has (show 2 < M.2.2.1 by rw [← hL.1]; simp) rfl (fun ls1 hl => ?_)
  have hk0 : ∀ (j : Nat) (w : Value), j + 1 = 2 → (x0 :: x1 :: x :: L)[j]? = some w → w.category = 1 := by
    intro j w e1 e2
    obtain rfl : j = 1 := by omega
    cases e2
    exact hc
  have hL1 := hL.st1 (i := 2) (v := .int v) (by simp) hk0 hl
  exact kk D cy b0 cs l p e R s m args below meth c Qw H locs cells slots ls1 mc ms hF hS hL1 h1 h2 h3 h4 hf
theorem z_istore3 {X : zX} {M : zM} {d k q pc : Nat} {L S : List Value} {n : Nat} {h : zH} {Q : zQ} {x0 x1 x2 x : Value} {v : Int32} (hd : decode M.2.1 pc = .ok (.istore_n 3, 1)) (hc : x2.category = 1) (kk : zJ X M d k q (pc + 1) (x0 :: x1 :: x2 :: .int v :: L) S n h Q) : zJ X M d k q pc (x0 :: x1 :: x2 :: x :: L) (.int v :: S) n h Q := by
  intro D cy b0 cs l p e R s m args below meth c Qw H locs cells slots ls mc ms hF hS hL h1 h2 h3 h4 hf
  refine lv_istore_n hF.1 hF.2.1 hd rfl hL.has (show 3 < M.2.2.1 by rw [← hL.1]; simp) rfl (fun ls1 hl => ?_)
  have hk0 : ∀ (j : Nat) (w : Value), j + 1 = 3 → (x0 :: x1 :: x2 :: x :: L)[j]? = some w → w.category = 1 := by
    intro j w e1 e2
    obtain rfl : j = 2 := by omega
    cases e2
    exact hc
  have hL1 := hL.st1 (i := 3) (v := .int v) (by simp) hk0 hl
  exact kk D cy b0 cs l p e R s m args below meth c Qw H locs cells slots ls1 mc ms hF hS hL1 h1 h2 h3 h4 hf
theorem z_istore4 {X : zX} {M : zM} {d k q pc : Nat} {L S : List Value} {n : Nat} {h : zH} {Q : zQ} {x0 x1 x2 x3 x : Value} {v : Int32} (hd : decode M.2.1 pc = .ok (.istore 4, 2)) (hc : x3.category = 1) (kk : zJ X M d k q (pc + 2) (x0 :: x1 :: x2 :: x3 :: .int v :: L) S n h Q) : zJ X M d k q pc (x0 :: x1 :: x2 :: x3 :: x :: L) (.int v :: S) n h Q := by
  intro D cy b0 cs l p e R s m args below meth c Qw H locs cells slots ls mc ms hF hS hL h1 h2 h3 h4 hf
  refine lv_istore hF.1 hF.2.1 hd hL.has (show 4 < M.2.2.1 by rw [← hL.1]; simp) rfl (fun ls1 hl => ?_)
  have hk0 : ∀ (j : Nat) (w : Value), j + 1 = 4 → (x0 :: x1 :: x2 :: x3 :: x :: L)[j]? = some w → w.category = 1 := by
    intro j w e1 e2
    obtain rfl : j = 3 := by omega
    cases e2
    exact hc
  have hL1 := hL.st1 (i := 4) (v := .int v) (by simp) hk0 hl
  exact kk D cy b0 cs l p e R s m args below meth c Qw H locs cells slots ls1 mc ms hF hS hL1 h1 h2 h3 h4 hf
theorem z_istore5 {X : zX} {M : zM} {d k q pc : Nat} {L S : List Value} {n : Nat} {h : zH} {Q : zQ} {x0 x1 x2 x3 x4 x : Value} {v : Int32} (hd : decode M.2.1 pc = .ok (.istore 5, 2)) (hc : x4.category = 1) (kk : zJ X M d k q (pc + 2) (x0 :: x1 :: x2 :: x3 :: x4 :: .int v :: L) S n h Q) : zJ X M d k q pc (x0 :: x1 :: x2 :: x3 :: x4 :: x :: L) (.int v :: S) n h Q := by
  intro D cy b0 cs l p e R s m args below meth c Qw H locs cells slots ls mc ms hF hS hL h1 h2 h3 h4 hf
  refine lv_istore hF.1 hF.2.1 hd hL.has (show 5 < M.2.2.1 by rw [← hL.1]; simp) rfl (fun ls1 hl => ?_)
  have hk0 : ∀ (j : Nat) (w : Value), j + 1 = 5 → (x0 :: x1 :: x2 :: x3 :: x4 :: x :: L)[j]? = some w → w.category = 1 := by
    intro j w e1 e2
    obtain rfl : j = 4 := by omega
    cases e2
    exact hc
  have hL1 := hL.st1 (i := 5) (v := .int v) (by simp) hk0 hl
  exact kk D cy b0 cs l p e R s m args below meth c Qw H locs cells slots ls1 mc ms hF hS hL1 h1 h2 h3 h4 hf
theorem z_istore6 {X : zX} {M : zM} {d k q pc : Nat} {L S : List Value} {n : Nat} {h : zH} {Q : zQ} {x0 x1 x2 x3 x4 x5 x : Value} {v : Int32} (hd : decode M.2.1 pc = .ok (.istore 6, 2)) (hc : x5.category = 1) (kk : zJ X M d k q (pc + 2) (x0 :: x1 :: x2 :: x3 :: x4 :: x5 :: .int v :: L) S n h Q) : zJ X M d k q pc (x0 :: x1 :: x2 :: x3 :: x4 :: x5 :: x :: L) (.int v :: S) n h Q := by
  intro D cy b0 cs l p e R s m args below meth c Qw H locs cells slots ls mc ms hF hS hL h1 h2 h3 h4 hf
  refine lv_istore hF.1 hF.2.1 hd hL.has (show 6 < M.2.2.1 by rw [← hL.1]; simp) rfl (fun ls1 hl => ?_)
  have hk0 : ∀ (j : Nat) (w : Value), j + 1 = 6 → (x0 :: x1 :: x2 :: x3 :: x4 :: x5 :: x :: L)[j]? = some w → w.category = 1 := by
    intro j w e1 e2
    obtain rfl : j = 5 := by omega
    cases e2
    exact hc
  have hL1 := hL.st1 (i := 6) (v := .int v) (by simp) hk0 hl
  exact kk D cy b0 cs l p e R s m args below meth c Qw H locs cells slots ls1 mc ms hF hS hL1 h1 h2 h3 h4 hf
theorem z_istore7 {X : zX} {M : zM} {d k q pc : Nat} {L S : List Value} {n : Nat} {h : zH} {Q : zQ} {x0 x1 x2 x3 x4 x5 x6 x : Value} {v : Int32} (hd : decode M.2.1 pc = .ok (.istore 7, 2)) (hc : x6.category = 1) (kk : zJ X M d k q (pc + 2) (x0 :: x1 :: x2 :: x3 :: x4 :: x5 :: x6 :: .int v :: L) S n h Q) : zJ X M d k q pc (x0 :: x1 :: x2 :: x3 :: x4 :: x5 :: x6 :: x :: L) (.int v :: S) n h Q := by
  intro D cy b0 cs l p e R s m args below meth c Qw H locs cells slots ls mc ms hF hS hL h1 h2 h3 h4 hf
  refine lv_istore hF.1 hF.2.1 hd hL.has (show 7 < M.2.2.1 by rw [← hL.1]; simp) rfl (fun ls1 hl => ?_)
  have hk0 : ∀ (j : Nat) (w : Value), j + 1 = 7 → (x0 :: x1 :: x2 :: x3 :: x4 :: x5 :: x6 :: x :: L)[j]? = some w → w.category = 1 := by
    intro j w e1 e2
    obtain rfl : j = 6 := by omega
    cases e2
    exact hc
  have hL1 := hL.st1 (i := 7) (v := .int v) (by simp) hk0 hl
  exact kk D cy b0 cs l p e R s m args below meth c Qw H locs cells slots ls1 mc ms hF hS hL1 h1 h2 h3 h4 hf
theorem z_istore8 {X : zX} {M : zM} {d k q pc : Nat} {L S : List Value} {n : Nat} {h : zH} {Q : zQ} {x0 x1 x2 x3 x4 x5 x6 x7 x : Value} {v : Int32} (hd : decode M.2.1 pc = .ok (.istore 8, 2)) (hc : x7.category = 1) (kk : zJ X M d k q (pc + 2) (x0 :: x1 :: x2 :: x3 :: x4 :: x5 :: x6 :: x7 :: .int v :: L) S n h Q) : zJ X M d k q pc (x0 :: x1 :: x2 :: x3 :: x4 :: x5 :: x6 :: x7 :: x :: L) (.int v :: S) n h Q := by
  intro D cy b0 cs l p e R s m args below meth c Qw H locs cells slots ls mc ms hF hS hL h1 h2 h3 h4 hf
  refine lv_istore hF.1 hF.2.1 hd hL.has (show 8 < M.2.2.1 by rw [← hL.1]; simp) rfl (fun ls1 hl => ?_)
  have hk0 : ∀ (j : Nat) (w : Value), j + 1 = 8 → (x0 :: x1 :: x2 :: x3 :: x4 :: x5 :: x6 :: x7 :: x :: L)[j]? = some w → w.category = 1 := by
    intro j w e1 e2
    obtain rfl : j = 7 := by omega
    cases e2
    exact hc
  have hL1 := hL.st1 (i := 8) (v := .int v) (by simp) hk0 hl
  exact kk D cy b0 cs l p e R s m args below meth c Qw H locs cells slots ls1 mc ms hF hS hL1 h1 h2 h3 h4 hf
theorem z_istore9 {X : zX} {M : zM} {d k q pc : Nat} {L S : List Value} {n : Nat} {h : zH} {Q : zQ} {x0 x1 x2 x3 x4 x5 x6 x7 x8 x : Value} {v : Int32} (hd : decode M.2.1 pc = .ok (.istore 9, 2)) (hc : x8.category = 1) (kk : zJ X M d k q (pc + 2) (x0 :: x1 :: x2 :: x3 :: x4 :: x5 :: x6 :: x7 :: x8 :: .int v :: L) S n h Q) : zJ X M d k q pc (x0 :: x1 :: x2 :: x3 :: x4 :: x5 :: x6 :: x7 :: x8 :: x :: L) (.int v :: S) n h Q := by
  intro D cy b0 cs l p e R s m args below meth c Qw H locs cells slots ls mc ms hF hS hL h1 h2 h3 h4 hf
  refine lv_istore hF.1 hF.2.1 hd hL.has (show 9 < M.2.2.1 by rw [← hL.1]; simp) rfl (fun ls1 hl => ?_)
  have hk0 : ∀ (j : Nat) (w : Value), j + 1 = 9 → (x0 :: x1 :: x2 :: x3 :: x4 :: x5 :: x6 :: x7 :: x8 :: x :: L)[j]? = some w → w.category = 1 := by
    intro j w e1 e2
    obtain rfl : j = 8 := by omega
    cases e2
    exact hc
  have hL1 := hL.st1 (i := 9) (v := .int v) (by simp) hk0 hl
  exact kk D cy b0 cs l p e R s m args below meth c Qw H locs cells slots ls1 mc ms hF hS hL1 h1 h2 h3 h4 hf
theorem z_istore10 {X : zX} {M : zM} {d k q pc : Nat} {L S : List Value} {n : Nat} {h : zH} {Q : zQ} {x0 x1 x2 x3 x4 x5 x6 x7 x8 x9 x : Value} {v : Int32} (hd : decode M.2.1 pc = .ok (.istore 10, 2)) (hc : x9.category = 1) (kk : zJ X M d k q (pc + 2) (x0 :: x1 :: x2 :: x3 :: x4 :: x5 :: x6 :: x7 :: x8 :: x9 :: .int v :: L) S n h Q) : zJ X M d k q pc (x0 :: x1 :: x2 :: x3 :: x4 :: x5 :: x6 :: x7 :: x8 :: x9 :: x :: L) (.int v :: S) n h Q := by
  intro D cy b0 cs l p e R s m args below meth c Qw H locs cells slots ls mc ms hF hS hL h1 h2 h3 h4 hf
  refine lv_istore hF.1 hF.2.1 hd hL.has (show 10 < M.2.2.1 by rw [← hL.1]; simp) rfl (fun ls1 hl => ?_)
  have hk0 : ∀ (j : Nat) (w : Value), j + 1 = 10 → (x0 :: x1 :: x2 :: x3 :: x4 :: x5 :: x6 :: x7 :: x8 :: x9 :: x :: L)[j]? = some w → w.category = 1 := by
    intro j w e1 e2
    obtain rfl : j = 9 := by omega
    cases e2
    exact hc
  have hL1 := hL.st1 (i := 10) (v := .int v) (by simp) hk0 hl
  exact kk D cy b0 cs l p e R s m args below meth c Qw H locs cells slots ls1 mc ms hF hS hL1 h1 h2 h3 h4 hf
theorem z_istore11 {X : zX} {M : zM} {d k q pc : Nat} {L S : List Value} {n : Nat} {h : zH} {Q : zQ} {x0 x1 x2 x3 x4 x5 x6 x7 x8 x9 x10 x : Value} {v : Int32} (hd : decode M.2.1 pc = .ok (.istore 11, 2)) (hc : x10.category = 1) (kk : zJ X M d k q (pc + 2) (x0 :: x1 :: x2 :: x3 :: x4 :: x5 :: x6 :: x7 :: x8 :: x9 :: x10 :: .int v :: L) S n h Q) : zJ X M d k q pc (x0 :: x1 :: x2 :: x3 :: x4 :: x5 :: x6 :: x7 :: x8 :: x9 :: x10 :: x :: L) (.int v :: S) n h Q := by
  intro D cy b0 cs l p e R s m args below meth c Qw H locs cells slots ls mc ms hF hS hL h1 h2 h3 h4 hf
  refine lv_istore hF.1 hF.2.1 hd hL.has (show 11 < M.2.2.1 by rw [← hL.1]; simp) rfl (fun ls1 hl => ?_)
  have hk0 : ∀ (j : Nat) (w : Value), j + 1 = 11 → (x0 :: x1 :: x2 :: x3 :: x4 :: x5 :: x6 :: x7 :: x8 :: x9 :: x10 :: x :: L)[j]? = some w → w.category = 1 := by
    intro j w e1 e2
    obtain rfl : j = 10 := by omega
    cases e2
    exact hc
  have hL1 := hL.st1 (i := 11) (v := .int v) (by simp) hk0 hl
  exact kk D cy b0 cs l p e R s m args below meth c Qw H locs cells slots ls1 mc ms hF hS hL1 h1 h2 h3 h4 hf
theorem z_astore0 {X : zX} {M : zM} {d k q pc : Nat} {L S : List Value} {n : Nat} {h : zH} {Q : zQ} {x : Value} {v : Nat} (hd : decode M.2.1 pc = .ok (.astore_n 0, 1)) (kk : zJ X M d k q (pc + 1) (.ref v :: L) S n h Q) : zJ X M d k q pc (x :: L) (.ref v :: S) n h Q := by
  intro D cy b0 cs l p e R s m args below meth c Qw H locs cells slots ls mc ms hF hS hL h1 h2 h3 h4 hf
  refine lv_astore_n hF.1 hF.2.1 hd rfl hL.has (show 0 < M.2.2.1 by rw [← hL.1]; simp) rfl (fun ls1 hl => ?_)
  have hk0 : ∀ (j : Nat) (w : Value), j + 1 = 0 → (x :: L)[j]? = some w → w.category = 1 := fun j w e _ => by omega
  have hL1 := hL.st1 (i := 0) (v := .ref v) (by simp) hk0 hl
  exact kk D cy b0 cs l p e R s m args below meth c Qw H locs cells slots ls1 mc ms hF hS hL1 h1 h2 h3 h4 hf
theorem z_astore1 {X : zX} {M : zM} {d k q pc : Nat} {L S : List Value} {n : Nat} {h : zH} {Q : zQ} {x0 x : Value} {v : Nat} (hd : decode M.2.1 pc = .ok (.astore_n 1, 1)) (hc : x0.category = 1) (kk : zJ X M d k q (pc + 1) (x0 :: .ref v :: L) S n h Q) : zJ X M d k q pc (x0 :: x :: L) (.ref v :: S) n h Q := by
  intro D cy b0 cs l p e R s m args below meth c Qw H locs cells slots ls mc ms hF hS hL h1 h2 h3 h4 hf
  refine lv_astore_n hF.1 hF.2.1 hd rfl hL.has (show 1 < M.2.2.1 by rw [← hL.1]; simp) rfl (fun ls1 hl => ?_)
  have hk0 : ∀ (j : Nat) (w : Value), j + 1 = 1 → (x0 :: x :: L)[j]? = some w → w.category = 1 := by
    intro j w e1 e2
    obtain rfl : j = 0 := by omega
    cases e2
    exact hc
  have hL1 := hL.st1 (i := 1) (v := .ref v) (by simp) hk0 hl
  exact kk D cy b0 cs l p e R s m args below meth c Qw H locs cells slots ls1 mc ms hF hS hL1 h1 h2 h3 h4 hf
theorem z_astore2 {X : zX} {M : zM} {d k q pc : Nat} {L S : List Value} {n : Nat} {h : zH} {Q : zQ} {x0 x1 x : Value} {v : Nat} (hd : decode M.2.1 pc = .ok (.astore_n 2, 1)) (hc : x1.category = 1) (kk : zJ X M d k q (pc + 1) (x0 :: x1 :: .ref v :: L) S n h Q) : zJ X M d k q pc (x0 :: x1 :: x :: L) (.ref v :: S) n h Q := by
  intro D cy b0 cs l p e R s m args below meth c Qw H locs cells slots ls mc ms hF hS hL h1 h2 h3 h4 hf
  refine lv_astore_n hF.1 hF.2.1 hd rfl hL.has (show 2 < M.2.2.1 by rw [← hL.1]; simp) rfl (fun ls1 hl => ?_)
  have hk0 : ∀ (j : Nat) (w : Value), j + 1 = 2 → (x0 :: x1 :: x :: L)[j]? = some w → w.category = 1 := by
    intro j w e1 e2
    obtain rfl : j = 1 := by omega
    cases e2
    exact hc
  have hL1 := hL.st1 (i := 2) (v := .ref v) (by simp) hk0 hl
  exact kk D cy b0 cs l p e R s m args below meth c Qw H locs cells slots ls1 mc ms hF hS hL1 h1 h2 h3 h4 hf
theorem z_astore3 {X : zX} {M : zM} {d k q pc : Nat} {L S : List Value} {n : Nat} {h : zH} {Q : zQ} {x0 x1 x2 x : Value} {v : Nat} (hd : decode M.2.1 pc = .ok (.astore_n 3, 1)) (hc : x2.category = 1) (kk : zJ X M d k q (pc + 1) (x0 :: x1 :: x2 :: .ref v :: L) S n h Q) : zJ X M d k q pc (x0 :: x1 :: x2 :: x :: L) (.ref v :: S) n h Q := by
  intro D cy b0 cs l p e R s m args below meth c Qw H locs cells slots ls mc ms hF hS hL h1 h2 h3 h4 hf
  refine lv_astore_n hF.1 hF.2.1 hd rfl hL.has (show 3 < M.2.2.1 by rw [← hL.1]; simp) rfl (fun ls1 hl => ?_)
  have hk0 : ∀ (j : Nat) (w : Value), j + 1 = 3 → (x0 :: x1 :: x2 :: x :: L)[j]? = some w → w.category = 1 := by
    intro j w e1 e2
    obtain rfl : j = 2 := by omega
    cases e2
    exact hc
  have hL1 := hL.st1 (i := 3) (v := .ref v) (by simp) hk0 hl
  exact kk D cy b0 cs l p e R s m args below meth c Qw H locs cells slots ls1 mc ms hF hS hL1 h1 h2 h3 h4 hf
theorem z_astore4 {X : zX} {M : zM} {d k q pc : Nat} {L S : List Value} {n : Nat} {h : zH} {Q : zQ} {x0 x1 x2 x3 x : Value} {v : Nat} (hd : decode M.2.1 pc = .ok (.astore 4, 2)) (hc : x3.category = 1) (kk : zJ X M d k q (pc + 2) (x0 :: x1 :: x2 :: x3 :: .ref v :: L) S n h Q) : zJ X M d k q pc (x0 :: x1 :: x2 :: x3 :: x :: L) (.ref v :: S) n h Q := by
  intro D cy b0 cs l p e R s m args below meth c Qw H locs cells slots ls mc ms hF hS hL h1 h2 h3 h4 hf
  refine lv_astore hF.1 hF.2.1 hd hL.has (show 4 < M.2.2.1 by rw [← hL.1]; simp) rfl (fun ls1 hl => ?_)
  have hk0 : ∀ (j : Nat) (w : Value), j + 1 = 4 → (x0 :: x1 :: x2 :: x3 :: x :: L)[j]? = some w → w.category = 1 := by
    intro j w e1 e2
    obtain rfl : j = 3 := by omega
    cases e2
    exact hc
  have hL1 := hL.st1 (i := 4) (v := .ref v) (by simp) hk0 hl
  exact kk D cy b0 cs l p e R s m args below meth c Qw H locs cells slots ls1 mc ms hF hS hL1 h1 h2 h3 h4 hf
theorem z_lstore0 {X : zX} {M : zM} {d k q pc : Nat} {L S : List Value} {n : Nat} {h : zH} {Q : zQ} {x y : Value} {v : Int64} (hd : decode M.2.1 pc = .ok (.lstore_n 0, 1)) (kk : zJ X M d k q (pc + 1) (.long v :: zu :: L) S n h Q) : zJ X M d k q pc (x :: y :: L) (.long v :: S) n h Q := by
  intro D cy b0 cs l p e R s m args below meth c Qw H locs cells slots ls mc ms hF hS hL h1 h2 h3 h4 hf
  refine lv_lstore_n hF.1 hF.2.1 hd rfl hL.has (show 0 + 1 < M.2.2.1 by rw [← hL.1]; simp) rfl (fun ls1 hl => ?_)
  have hk0 : ∀ (j : Nat) (w : Value), j + 1 = 0 → (x :: y :: L)[j]? = some w → w.category = 1 := fun j w e _ => by omega
  have hL1 := hL.st2 (i := 0) (v := .long v) (by simp) hk0 hl
  exact kk D cy b0 cs l p e R s m args below meth c Qw H locs cells slots ls1 mc ms hF hS hL1 h1 h2 h3 h4 hf
theorem z_lstore1 {X : zX} {M : zM} {d k q pc : Nat} {L S : List Value} {n : Nat} {h : zH} {Q : zQ} {x0 x y : Value} {v : Int64} (hd : decode M.2.1 pc = .ok (.lstore_n 1, 1)) (hc : x0.category = 1) (kk : zJ X M d k q (pc + 1) (x0 :: .long v :: zu :: L) S n h Q) : zJ X M d k q pc (x0 :: x :: y :: L) (.long v :: S) n h Q := by
  intro D cy b0 cs l p e R s m args below meth c Qw H locs cells slots ls mc ms hF hS hL h1 h2 h3 h4 hf
  refine lv_lstore_n hF.1 hF.2.1 hd rfl hL.has (show 1 + 1 < M.2.2.1 by rw [← hL.1]; simp) rfl (fun ls1 hl => ?_)
  have hk0 : ∀ (j : Nat) (w : Value), j + 1 = 1 → (x0 :: x :: y :: L)[j]? = some w → w.category = 1 := by
    intro j w e1 e2
    obtain rfl : j = 0 := by omega
    cases e2
    exact hc
  have hL1 := hL.st2 (i := 1) (v := .long v) (by simp) hk0 hl
  exact kk D cy b0 cs l p e R s m args below meth c Qw H locs cells slots ls1 mc ms hF hS hL1 h1 h2 h3 h4 hf
theorem z_lstore2 {X : zX} {M : zM} {d k q pc : Nat} {L S : List Value} {n : Nat} {h : zH} {Q : zQ} {x0 x1 x y : Value} {v : Int64} (hd : decode M.2.1 pc = .ok (.lstore_n 2, 1)) (hc : x1.category = 1) (kk : zJ X M d k q (pc + 1) (x0 :: x1 :: .long v :: zu :: L) S n h Q) : zJ X M d k q pc (x0 :: x1 :: x :: y :: L) (.long v :: S) n h Q := by
  intro D cy b0 cs l p e R s m args below meth c Qw H locs cells slots ls mc ms hF hS hL h1 h2 h3 h4 hf
  refine lv_lstore_n hF.1 hF.2.1 hd rfl hL.has (show 2 + 1 < M.2.2.1 by rw [← hL.1]; simp) rfl (fun ls1 hl => ?_)
  have hk0 : ∀ (j : Nat) (w : Value), j + 1 = 2 → (x0 :: x1 :: x :: y :: L)[j]? = some w → w.category = 1 := by
    intro j w e1 e2
    obtain rfl : j = 1 := by omega
    cases e2
    exact hc
  have hL1 := hL.st2 (i := 2) (v := .long v) (by simp) hk0 hl
  exact kk D cy b0 cs l p e R s m args below meth c Qw H locs cells slots ls1 mc ms hF hS hL1 h1 h2 h3 h4 hf
theorem z_lstore3 {X : zX} {M : zM} {d k q pc : Nat} {L S : List Value} {n : Nat} {h : zH} {Q : zQ} {x0 x1 x2 x y : Value} {v : Int64} (hd : decode M.2.1 pc = .ok (.lstore_n 3, 1)) (hc : x2.category = 1) (kk : zJ X M d k q (pc + 1) (x0 :: x1 :: x2 :: .long v :: zu :: L) S n h Q) : zJ X M d k q pc (x0 :: x1 :: x2 :: x :: y :: L) (.long v :: S) n h Q := by
  intro D cy b0 cs l p e R s m args below meth c Qw H locs cells slots ls mc ms hF hS hL h1 h2 h3 h4 hf
  refine lv_lstore_n hF.1 hF.2.1 hd rfl hL.has (show 3 + 1 < M.2.2.1 by rw [← hL.1]; simp) rfl (fun ls1 hl => ?_)
  have hk0 : ∀ (j : Nat) (w : Value), j + 1 = 3 → (x0 :: x1 :: x2 :: x :: y :: L)[j]? = some w → w.category = 1 := by
    intro j w e1 e2
    obtain rfl : j = 2 := by omega
    cases e2
    exact hc
  have hL1 := hL.st2 (i := 3) (v := .long v) (by simp) hk0 hl
  exact kk D cy b0 cs l p e R s m args below meth c Qw H locs cells slots ls1 mc ms hF hS hL1 h1 h2 h3 h4 hf
theorem z_lstore4 {X : zX} {M : zM} {d k q pc : Nat} {L S : List Value} {n : Nat} {h : zH} {Q : zQ} {x0 x1 x2 x3 x y : Value} {v : Int64} (hd : decode M.2.1 pc = .ok (.lstore 4, 2)) (hc : x3.category = 1) (kk : zJ X M d k q (pc + 2) (x0 :: x1 :: x2 :: x3 :: .long v :: zu :: L) S n h Q) : zJ X M d k q pc (x0 :: x1 :: x2 :: x3 :: x :: y :: L) (.long v :: S) n h Q := by
  intro D cy b0 cs l p e R s m args below meth c Qw H locs cells slots ls mc ms hF hS hL h1 h2 h3 h4 hf
  refine lv_lstore hF.1 hF.2.1 hd hL.has (show 4 + 1 < M.2.2.1 by rw [← hL.1]; simp) rfl (fun ls1 hl => ?_)
  have hk0 : ∀ (j : Nat) (w : Value), j + 1 = 4 → (x0 :: x1 :: x2 :: x3 :: x :: y :: L)[j]? = some w → w.category = 1 := by
    intro j w e1 e2
    obtain rfl : j = 3 := by omega
    cases e2
    exact hc
  have hL1 := hL.st2 (i := 4) (v := .long v) (by simp) hk0 hl
  exact kk D cy b0 cs l p e R s m args below meth c Qw H locs cells slots ls1 mc ms hF hS hL1 h1 h2 h3 h4 hf
theorem z_lstore5 {X : zX} {M : zM} {d k q pc : Nat} {L S : List Value} {n : Nat} {h : zH} {Q : zQ} {x0 x1 x2 x3 x4 x y : Value} {v : Int64} (hd : decode M.2.1 pc = .ok (.lstore 5, 2)) (hc : x4.category = 1) (kk : zJ X M d k q (pc + 2) (x0 :: x1 :: x2 :: x3 :: x4 :: .long v :: zu :: L) S n h Q) : zJ X M d k q pc (x0 :: x1 :: x2 :: x3 :: x4 :: x :: y :: L) (.long v :: S) n h Q := by
  intro D cy b0 cs l p e R s m args below meth c Qw H locs cells slots ls mc ms hF hS hL h1 h2 h3 h4 hf
  refine lv_lstore hF.1 hF.2.1 hd hL.has (show 5 + 1 < M.2.2.1 by rw [← hL.1]; simp) rfl (fun ls1 hl => ?_)
  have hk0 : ∀ (j : Nat) (w : Value), j + 1 = 5 → (x0 :: x1 :: x2 :: x3 :: x4 :: x :: y :: L)[j]? = some w → w.category = 1 := by
    intro j w e1 e2
    obtain rfl : j = 4 := by omega
    cases e2
    exact hc
  have hL1 := hL.st2 (i := 5) (v := .long v) (by simp) hk0 hl
  exact kk D cy b0 cs l p e R s m args below meth c Qw H locs cells slots ls1 mc ms hF hS hL1 h1 h2 h3 h4 hf
theorem z_lstore6 {X : zX} {M : zM} {d k q pc : Nat} {L S : List Value} {n : Nat} {h : zH} {Q : zQ} {x0 x1 x2 x3 x4 x5 x y : Value} {v : Int64} (hd : decode M.2.1 pc = .ok (.lstore 6, 2)) (hc : x5.category = 1) (kk : zJ X M d k q (pc + 2) (x0 :: x1 :: x2 :: x3 :: x4 :: x5 :: .long v :: zu :: L) S n h Q) : zJ X M d k q pc (x0 :: x1 :: x2 :: x3 :: x4 :: x5 :: x :: y :: L) (.long v :: S) n h Q := by
  intro D cy b0 cs l p e R s m args below meth c Qw H locs cells slots ls mc ms hF hS hL h1 h2 h3 h4 hf
  refine lv_lstore hF.1 hF.2.1 hd hL.has (show 6 + 1 < M.2.2.1 by rw [← hL.1]; simp) rfl (fun ls1 hl => ?_)
  have hk0 : ∀ (j : Nat) (w : Value), j + 1 = 6 → (x0 :: x1 :: x2 :: x3 :: x4 :: x5 :: x :: y :: L)[j]? = some w → w.category = 1 := by
    intro j w e1 e2
    obtain rfl : j = 5 := by omega
    cases e2
    exact hc
  have hL1 := hL.st2 (i := 6) (v := .long v) (by simp) hk0 hl
  exact kk D cy b0 cs l p e R s m args below meth c Qw H locs cells slots ls1 mc ms hF hS hL1 h1 h2 h3 h4 hf
theorem z_lstore7 {X : zX} {M : zM} {d k q pc : Nat} {L S : List Value} {n : Nat} {h : zH} {Q : zQ} {x0 x1 x2 x3 x4 x5 x6 x y : Value} {v : Int64} (hd : decode M.2.1 pc = .ok (.lstore 7, 2)) (hc : x6.category = 1) (kk : zJ X M d k q (pc + 2) (x0 :: x1 :: x2 :: x3 :: x4 :: x5 :: x6 :: .long v :: zu :: L) S n h Q) : zJ X M d k q pc (x0 :: x1 :: x2 :: x3 :: x4 :: x5 :: x6 :: x :: y :: L) (.long v :: S) n h Q := by
  intro D cy b0 cs l p e R s m args below meth c Qw H locs cells slots ls mc ms hF hS hL h1 h2 h3 h4 hf
  refine lv_lstore hF.1 hF.2.1 hd hL.has (show 7 + 1 < M.2.2.1 by rw [← hL.1]; simp) rfl (fun ls1 hl => ?_)
  have hk0 : ∀ (j : Nat) (w : Value), j + 1 = 7 → (x0 :: x1 :: x2 :: x3 :: x4 :: x5 :: x6 :: x :: y :: L)[j]? = some w → w.category = 1 := by
    intro j w e1 e2
    obtain rfl : j = 6 := by omega
    cases e2
    exact hc
  have hL1 := hL.st2 (i := 7) (v := .long v) (by simp) hk0 hl
  exact kk D cy b0 cs l p e R s m args below meth c Qw H locs cells slots ls1 mc ms hF hS hL1 h1 h2 h3 h4 hf
theorem z_iinc0 {X : zX} {M : zM} {d k q pc : Nat} {L S : List Value} {n : Nat} {h : zH} {Q : zQ} {x v : Int32} {z : Int} (hd : decode M.2.1 pc = .ok (.iinc 0 z, 3)) (hv : x + Int32.ofInt z = v) (kk : zJ X M d k q (pc + 3) (.int v :: L) S n h Q) : zJ X M d k q pc (.int x :: L) S n h Q := by
  intro D cy b0 cs l p e R s m args below meth c Qw H locs cells slots ls mc ms hF hS hL h1 h2 h3 h4 hf
  obtain ⟨kx, hkx⟩ := List.getElem?_of_mem (zasc_mem (b0 := b0) (cs := cs) (L := .int x :: L) (i := 0) (v := .int x) rfl (by intro z; cases z))
  refine lv_iinc hF.1 hF.2.1 hd hL.has hkx hv (show 0 < M.2.2.1 by rw [← hL.1]; simp) rfl (fun ls1 hl => ?_)
  have hk0 : ∀ (j : Nat) (w : Value), j + 1 = 0 → (.int x :: L)[j]? = some w → w.category = 1 := fun j w e _ => by omega
  have hL1 := hL.st1 (i := 0) (v := .int v) (by simp) hk0 hl
  exact kk D cy b0 cs l p e R s m args below meth c Qw H locs cells slots ls1 mc ms hF hS hL1 h1 h2 h3 h4 hf
theorem z_iinc1 {X : zX} {M : zM} {d k q pc : Nat} {L S : List Value} {n : Nat} {h : zH} {Q : zQ} {x0  : Value} {x v : Int32} {z : Int} (hd : decode M.2.1 pc = .ok (.iinc 1 z, 3)) (hc : x0.category = 1) (hv : x + Int32.ofInt z = v) (kk : zJ X M d k q (pc + 3) (x0 :: .int v :: L) S n h Q) : zJ X M d k q pc (x0 :: .int x :: L) S n h Q := by
  intro D cy b0 cs l p e R s m args below meth c Qw H locs cells slots ls mc ms hF hS hL h1 h2 h3 h4 hf
  obtain ⟨kx, hkx⟩ := List.getElem?_of_mem (zasc_mem (b0 := b0) (cs := cs) (L := x0 :: .int x :: L) (i := 1) (v := .int x) rfl (by intro z; cases z))
  refine lv_iinc hF.1 hF.2.1 hd hL.has hkx hv (show 1 < M.2.2.1 by rw [← hL.1]; simp) rfl (fun ls1 hl => ?_)
  have hk0 : ∀ (j : Nat) (w : Value), j + 1 = 1 → (x0 :: .int x :: L)[j]? = some w → w.category = 1 := by
    intro j w e1 e2
    obtain rfl : j = 0 := by omega
    cases e2
    exact hc
  have hL1 := hL.st1 (i := 1) (v := .int v) (by simp) hk0 hl
  exact kk D cy b0 cs l p e R s m args below meth c Qw H locs cells slots ls1 mc ms hF hS hL1 h1 h2 h3 h4 hf
theorem z_iinc2 {X : zX} {M : zM} {d k q pc : Nat} {L S : List Value} {n : Nat} {h : zH} {Q : zQ} {x0 x1  : Value} {x v : Int32} {z : Int} (hd : decode M.2.1 pc = .ok (.iinc 2 z, 3)) (hc : x1.category = 1) (hv : x + Int32.ofInt z = v) (kk : zJ X M d k q (pc + 3) (x0 :: x1 :: .int v :: L) S n h Q) : zJ X M d k q pc (x0 :: x1 :: .int x :: L) S n h Q := by
  intro D cy b0 cs l p e R s m args below meth c Qw H locs cells slots ls mc ms hF hS hL h1 h2 h3 h4 hf
  obtain ⟨kx, hkx⟩ := List.getElem?_of_mem (zasc_mem (b0 := b0) (cs := cs) (L := x0 :: x1 :: .int x :: L) (i := 2) (v := .int x) rfl (by intro z; cases z))
  refine lv_iinc hF.1 hF.2.1 hd hL.has hkx hv (show 2 < M.2.2.1 by rw [← hL.1]; simp) rfl (fun ls1 hl => ?_)
  have hk0 : ∀ (j : Nat) (w : Value), j + 1 = 2 → (x0 :: x1 :: .int x :: L)[j]? = some w → w.category = 1 := by
    intro j w e1 e2
    obtain rfl : j = 1 := by omega
    cases e2
    exact hc
  have hL1 := hL.st1 (i := 2) (v := .int v) (by simp) hk0 hl
  exact kk D cy b0 cs l p e R s m args below meth c Qw H locs cells slots ls1 mc ms hF hS hL1 h1 h2 h3 h4 hf
theorem z_iinc3 {X : zX} {M : zM} {d k q pc : Nat} {L S : List Value} {n : Nat} {h : zH} {Q : zQ} {x0 x1 x2  : Value} {x v : Int32} {z : Int} (hd : decode M.2.1 pc = .ok (.iinc 3 z, 3)) (hc : x2.category = 1) (hv : x + Int32.ofInt z = v) (kk : zJ X M d k q (pc + 3) (x0 :: x1 :: x2 :: .int v :: L) S n h Q) : zJ X M d k q pc (x0 :: x1 :: x2 :: .int x :: L) S n h Q := by
  intro D cy b0 cs l p e R s m args below meth c Qw H locs cells slots ls mc ms hF hS hL h1 h2 h3 h4 hf
  obtain ⟨kx, hkx⟩ := List.getElem?_of_mem (zasc_mem (b0 := b0) (cs := cs) (L := x0 :: x1 :: x2 :: .int x :: L) (i := 3) (v := .int x) rfl (by intro z; cases z))
  refine lv_iinc hF.1 hF.2.1 hd hL.has hkx hv (show 3 < M.2.2.1 by rw [← hL.1]; simp) rfl (fun ls1 hl => ?_)
  have hk0 : ∀ (j : Nat) (w : Value), j + 1 = 3 → (x0 :: x1 :: x2 :: .int x :: L)[j]? = some w → w.category = 1 := by
    intro j w e1 e2
    obtain rfl : j = 2 := by omega
    cases e2
    exact hc
  have hL1 := hL.st1 (i := 3) (v := .int v) (by simp) hk0 hl
  exact kk D cy b0 cs l p e R s m args below meth c Qw H locs cells slots ls1 mc ms hF hS hL1 h1 h2 h3 h4 hf
theorem z_iinc4 {X : zX} {M : zM} {d k q pc : Nat} {L S : List Value} {n : Nat} {h : zH} {Q : zQ} {x0 x1 x2 x3  : Value} {x v : Int32} {z : Int} (hd : decode M.2.1 pc = .ok (.iinc 4 z, 3)) (hc : x3.category = 1) (hv : x + Int32.ofInt z = v) (kk : zJ X M d k q (pc + 3) (x0 :: x1 :: x2 :: x3 :: .int v :: L) S n h Q) : zJ X M d k q pc (x0 :: x1 :: x2 :: x3 :: .int x :: L) S n h Q := by
  intro D cy b0 cs l p e R s m args below meth c Qw H locs cells slots ls mc ms hF hS hL h1 h2 h3 h4 hf
  obtain ⟨kx, hkx⟩ := List.getElem?_of_mem (zasc_mem (b0 := b0) (cs := cs) (L := x0 :: x1 :: x2 :: x3 :: .int x :: L) (i := 4) (v := .int x) rfl (by intro z; cases z))
  refine lv_iinc hF.1 hF.2.1 hd hL.has hkx hv (show 4 < M.2.2.1 by rw [← hL.1]; simp) rfl (fun ls1 hl => ?_)
  have hk0 : ∀ (j : Nat) (w : Value), j + 1 = 4 → (x0 :: x1 :: x2 :: x3 :: .int x :: L)[j]? = some w → w.category = 1 := by
    intro j w e1 e2
    obtain rfl : j = 3 := by omega
    cases e2
    exact hc
  have hL1 := hL.st1 (i := 4) (v := .int v) (by simp) hk0 hl
  exact kk D cy b0 cs l p e R s m args below meth c Qw H locs cells slots ls1 mc ms hF hS hL1 h1 h2 h3 h4 hf
theorem z_iinc5 {X : zX} {M : zM} {d k q pc : Nat} {L S : List Value} {n : Nat} {h : zH} {Q : zQ} {x0 x1 x2 x3 x4  : Value} {x v : Int32} {z : Int} (hd : decode M.2.1 pc = .ok (.iinc 5 z, 3)) (hc : x4.category = 1) (hv : x + Int32.ofInt z = v) (kk : zJ X M d k q (pc + 3) (x0 :: x1 :: x2 :: x3 :: x4 :: .int v :: L) S n h Q) : zJ X M d k q pc (x0 :: x1 :: x2 :: x3 :: x4 :: .int x :: L) S n h Q := by
  intro D cy b0 cs l p e R s m args below meth c Qw H locs cells slots ls mc ms hF hS hL h1 h2 h3 h4 hf
  obtain ⟨kx, hkx⟩ := List.getElem?_of_mem (zasc_mem (b0 := b0) (cs := cs) (L := x0 :: x1 :: x2 :: x3 :: x4 :: .int x :: L) (i := 5) (v := .int x) rfl (by intro z; cases z))
  refine lv_iinc hF.1 hF.2.1 hd hL.has hkx hv (show 5 < M.2.2.1 by rw [← hL.1]; simp) rfl (fun ls1 hl => ?_)
  have hk0 : ∀ (j : Nat) (w : Value), j + 1 = 5 → (x0 :: x1 :: x2 :: x3 :: x4 :: .int x :: L)[j]? = some w → w.category = 1 := by
    intro j w e1 e2
    obtain rfl : j = 4 := by omega
    cases e2
    exact hc
  have hL1 := hL.st1 (i := 5) (v := .int v) (by simp) hk0 hl
  exact kk D cy b0 cs l p e R s m args below meth c Qw H locs cells slots ls1 mc ms hF hS hL1 h1 h2 h3 h4 hf
theorem z_iinc6 {X : zX} {M : zM} {d k q pc : Nat} {L S : List Value} {n : Nat} {h : zH} {Q : zQ} {x0 x1 x2 x3 x4 x5  : Value} {x v : Int32} {z : Int} (hd : decode M.2.1 pc = .ok (.iinc 6 z, 3)) (hc : x5.category = 1) (hv : x + Int32.ofInt z = v) (kk : zJ X M d k q (pc + 3) (x0 :: x1 :: x2 :: x3 :: x4 :: x5 :: .int v :: L) S n h Q) : zJ X M d k q pc (x0 :: x1 :: x2 :: x3 :: x4 :: x5 :: .int x :: L) S n h Q := by
  intro D cy b0 cs l p e R s m args below meth c Qw H locs cells slots ls mc ms hF hS hL h1 h2 h3 h4 hf
  obtain ⟨kx, hkx⟩ := List.getElem?_of_mem (zasc_mem (b0 := b0) (cs := cs) (L := x0 :: x1 :: x2 :: x3 :: x4 :: x5 :: .int x :: L) (i := 6) (v := .int x) rfl (by intro z; cases z))
  refine lv_iinc hF.1 hF.2.1 hd hL.has hkx hv (show 6 < M.2.2.1 by rw [← hL.1]; simp) rfl (fun ls1 hl => ?_)
  have hk0 : ∀ (j : Nat) (w : Value), j + 1 = 6 → (x0 :: x1 :: x2 :: x3 :: x4 :: x5 :: .int x :: L)[j]? = some w → w.category = 1 := by
    intro j w e1 e2
    obtain rfl : j = 5 := by omega
    cases e2
    exact hc
  have hL1 := hL.st1 (i := 6) (v := .int v) (by simp) hk0 hl
  exact kk D cy b0 cs l p e R s m args below meth c Qw H locs cells slots ls1 mc ms hF hS hL1 h1 h2 h3 h4 hf
theorem z_iinc7 {X : zX} {M : zM} {d k q pc : Nat} {L S : List Value} {n : Nat} {h : zH} {Q : zQ} {x0 x1 x2 x3 x4 x5 x6  : Value} {x v : Int32} {z : Int} (hd : decode M.2.1 pc = .ok (.iinc 7 z, 3)) (hc : x6.category = 1) (hv : x + Int32.ofInt z = v) (kk : zJ X M d k q (pc + 3) (x0 :: x1 :: x2 :: x3 :: x4 :: x5 :: x6 :: .int v :: L) S n h Q) : zJ X M d k q pc (x0 :: x1 :: x2 :: x3 :: x4 :: x5 :: x6 :: .int x :: L) S n h Q := by
  intro D cy b0 cs l p e R s m args below meth c Qw H locs cells slots ls mc ms hF hS hL h1 h2 h3 h4 hf
  obtain ⟨kx, hkx⟩ := List.getElem?_of_mem (zasc_mem (b0 := b0) (cs := cs) (L := x0 :: x1 :: x2 :: x3 :: x4 :: x5 :: x6 :: .int x :: L) (i := 7) (v := .int x) rfl (by intro z; cases z))
  refine lv_iinc hF.1 hF.2.1 hd hL.has hkx hv (show 7 < M.2.2.1 by rw [← hL.1]; simp) rfl (fun ls1 hl => ?_)
  have hk0 : ∀ (j : Nat) (w : Value), j + 1 = 7 → (x0 :: x1 :: x2 :: x3 :: x4 :: x5 :: x6 :: .int x :: L)[j]? = some w → w.category = 1 := by
    intro j w e1 e2
    obtain rfl : j = 6 := by omega
    cases e2
    exact hc
  have hL1 := hL.st1 (i := 7) (v := .int v) (by simp) hk0 hl
  exact kk D cy b0 cs l p e R s m args below meth c Qw H locs cells slots ls1 mc ms hF hS hL1 h1 h2 h3 h4 hf
theorem z_iinc8 {X : zX} {M : zM} {d k q pc : Nat} {L S : List Value} {n : Nat} {h : zH} {Q : zQ} {x0 x1 x2 x3 x4 x5 x6 x7  : Value} {x v : Int32} {z : Int} (hd : decode M.2.1 pc = .ok (.iinc 8 z, 3)) (hc : x7.category = 1) (hv : x + Int32.ofInt z = v) (kk : zJ X M d k q (pc + 3) (x0 :: x1 :: x2 :: x3 :: x4 :: x5 :: x6 :: x7 :: .int v :: L) S n h Q) : zJ X M d k q pc (x0 :: x1 :: x2 :: x3 :: x4 :: x5 :: x6 :: x7 :: .int x :: L) S n h Q := by
  intro D cy b0 cs l p e R s m args below meth c Qw H locs cells slots ls mc ms hF hS hL h1 h2 h3 h4 hf
  obtain ⟨kx, hkx⟩ := List.getElem?_of_mem (zasc_mem (b0 := b0) (cs := cs) (L := x0 :: x1 :: x2 :: x3 :: x4 :: x5 :: x6 :: x7 :: .int x :: L) (i := 8) (v := .int x) rfl (by intro z; cases z))
  refine lv_iinc hF.1 hF.2.1 hd hL.has hkx hv (show 8 < M.2.2.1 by rw [← hL.1]; simp) rfl (fun ls1 hl => ?_)
  have hk0 : ∀ (j : Nat) (w : Value), j + 1 = 8 → (x0 :: x1 :: x2 :: x3 :: x4 :: x5 :: x6 :: x7 :: .int x :: L)[j]? = some w → w.category = 1 := by
    intro j w e1 e2
    obtain rfl : j = 7 := by omega
    cases e2
    exact hc
  have hL1 := hL.st1 (i := 8) (v := .int v) (by simp) hk0 hl
  exact kk D cy b0 cs l p e R s m args below meth c Qw H locs cells slots ls1 mc ms hF hS hL1 h1 h2 h3 h4 hf
theorem z_iinc9 {X : zX} {M : zM} {d k q pc : Nat} {L S : List Value} {n : Nat} {h : zH} {Q : zQ} {x0 x1 x2 x3 x4 x5 x6 x7 x8  : Value} {x v : Int32} {z : Int} (hd : decode M.2.1 pc = .ok (.iinc 9 z, 3)) (hc : x8.category = 1) (hv : x + Int32.ofInt z = v) (kk : zJ X M d k q (pc + 3) (x0 :: x1 :: x2 :: x3 :: x4 :: x5 :: x6 :: x7 :: x8 :: .int v :: L) S n h Q) : zJ X M d k q pc (x0 :: x1 :: x2 :: x3 :: x4 :: x5 :: x6 :: x7 :: x8 :: .int x :: L) S n h Q := by
  intro D cy b0 cs l p e R s m args below meth c Qw H locs cells slots ls mc ms hF hS hL h1 h2 h3 h4 hf
  obtain ⟨kx, hkx⟩ := List.getElem?_of_mem (zasc_mem (b0 := b0) (cs := cs) (L := x0 :: x1 :: x2 :: x3 :: x4 :: x5 :: x6 :: x7 :: x8 :: .int x :: L) (i := 9) (v := .int x) rfl (by intro z; cases z))
  refine lv_iinc hF.1 hF.2.1 hd hL.has hkx hv (show 9 < M.2.2.1 by rw [← hL.1]; simp) rfl (fun ls1 hl => ?_)
  have hk0 : ∀ (j : Nat) (w : Value), j + 1 = 9 → (x0 :: x1 :: x2 :: x3 :: x4 :: x5 :: x6 :: x7 :: x8 :: .int x :: L)[j]? = some w → w.category = 1 := by
    intro j w e1 e2
    obtain rfl : j = 8 := by omega
    cases e2
    exact hc
  have hL1 := hL.st1 (i := 9) (v := .int v) (by simp) hk0 hl
  exact kk D cy b0 cs l p e R s m args below meth c Qw H locs cells slots ls1 mc ms hF hS hL1 h1 h2 h3 h4 hf
theorem z_iinc10 {X : zX} {M : zM} {d k q pc : Nat} {L S : List Value} {n : Nat} {h : zH} {Q : zQ} {x0 x1 x2 x3 x4 x5 x6 x7 x8 x9  : Value} {x v : Int32} {z : Int} (hd : decode M.2.1 pc = .ok (.iinc 10 z, 3)) (hc : x9.category = 1) (hv : x + Int32.ofInt z = v) (kk : zJ X M d k q (pc + 3) (x0 :: x1 :: x2 :: x3 :: x4 :: x5 :: x6 :: x7 :: x8 :: x9 :: .int v :: L) S n h Q) : zJ X M d k q pc (x0 :: x1 :: x2 :: x3 :: x4 :: x5 :: x6 :: x7 :: x8 :: x9 :: .int x :: L) S n h Q := by
  intro D cy b0 cs l p e R s m args below meth c Qw H locs cells slots ls mc ms hF hS hL h1 h2 h3 h4 hf
  obtain ⟨kx, hkx⟩ := List.getElem?_of_mem (zasc_mem (b0 := b0) (cs := cs) (L := x0 :: x1 :: x2 :: x3 :: x4 :: x5 :: x6 :: x7 :: x8 :: x9 :: .int x :: L) (i := 10) (v := .int x) rfl (by intro z; cases z))
  refine lv_iinc hF.1 hF.2.1 hd hL.has hkx hv (show 10 < M.2.2.1 by rw [← hL.1]; simp) rfl (fun ls1 hl => ?_)
  have hk0 : ∀ (j : Nat) (w : Value), j + 1 = 10 → (x0 :: x1 :: x2 :: x3 :: x4 :: x5 :: x6 :: x7 :: x8 :: x9 :: .int x :: L)[j]? = some w → w.category = 1 := by
    intro j w e1 e2
    obtain rfl : j = 9 := by omega
    cases e2
    exact hc
  have hL1 := hL.st1 (i := 10) (v := .int v) (by simp) hk0 hl
  exact kk D cy b0 cs l p e R s m args below meth c Qw H locs cells slots ls1 mc ms hF hS hL1 h1 h2 h3 h4 hf
theorem z_iinc11 {X : zX} {M : zM} {d k q pc : Nat} {L S : List Value} {n : Nat} {h : zH} {Q : zQ} {x0 x1 x2 x3 x4 x5 x6 x7 x8 x9 x10  : Value} {x v : Int32} {z : Int} (hd : decode M.2.1 pc = .ok (.iinc 11 z, 3)) (hc : x10.category = 1) (hv : x + Int32.ofInt z = v) (kk : zJ X M d k q (pc + 3) (x0 :: x1 :: x2 :: x3 :: x4 :: x5 :: x6 :: x7 :: x8 :: x9 :: x10 :: .int v :: L) S n h Q) : zJ X M d k q pc (x0 :: x1 :: x2 :: x3 :: x4 :: x5 :: x6 :: x7 :: x8 :: x9 :: x10 :: .int x :: L) S n h Q := by
  intro D cy b0 cs l p e R s m args below meth c Qw H locs cells slots ls mc ms hF hS hL h1 h2 h3 h4 hf
  obtain ⟨kx, hkx⟩ := List.getElem?_of_mem (zasc_mem (b0 := b0) (cs := cs) (L := x0 :: x1 :: x2 :: x3 :: x4 :: x5 :: x6 :: x7 :: x8 :: x9 :: x10 :: .int x :: L) (i := 11) (v := .int x) rfl (by intro z; cases z))
  refine lv_iinc hF.1 hF.2.1 hd hL.has hkx hv (show 11 < M.2.2.1 by rw [← hL.1]; simp) rfl (fun ls1 hl => ?_)
  have hk0 : ∀ (j : Nat) (w : Value), j + 1 = 11 → (x0 :: x1 :: x2 :: x3 :: x4 :: x5 :: x6 :: x7 :: x8 :: x9 :: x10 :: .int x :: L)[j]? = some w → w.category = 1 := by
    intro j w e1 e2
    obtain rfl : j = 10 := by omega
    cases e2
    exact hc
  have hL1 := hL.st1 (i := 11) (v := .int v) (by simp) hk0 hl
  exact kk D cy b0 cs l p e R s m args below meth c Qw H locs cells slots ls1 mc ms hF hS hL1 h1 h2 h3 h4 hf
theorem z_tableIn {X : zX} {M : zM} {d k q pc : Nat} {L S : List Value} {n : Nat} {h : zH} {Q : zQ} {x : Int32} {dflt lo hi off : Int} {offs : Array Int} {len tgt : Nat} (hd : decode M.2.1 pc = .ok (.tableswitch dflt lo hi offs, len)) (g1 : ¬ x.toInt < lo) (g2 : ¬ hi < x.toInt) (ho : offs[(x.toInt - lo).toNat]? = some off) (ht : (pc : Int) + off = (tgt : Int)) (kk : zJ X M d k q tgt L S n h Q) : zJ X M d k q pc L (.int x :: S) n h Q := by
  intro D cy b0 cs l p e R s m args below meth c Qw H locs cells slots ls mc ms hF hS hL h1 h2 h3 h4 hf
  exact lv_tableIn hF.1 hF.2.1 hd g1 g2 ho ht (kk D cy b0 cs l p e R s m args below meth c Qw H locs cells slots ls mc ms hF hS hL h1 h2 h3 h4 hf)
theorem z_tableOut {X : zX} {M : zM} {d k q pc : Nat} {L S : List Value} {n : Nat} {h : zH} {Q : zQ} {x : Int32} {dflt lo hi : Int} {offs : Array Int} {len tgt : Nat} (hd : decode M.2.1 pc = .ok (.tableswitch dflt lo hi offs, len)) (g1 : x.toInt < lo ∨ hi < x.toInt) (ht : (pc : Int) + dflt = (tgt : Int)) (kk : zJ X M d k q tgt L S n h Q) : zJ X M d k q pc L (.int x :: S) n h Q := by
  intro D cy b0 cs l p e R s m args below meth c Qw H locs cells slots ls mc ms hF hS hL h1 h2 h3 h4 hf
  exact lv_tableOut hF.1 hF.2.1 hd g1 ht (kk D cy b0 cs l p e R s m args below meth c Qw H locs cells slots ls mc ms hF hS hL h1 h2 h3 h4 hf)
theorem z_lookup {X : zX} {M : zM} {d k q pc : Nat} {L S : List Value} {n : Nat} {h : zH} {Q : zQ} {x : Int32} {dflt off : Int} {ps : Array (Int × Int)} {len tgt : Nat} (hd : decode M.2.1 pc = .ok (.lookupswitch dflt ps, len)) (hp : (ps.toList.zip (ps.toList.drop 1)).all (fun (a, next) => a.1 < next.1) = true) (ho : Op.lookupswitch.offset ps.toList dflt x.toInt = off) (ht : (pc : Int) + off = (tgt : Int)) (kk : zJ X M d k q tgt L S n h Q) : zJ X M d k q pc L (.int x :: S) n h Q := by
  intro D cy b0 cs l p e R s m args below meth c Qw H locs cells slots ls mc ms hF hS hL h1 h2 h3 h4 hf
  exact lv_lookup hF.1 hF.2.1 hd hp ho ht (kk D cy b0 cs l p e R s m args below meth c Qw H locs cells slots ls mc ms hF hS hL h1 h2 h3 h4 hf)
theorem z_ireturn {X : zX} {M : zM} {d k q pc : Nat} {L S : List Value} {n : Nat} {h : zH} {Q : zQ} {v : Int32} {ty : FieldType} (hd : decode M.2.1 pc = .ok (.ireturn, 1)) (hr : M.2.2.2 = some ty) (hn : narrow ty (.int v) = .int v) (hq : Q (some (.int v)) n h) : zJ X M d 0 q pc L [.int v] n h Q := by
  intro D cy b0 cs l p e R s m args below meth c Qw H locs cells slots ls mc ms hF hS hL h1 h2 h3 h4 hf
  obtain rfl : mc = cells := by omega
  exact hf (some (.int v)) n h H locs slots pc ls hq hS (by omega) (Or.inr (Or.inl ⟨v, ty, rfl, hr, hn, hd⟩))
theorem z_lreturn {X : zX} {M : zM} {d k q pc : Nat} {L S : List Value} {n : Nat} {h : zH} {Q : zQ} {v : Int64} (hd : decode M.2.1 pc = .ok (.lreturn, 1)) (hr : M.2.2.2 = some .long) (hq : Q (some (.long v)) n h) : zJ X M d 0 q pc L [.long v] n h Q := by
  intro D cy b0 cs l p e R s m args below meth c Qw H locs cells slots ls mc ms hF hS hL h1 h2 h3 h4 hf
  obtain rfl : mc = cells := by omega
  exact hf (some (.long v)) n h H locs slots pc ls hq hS (by omega) (Or.inr (Or.inr ⟨v, rfl, hr, hd⟩))
theorem z_return {X : zX} {M : zM} {d k q pc : Nat} {L S : List Value} {n : Nat} {h : zH} {Q : zQ} (hd : decode M.2.1 pc = .ok (.return_, 1)) (hr : M.2.2.2 = none) (hq : Q none n h) : zJ X M d 0 q pc L [] n h Q := by
  intro D cy b0 cs l p e R s m args below meth c Qw H locs cells slots ls mc ms hF hS hL h1 h2 h3 h4 hf
  obtain rfl : mc = cells := by omega
  exact hf none n h H locs slots pc ls hq hS (by omega) (Or.inl ⟨rfl, hr, hd⟩)
theorem z_ldc {X : zX} {M : zM} {d k q pc : Nat} {L S : List Value} {n : Nat} {h : zH} {Q : zQ} {idx : Nat} {v : Int32} (hd : decode M.2.1 pc = .ok (.ldc idx, 2)) (hc : Cond.constant M.1.cls idx v ∈ zU) (kk : zJ X M d k q (pc + 2) L (.int v :: S) n h Q) : zJ X M d k q pc L S n h Q := by
  intro D cy b0 cs l p e R s m args below meth c Qw H locs cells slots ls mc ms hF hS hL h1 h2 h3 h4 hf
  exact lv_ldc hF.1 hF.2.1 hF.2.2.2.2.1 (hF.2.2.2.2.2.1 _ hc) hd (kk D cy b0 cs l p e R s m args below meth c Qw H locs cells slots ls mc ms hF hS hL h1 h2 h3 h4 hf)
theorem z_ldcw {X : zX} {M : zM} {d k q pc : Nat} {L S : List Value} {n : Nat} {h : zH} {Q : zQ} {idx : Nat} {v : Int32} (hd : decode M.2.1 pc = .ok (.ldc_w idx, 3)) (hc : Cond.constant M.1.cls idx v ∈ zU) (kk : zJ X M d k q (pc + 3) L (.int v :: S) n h Q) : zJ X M d k q pc L S n h Q := by
  intro D cy b0 cs l p e R s m args below meth c Qw H locs cells slots ls mc ms hF hS hL h1 h2 h3 h4 hf
  exact lv_ldcw hF.1 hF.2.1 hF.2.2.2.2.1 (hF.2.2.2.2.2.1 _ hc) hd (kk D cy b0 cs l p e R s m args below meth c Qw H locs cells slots ls mc ms hF hS hL h1 h2 h3 h4 hf)
theorem z_ldc2 {X : zX} {M : zM} {d k q pc : Nat} {L S : List Value} {n : Nat} {h : zH} {Q : zQ} {idx : Nat} {v : Int64} (hd : decode M.2.1 pc = .ok (.ldc2_w idx, 3)) (hc : Cond.constantLong M.1.cls idx v ∈ zU) (kk : zJ X M d k q (pc + 3) L (.long v :: S) n h Q) : zJ X M d k q pc L S n h Q := by
  intro D cy b0 cs l p e R s m args below meth c Qw H locs cells slots ls mc ms hF hS hL h1 h2 h3 h4 hf
  exact lv_ldc2 hF.1 hF.2.1 hF.2.2.2.2.1 (hF.2.2.2.2.2.1 _ hc) hd (kk D cy b0 cs l p e R s m args below meth c Qw H locs cells slots ls mc ms hF hS hL h1 h2 h3 h4 hf)
end
section
theorem iX0 : ∀ w ∈ wsX00, w ∈ zU := by decide +kernel
theorem iX1 : ∀ w ∈ wsX10, w ∈ zU := by decide +kernel
theorem iX2 : ∀ w ∈ wsX20, w ∈ zU := by decide +kernel
theorem iX3 : ∀ w ∈ wsX30, w ∈ zU := by decide +kernel
theorem iX4 : ∀ w ∈ wsX40, w ∈ zU := by decide +kernel
theorem iX5 : ∀ w ∈ wsX50, w ∈ zU := by decide +kernel
theorem iX6 : ∀ w ∈ wsX60, w ∈ zU := by decide +kernel
theorem iX7 : ∀ w ∈ wsX70, w ∈ zU := by decide +kernel
theorem iX8 : ∀ w ∈ wsX80, w ∈ zU := by decide +kernel
theorem iX9 : ∀ w ∈ wsX90, w ∈ zU := by decide +kernel
theorem zKin : ∀ (ci : Nat) (C : String) (T : u_T) (N : Nat), vwCl[ci]? = some (C, T, N) → ∀ w ∈ u_ws C T N, w ∈ zU
  | 0, _, _, _, e => by cases e; exact iX0
  | 1, _, _, _, e => by cases e; exact iX1
  | 2, _, _, _, e => by cases e; exact iX2
  | 3, _, _, _, e => by cases e; exact iX3
  | 4, _, _, _, e => by cases e; exact iX4
  | 5, _, _, _, e => by cases e; exact iX5
  | 6, _, _, _, e => by cases e; exact iX6
  | 7, _, _, _, e => by cases e; exact iX7
  | 8, _, _, _, e => by cases e; exact iX8
  | 9, _, _, _, e => by cases e; exact iX9
  | i + 10, _, _, _, e => by simp at e
theorem zKty : ∀ (ci : Nat) (C : String) (T : u_T) (N : Nat), vwCl[ci]? = some (C, T, N) → ∃ ty0 : Nat → FieldType, (∀ k, k < N → parseFieldDescriptor (T k).2.2.1 = some (ty0 k)) ∧ (∀ a, a < N → ∀ b, b < N → a ≠ b → (T a).2.1 ≠ (T b).2.1)
  | 0, _, _, _, e => by cases e; exact ⟨tyX0, tyX0_ok, nmX0⟩
  | 1, _, _, _, e => by cases e; exact ⟨tyX1, tyX1_ok, nmX1⟩
  | 2, _, _, _, e => by cases e; exact ⟨tyX2, tyX2_ok, nmX2⟩
  | 3, _, _, _, e => by cases e; exact ⟨tyX3, tyX3_ok, nmX3⟩
  | 4, _, _, _, e => by cases e; exact ⟨tyX4, tyX4_ok, nmX4⟩
  | 5, _, _, _, e => by cases e; exact ⟨tyX5, tyX5_ok, nmX5⟩
  | 6, _, _, _, e => by cases e; exact ⟨tyX6, tyX6_ok, nmX6⟩
  | 7, _, _, _, e => by cases e; exact ⟨tyX7, tyX7_ok, nmX7⟩
  | 8, _, _, _, e => by cases e; exact ⟨tyX8, tyX8_ok, nmX8⟩
  | 9, _, _, _, e => by cases e; exact ⟨tyX9, tyX9_ok, nmX9⟩
  | i + 10, _, _, _, e => by simp at e
def zfl (own : String) (idx ci j : Nat) : Prop := ∃ (C : String) (T : u_T) (N : Nat), vwCl[ci]? = some (C, T, N) ∧ j < N ∧ Cond.fieldLink own idx (T j).1 (T j).2.1 (T j).2.2.1 ∈ zU
def zpf (own : String) (idx ci j : Nat) (fin : Bool) (ty : FieldType) : Prop := ∃ (C : String) (T : u_T) (N : Nat), vwCl[ci]? = some (C, T, N) ∧ j < N ∧ Cond.fieldLink own idx (T j).1 (T j).2.1 (T j).2.2.1 ∈ zU ∧ (T j).2.2.2 = fin ∧ parseFieldDescriptor (T j).2.2.1 = some ty ∧ (fin = true → (T j).1 = own)
def zcls (own : String) (idx ci N : Nat) (fs : List Value) : Prop := ∃ (C : String) (T : u_T) (ty : Nat → FieldType), vwCl[ci]? = some (C, T, N) ∧ Cond.classLink own idx C ∈ zU ∧ Cond.instantiable C N ∈ zU ∧ Cond.initialized C ∈ zU ∧ (∀ k, k < N → parseFieldDescriptor (T k).2.2.1 = some (ty k)) ∧ (∀ j, j < N → defaultValue (ty j) = vp_V fs j) ∧ (∀ (b0 : Nat) (cs : Nat → Nat), fs.map (ztr b0 cs) = fs)
theorem zS.rf {D : va_G} {cy : Nat → ClassId} {b0 : Nat} {cs : Nat → Nat} {s : State} {n : Nat} {h : zH} {H : Heap} {locs : List Loc} {cells : Nat} (hS : zS D cy b0 cs s n h H locs cells) : va_S (fun q => b0 ≤ q) H H locs := ⟨Nat.le_refl _, fun _ _ _ => rfl, hS.2.2.2.2.2⟩
theorem zS.go {D : va_G} {cy : Nat → ClassId} {b0 : Nat} {cs : Nat → Nat} {s : State} {n : Nat} {h h1 : zH} {H H1 : Heap} {locs locs1 : List Loc} {cells slots : Nat} {p : Program} {l : Launch} {e : Env} {R : Room} {m : MethodId} {args : Array Value} {below : List Frame} {meth : Method} {c : Code} {Qw : State → Prop} {g : JFrame}
    (hS : zS D cy b0 cs s n h H locs cells) (hP1 : va_P D vwCl (zWl cy b0 cs n h1) H1) (hS1 : va_S (fun q => b0 ≤ q) H H1 locs1) (kk : zS D cy b0 cs s n h1 H1 locs1 cells → W p l e R s m args below meth c H1 locs1 cells slots Qw g) : W p l e R s m args below meth c H1 locs1 cells slots Qw g := by
  intro T hT X
  have hz := X.heapSize
  rw [hT] at hz
  have h0 := hS1.1
  have e1 : H1.size = H.size := by have := hS.2.2.1; omega
  refine kk ⟨e1.trans hS.1, hP1, e1.trans hS.2.2.1, ?_⟩ T hT X
  have hb := hS.2.2.2
  exact ⟨Nat.le_trans hb.1 h0, fun x g1 g2 => (hS1.2.1 x (Nat.lt_of_lt_of_le g1 hb.1) g2).trans (hb.2.1 x g1 g2), hS1.2.2⟩
theorem z_getf {X : zX} {M : zM} {d k q pc : Nat} {L S : List Value} {n : Nat} {h : zH} {Q : zQ} {idx ci j a : Nat} {fs : List Value} {v : Value} (hd : decode M.2.1 pc = .ok (.getfield idx, 3)) (hl : zfl M.1.cls idx ci j) (ha : h a = .inr (ci, fs)) (han : a < n) (ham : a < 1000000) (hv : fs[j]? = some v) (kk : zJ X M d k q (pc + 3) L (v :: S) n h Q) : zJ X M d k q pc L (.ref a :: S) n h Q := by
  intro D cy b0 cs l p e R s m args below meth c Qw H locs cells slots ls mc ms hF hS hL h1 h2 h3 h4 hf
  obtain ⟨C, T, N, hc, hj, hlink⟩ := hl
  have hw := zWl_at (cy := cy) (b0 := b0) (cs := cs) (h := h) han
  rw [ha] at hw
  rw [List.map_cons, ztr_ref ham]
  exact va_get hF.1 hF.2.1 hF.2.2.2.2.2.1 (zKin ci C T N hc) hF.2.2.2.2.1 hF.2.2.2.2.2.2.2.2.1.1 hS.2.1 a hw hc j hj (hF.2.2.2.2.2.1 _ hlink) (fun _ z => z) (v := ztr b0 cs v) (by rw [List.getElem?_map, hv]; rfl) hd (kk D cy b0 cs l p e R s m args below meth c Qw H locs cells slots ls mc ms hF hS hL h1 h2 h3 h4 hf)
theorem z_putf {X : zX} {M : zM} {d k q pc : Nat} {L S : List Value} {n : Nat} {h : zH} {Q : zQ} {idx ci j a : Nat} {fs : List Value} {v : Value} {ty : FieldType} (hd : decode M.2.1 pc = .ok (.putfield idx, 3)) (hl : zpf M.1.cls idx ci j false ty) (ha : h a = .inr (ci, fs)) (han : a < n) (ham : a < 1000000) (hv : ∀ (b0 : Nat) (cs : Nat → Nat), narrow ty (ztr b0 cs v) = ztr b0 cs v ∧ fits ty (ztr b0 cs v) = true) (hlen : j < fs.length) (kk : zJ X M d k q (pc + 3) L S n (va_up h a (.inr (ci, fs.set j v))) Q) : zJ X M d k q pc L (v :: .ref a :: S) n h Q := by
  intro D cy b0 cs l p e R s m args below meth c Qw H locs cells slots ls mc ms hF hS hL h1 h2 h3 h4 hf
  obtain ⟨C, T, N, hc, hj, hlink, hfin, hty, -⟩ := hl
  obtain ⟨ty0, ht0, hnm⟩ := zKty ci C T N hc
  have hw := zWl_at (cy := cy) (b0 := b0) (cs := cs) (h := h) han
  rw [ha] at hw
  rw [List.map_cons, List.map_cons, ztr_ref ham]
  refine va_put hF.1 hF.2.1 hF.2.2.2.2.2.1 (zKin ci C T N hc) ty0 ht0 hnm hF.2.2.2.2.1 hF.2.2.2.2.2.2.2.2.1.1 hS.2.1 zWl_D hS.rf a hw hc j hj (hF.2.2.2.2.2.1 _ hlink) (fun _ z => z) hfin hty (hv b0 cs).1 (hv b0 cs).2 (by rw [List.length_map]; exact hlen) hd (fun H1 locs1 hP1 _ hS1 => ?_)
  rw [show (Sum.inr (ci, (fs.map (ztr b0 cs)).set j (ztr b0 cs v)) : va_E) = ztE cy b0 cs (.inr (ci, fs.set j v)) by simp [ztE, List.map_set], zWl_set] at hP1
  exact hS.go hP1 hS1 (fun hS1 => kk D cy b0 cs l p e R s m args below meth c Qw H1 locs1 cells slots ls mc ms hF hS1 hL h1 h2 h3 h4 hf)
theorem z_putF {X : zX} {M : zM} {d k q pc : Nat} {L S : List Value} {n : Nat} {h : zH} {Q : zQ} {idx ci j a : Nat} {fs : List Value} {v : Value} {ty : FieldType} (hd : decode M.2.1 pc = .ok (.putfield idx, 3)) (hl : zpf M.1.cls idx ci j true ty) (hin : M.1.name = "<init>") (ha : h a = .inr (ci, fs)) (han : a < n) (ham : a < 1000000) (hv : ∀ (b0 : Nat) (cs : Nat → Nat), narrow ty (ztr b0 cs v) = ztr b0 cs v ∧ fits ty (ztr b0 cs v) = true) (hlen : j < fs.length) (kk : zJ X M d k q (pc + 3) L S n (va_up h a (.inr (ci, fs.set j v))) Q) : zJ X M d k q pc L (v :: .ref a :: S) n h Q := by
  intro D cy b0 cs l p e R s m args below meth c Qw H locs cells slots ls mc ms hF hS hL h1 h2 h3 h4 hf
  obtain ⟨C, T, N, hc, hj, hlink, hfin, hty, hown⟩ := hl
  obtain ⟨ty0, ht0, hnm⟩ := zKty ci C T N hc
  have hw := zWl_at (cy := cy) (b0 := b0) (cs := cs) (h := h) han
  rw [ha] at hw
  rw [List.map_cons, List.map_cons, ztr_ref ham]
  refine va_putF hF.1 hF.2.1 hF.2.2.2.2.2.1 (zKin ci C T N hc) ty0 ht0 hnm hF.2.2.2.2.1 hF.2.2.2.2.2.2.2.2.1.1 hS.2.1 zWl_D hS.rf a hw hc j hj (hF.2.2.2.2.2.1 _ hlink) (fun _ z => z) hfin (hF.2.2.2.2.2.2.2.1 hin) (hown rfl) hty (hv b0 cs).1 (hv b0 cs).2 (by rw [List.length_map]; exact hlen) hd (fun H1 locs1 hP1 _ hS1 => ?_)
  rw [show (Sum.inr (ci, (fs.map (ztr b0 cs)).set j (ztr b0 cs v)) : va_E) = ztE cy b0 cs (.inr (ci, fs.set j v)) by simp [ztE, List.map_set], zWl_set] at hP1
  exact hS.go hP1 hS1 (fun hS1 => kk D cy b0 cs l p e R s m args below meth c Qw H1 locs1 cells slots ls mc ms hF hS1 hL h1 h2 h3 h4 hf)
theorem z_iald {X : zX} {M : zM} {d k q pc : Nat} {L S : List Value} {n : Nat} {h : zH} {Q : zQ} {a N : Nat} {f : Nat → Int32} {i : Int32} (hd : decode M.2.1 pc = .ok (.iaload, 1)) (ha : h a = .inl (0, N, .inl f)) (han : a < n) (ham : a < 1000000) (hi : vp_in i N) (kk : zJ X M d k q (pc + 1) L (.int (f i.toNatClampNeg) :: S) n h Q) : zJ X M d k q pc L (.int i :: .ref a :: S) n h Q := by
  intro D cy b0 cs l p e R s m args below meth c Qw H locs cells slots ls mc ms hF hS hL h1 h2 h3 h4 hf
  have hw := zWl_at (cy := cy) (b0 := b0) (cs := cs) (h := h) han
  rw [ha] at hw
  rw [List.map_cons, List.map_cons, ztr_ref ham]
  exact va_iald hF.1 hF.2.1 hF.2.2.2.2.2.2.2.2.1.1 hS.2.1 a 0 hw rfl hi hd (kk D cy b0 cs l p e R s m args below meth c Qw H locs cells slots ls mc ms hF hS hL h1 h2 h3 h4 hf)
theorem z_zald {X : zX} {M : zM} {d k q pc : Nat} {L S : List Value} {n : Nat} {h : zH} {Q : zQ} {a N : Nat} {f : Nat → Int32} {i : Int32} (hd : decode M.2.1 pc = .ok (.baload, 1)) (ha : h a = .inl (1, N, .inl f)) (han : a < n) (ham : a < 1000000) (hi : vp_in i N) (kk : zJ X M d k q (pc + 1) L (.int (f i.toNatClampNeg) :: S) n h Q) : zJ X M d k q pc L (.int i :: .ref a :: S) n h Q := by
  intro D cy b0 cs l p e R s m args below meth c Qw H locs cells slots ls mc ms hF hS hL h1 h2 h3 h4 hf
  have hw := zWl_at (cy := cy) (b0 := b0) (cs := cs) (h := h) han
  rw [ha] at hw
  rw [List.map_cons, List.map_cons, ztr_ref ham]
  exact va_zald hF.1 hF.2.1 hF.2.2.2.2.2.2.2.2.1.1 hS.2.1 a 1 hw rfl hi hd (kk D cy b0 cs l p e R s m args below meth c Qw H locs cells slots ls mc ms hF hS hL h1 h2 h3 h4 hf)
theorem z_iast {X : zX} {M : zM} {d k q pc : Nat} {L S : List Value} {n : Nat} {h : zH} {Q : zQ} {a N : Nat} {f : Nat → Int32} {i x : Int32} (hd : decode M.2.1 pc = .ok (.iastore, 1)) (ha : h a = .inl (0, N, .inl f)) (han : a < n) (ham : a < 1000000) (hi : vp_in i N) (kk : zJ X M d k q (pc + 1) L S n (va_up h a (.inl (0, N, .inl (upd f i.toNatClampNeg x)))) Q) : zJ X M d k q pc L (.int x :: .int i :: .ref a :: S) n h Q := by
  intro D cy b0 cs l p e R s m args below meth c Qw H locs cells slots ls mc ms hF hS hL h1 h2 h3 h4 hf
  have hw := zWl_at (cy := cy) (b0 := b0) (cs := cs) (h := h) han
  rw [ha] at hw
  rw [List.map_cons, List.map_cons, List.map_cons, ztr_ref ham]
  refine va_iast hF.1 hF.2.1 hF.2.2.2.2.2.2.2.2.1.1 hS.2.1 zWl_D hS.rf a 0 hw rfl hi hd (fun H1 locs1 hP1 _ hS1 => ?_)
  have hP1 : va_P D vwCl ((zWl cy b0 cs n h).set a (b0 + a, ztE cy b0 cs (.inl (0, N, .inl (upd f i.toNatClampNeg x))))) H1 := hP1
  rw [zWl_set] at hP1
  exact hS.go hP1 hS1 (fun hS1 => kk D cy b0 cs l p e R s m args below meth c Qw H1 locs1 cells slots ls mc ms hF hS1 hL h1 h2 h3 h4 hf)
theorem z_zast {X : zX} {M : zM} {d k q pc : Nat} {L S : List Value} {n : Nat} {h : zH} {Q : zQ} {a N : Nat} {f : Nat → Int32} {i x : Int32} (hd : decode M.2.1 pc = .ok (.bastore, 1)) (ha : h a = .inl (1, N, .inl f)) (han : a < n) (ham : a < 1000000) (hi : vp_in i N) (hx : vp_nar .boolean x = x) (kk : zJ X M d k q (pc + 1) L S n (va_up h a (.inl (1, N, .inl (upd f i.toNatClampNeg x)))) Q) : zJ X M d k q pc L (.int x :: .int i :: .ref a :: S) n h Q := by
  intro D cy b0 cs l p e R s m args below meth c Qw H locs cells slots ls mc ms hF hS hL h1 h2 h3 h4 hf
  have hw := zWl_at (cy := cy) (b0 := b0) (cs := cs) (h := h) han
  rw [ha] at hw
  rw [List.map_cons, List.map_cons, List.map_cons, ztr_ref ham]
  refine va_zast hF.1 hF.2.1 hF.2.2.2.2.2.2.2.2.1.1 hS.2.1 zWl_D hS.rf a 1 hw rfl hi hd (fun H1 locs1 hP1 _ hS1 => ?_)
  rw [hx] at hP1
  have hP1 : va_P D vwCl ((zWl cy b0 cs n h).set a (b0 + a, ztE cy b0 cs (.inl (1, N, .inl (upd f i.toNatClampNeg x))))) H1 := hP1
  rw [zWl_set] at hP1
  exact hS.go hP1 hS1 (fun hS1 => kk D cy b0 cs l p e R s m args below meth c Qw H1 locs1 cells slots ls mc ms hF hS1 hL h1 h2 h3 h4 hf)
theorem z_aald {X : zX} {M : zM} {d k q pc : Nat} {L S : List Value} {n : Nat} {h : zH} {Q : zQ} {a N r : Nat} {f : Nat → Option Nat} {i : Int32} (hd : decode M.2.1 pc = .ok (.aaload, 1)) (ha : h a = .inl (2, N, .inr (.inr (.inr (.inr f))))) (han : a < n) (ham : a < 1000000) (hi : vp_in i N) (hr : f i.toNatClampNeg = some r) (hrm : r < 1000000) (kk : zJ X M d k q (pc + 1) L (.ref r :: S) n h Q) : zJ X M d k q pc L (.int i :: .ref a :: S) n h Q := by
  intro D cy b0 cs l p e R s m args below meth c Qw H locs cells slots ls mc ms hF hS hL h1 h2 h3 h4 hf
  have hw := zWl_at (cy := cy) (b0 := b0) (cs := cs) (h := h) han
  rw [ha] at hw
  rw [List.map_cons, List.map_cons, ztr_ref ham]
  refine va_aldq hF.1 hF.2.1 hF.2.2.2.2.2.2.2.2.1.1 hS.2.1 a 2 hw rfl hi hd ?_
  rw [hr]
  have kk := kk D cy b0 cs l p e R s m args below meth c Qw H locs cells slots ls mc ms hF hS hL h1 h2 h3 h4 hf
  rw [List.map_cons, ztr_ref hrm] at kk
  exact kk
theorem z_aast {X : zX} {M : zM} {d k q pc : Nat} {L S : List Value} {n : Nat} {h : zH} {Q : zQ} {a N v : Nat} {f : Nat → Option Nat} {i : Int32} {vs : List Value} (hd : decode M.2.1 pc = .ok (.aastore, 1)) (ha : h a = .inl (2, N, .inr (.inr (.inr (.inr f))))) (han : a < n) (ham : a < 1000000) (hv : h v = .inr (4, vs)) (hvn : v < n) (hvm : v < 1000000) (hi : vp_in i N) (kk : zJ X M d k q (pc + 1) L S n (va_up h a (.inl (2, N, .inr (.inr (.inr (.inr (va_up f i.toNatClampNeg (some v)))))))) Q) : zJ X M d k q pc L (.ref v :: .int i :: .ref a :: S) n h Q := by
  intro D cy b0 cs l p e R s m args below meth c Qw H locs cells slots ls mc ms hF hS hL h1 h2 h3 h4 hf
  have hw := zWl_at (cy := cy) (b0 := b0) (cs := cs) (h := h) han
  have hw2 := zWl_at (cy := cy) (b0 := b0) (cs := cs) (h := h) hvn
  rw [ha] at hw
  rw [hv] at hw2
  rw [List.map_cons, List.map_cons, List.map_cons, ztr_ref ham, ztr_ref hvm]
  refine va_astq hF.1 hF.2.1 hF.2.2.2.2.2.2.2.2.1.1 hS.2.1 zWl_D hS.rf a 2 v 4 (r := (RX4, TX4, 3)) hw rfl hw2 rfl hi hd (fun H1 locs1 hP1 _ hS1 => ?_)
  have e1 : (Sum.inl (cy 2, N, .inr (.inr (.inr (.inr (va_up (fun k => (f k).map (fun a => b0 + a)) i.toNatClampNeg (some (b0 + v))))))) : va_E) = ztE cy b0 cs (.inl (2, N, .inr (.inr (.inr (.inr (va_up f i.toNatClampNeg (some v))))))) := by
    simp only [ztE]
    congr 7
    funext k
    by_cases hk : k = i.toNatClampNeg <;> simp [va_up, hk]
  have hP1 : va_P D vwCl ((zWl cy b0 cs n h).set a (b0 + a, .inl (cy 2, N, .inr (.inr (.inr (.inr (va_up (fun k => (f k).map (fun a => b0 + a)) i.toNatClampNeg (some (b0 + v))))))))) H1 := hP1
  rw [e1, zWl_set] at hP1
  exact hS.go hP1 hS1 (fun hS1 => kk D cy b0 cs l p e R s m args below meth c Qw H1 locs1 cells slots ls mc ms hF hS1 hL h1 h2 h3 h4 hf)
/-- a new cell is the next one -/
theorem zS.new {D : va_G} {cy : Nat → ClassId} {b0 : Nat} {cs : Nat → Nat} {s : State} {n q0 : Nat} {h : zH} {e0 : zE} {H H1 : Heap} {locs : List Loc} {cells slots : Nat} {p : Program} {l : Launch} {e : Env} {R : Room} {m : MethodId} {args : Array Value} {below : List Frame} {meth : Method} {c : Code} {Qw : State → Prop} {pc : Nat} {ls : Array Slot} {st : List Value}
    (hS : zS D cy b0 cs s n h H locs cells) (hP1 : va_P D vwCl (zWl cy b0 cs n h ++ [(q0, ztE cy b0 cs e0)]) H1) (hD1 : va_D (fun q => b0 ≤ q) (zWl cy b0 cs n h ++ [(q0, ztE cy b0 cs e0)])) (hS1 : va_S (fun q => b0 ≤ q) H H1 locs) (kk : zS D cy b0 cs s (n + 1) (va_up h n e0) H1 locs (cells + 1) → W p l e R s m args below meth c H1 locs (cells + 1) slots Qw (F0 m pc ls (.ref (b0 + n) :: st))) : W p l e R s m args below meth c H1 locs (cells + 1) slots Qw (F0 m pc ls (.ref q0 :: st)) := by
  intro T hT X
  have hz := X.heapSize
  rw [hT] at hz
  have h0 := hS1.1
  have hlast : (zWl cy b0 cs n h ++ [(q0, ztE cy b0 cs e0)])[n]? = some (q0, ztE cy b0 cs e0) := by
    rw [List.getElem?_append_right (by rw [zWl_len]; exact Nat.le_refl _), zWl_len, Nat.sub_self]; rfl
  have hq1 : q0 < H1.size := (hP1 n _ hlast).lt
  have hq2 : b0 ≤ q0 := hD1.2 n _ hlast
  have hq3 : b0 + n ≤ q0 := by
    rcases Nat.lt_or_ge q0 (b0 + n) with hlt | hge
    · exfalso
      have hk : (zWl cy b0 cs n h ++ [(q0, ztE cy b0 cs e0)])[q0 - b0]? = some (b0 + (q0 - b0), ztE cy b0 cs (h (q0 - b0))) := by
        rw [List.getElem?_append_left (by rw [zWl_len]; omega)]
        exact zWl_at (by omega)
      have := hD1.1 _ _ _ _ hk hlast (show b0 + (q0 - b0) = q0 by omega)
      omega
    · exact hge
  have hs1 := hS.1
  have hs2 := hS.2.2.1
  obtain rfl : q0 = b0 + n := by omega
  rw [zWl_push] at hP1
  have hb := hS.2.2.2
  refine kk ⟨by omega, hP1, by omega, ⟨Nat.le_trans hb.1 h0, fun x g1 g2 => (hS1.2.1 x (Nat.lt_of_lt_of_le g1 hb.1) g2).trans (hb.2.1 x g1 g2), hS1.2.2⟩⟩ T hT X
theorem z_new {X : zX} {M : zM} {d k q pc : Nat} {L S : List Value} {n : Nat} {h : zH} {Q : zQ} {idx ci N : Nat} {fs : List Value} (hd : decode M.2.1 pc = .ok (.new idx, 3)) (hc : zcls M.1.cls idx ci N fs) (hn : n < 1000000) (kk : zJ X M d k q (pc + 3) L (.ref n :: S) (n + 1) (va_up h n (.inr (ci, fs))) Q) : zJ X M d (k + 1) (q + N) pc L S n h Q := by
  intro D cy b0 cs l p e R s m args below meth c Qw H locs cells slots ls mc ms hF hS hL h1 h2 h3 h4 hf
  obtain ⟨C, T, ty, hcl, hlk, hin, hini, hty, hdf, hfs⟩ := hc
  have hb0 : b0 ≤ H.size := by have := hS.1; omega
  refine va_new hF.1 hF.2.1 hF.2.2.2.2.2.1 (zKin ci C T N hcl) ty hty hF.2.2.2.2.1 (hF.2.2.2.2.2.1 _ hlk) (hF.2.2.2.2.2.1 _ hin) (hF.2.2.2.2.2.1 _ hini) hF.2.2.2.2.2.2.2.2.1.1 hS.2.1 zWl_D hS.rf (fun q g => Nat.le_trans hb0 g) hcl (fs := fs) hdf (by omega) (by omega) hd (fun q0 H1 hP1 hD1 hS1 => ?_)
  have he : (Sum.inr (ci, fs) : va_E) = ztE cy b0 cs (.inr (ci, fs)) := by simp [ztE, hfs]
  rw [he] at hP1 hD1
  refine hS.new hP1 hD1 hS1 (fun hS1 => ?_)
  have kk := kk D cy b0 cs l p e R s m args below meth c Qw H1 locs (cells + 1) (slots + N) ls mc ms hF hS1 hL (by omega) (by omega) h3 h4 hf
  rw [List.map_cons, ztr_ref hn] at kk
  exact kk
theorem z_newa {X : zX} {M : zM} {d k q pc : Nat} {L S : List Value} {n : Nat} {h : zH} {Q : zQ} {z : Int32} {N : Nat} (hd : decode M.2.1 pc = .ok (.newarray .int, 2)) (hw : Cond.arrayClass .int ∈ zU) (hz : ¬ z < 0) (hN : z.toNatClampNeg = N) (hb : N ≤ 100000) (hn : n < 1000000) (kk : zJ X M d k q (pc + 2) L (.ref n :: S) (n + 1) (va_up h n (.inl (0, N, .inl (fun _ => 0)))) Q) : zJ X M d (k + 1) (q + N) pc L (.int z :: S) n h Q := by
  intro D cy b0 cs l p e R s m args below meth c Qw H locs cells slots ls mc ms hF hS hL h1 h2 h3 h4 hf
  have hb0 : b0 ≤ H.size := by have := hS.1; omega
  refine va_newa hF.1 hF.2.1 (atype := .int) (ty := .int) (hF.2.2.2.2.2.1 _ hw) rfl hF.2.2.2.2.2.2.2.2.1.1 hS.2.1 zWl_D hS.rf (fun q g => Nat.le_trans hb0 g) (a0 := (N, .inl (fun _ => 0))) (fun _ => rfl) hz hN (by show N * 4 ≤ _; omega) (by omega) (by omega) hd (fun q0 cA H1 hK1 hP1 hD1 hS1 => ?_)
  obtain rfl : cA = cy 0 := Option.some.inj ((hK1.2 3 (cA, .int) rfl).2.symm.trans (hK1.2 0 (cy 0, .int) rfl).2)
  refine hS.new (e0 := .inl (0, N, .inl (fun _ => 0))) hP1 hD1 hS1 (fun hS1 => ?_)
  have kk := kk D cy b0 cs l p e R s m args below meth c Qw H1 locs (cells + 1) (slots + N) ls mc ms hF hS1 hL (by omega) (by omega) h3 h4 hf
  rw [List.map_cons, ztr_ref hn] at kk
  exact kk
theorem z_newz {X : zX} {M : zM} {d k q pc : Nat} {L S : List Value} {n : Nat} {h : zH} {Q : zQ} {z : Int32} {N : Nat} (hd : decode M.2.1 pc = .ok (.newarray .boolean, 2)) (hw : Cond.arrayClass .boolean ∈ zU) (hz : ¬ z < 0) (hN : z.toNatClampNeg = N) (hb : N ≤ 100000) (hn : n < 1000000) (kk : zJ X M d k q (pc + 2) L (.ref n :: S) (n + 1) (va_up h n (.inl (1, N, .inl (fun _ => 0)))) Q) : zJ X M d (k + 1) (q + N) pc L (.int z :: S) n h Q := by
  intro D cy b0 cs l p e R s m args below meth c Qw H locs cells slots ls mc ms hF hS hL h1 h2 h3 h4 hf
  have hb0 : b0 ≤ H.size := by have := hS.1; omega
  refine va_newa hF.1 hF.2.1 (atype := .boolean) (ty := .boolean) (hF.2.2.2.2.2.1 _ hw) rfl hF.2.2.2.2.2.2.2.2.1.1 hS.2.1 zWl_D hS.rf (fun q g => Nat.le_trans hb0 g) (a0 := (N, .inl (fun _ => 0))) (fun _ => rfl) hz hN (by show N * 1 ≤ _; omega) (by omega) (by omega) hd (fun q0 cA H1 hK1 hP1 hD1 hS1 => ?_)
  obtain rfl : cA = cy 1 := Option.some.inj ((hK1.2 3 (cA, .boolean) rfl).2.symm.trans (hK1.2 1 (cy 1, .boolean) rfl).2)
  refine hS.new (e0 := .inl (1, N, .inl (fun _ => 0))) hP1 hD1 hS1 (fun hS1 => ?_)
  have kk := kk D cy b0 cs l p e R s m args below meth c Qw H1 locs (cells + 1) (slots + N) ls mc ms hF hS1 hL (by omega) (by omega) h3 h4 hf
  rw [List.map_cons, ztr_ref hn] at kk
  exact kk
theorem z_newq {X : zX} {M : zM} {d k q pc : Nat} {L S : List Value} {n : Nat} {h : zH} {Q : zQ} {idx : Nat} {z : Int32} {N : Nat} (hd : decode M.2.1 pc = .ok (.anewarray idx, 3)) (hlk : Cond.classLink M.1.cls idx "PaperTrellis$Scene" ∈ zU) (hz : ¬ z < 0) (hN : z.toNatClampNeg = N) (hb : N ≤ 100000) (hn : n < 1000000) (kk : zJ X M d k q (pc + 3) L (.ref n :: S) (n + 1) (va_up h n (.inl (2, N, .inr (.inr (.inr (.inr (fun _ => none))))))) Q) : zJ X M d (k + 1) (q + N) pc L (.int z :: S) n h Q := by
  intro D cy b0 cs l p e R s m args below meth c Qw H locs cells slots ls mc ms hF hS hL h1 h2 h3 h4 hf
  have hb0 : b0 ≤ H.size := by have := hS.1; omega
  refine va_newq hF.1 hF.2.1 hF.2.2.2.2.1 (hF.2.2.2.2.2.1 _ hlk) hF.2.2.2.2.2.2.2.2.1.2.2.1 hF.2.2.2.2.2.2.2.2.1.1 hS.2.1 zWl_D hS.rf (fun q g => Nat.le_trans hb0 g) hz hN (by omega) (by omega) (by omega) hd (fun q0 cA H1 hK1 hP1 hD1 hS1 => ?_)
  obtain ⟨_, _, -, -, -, e1⟩ := (hK1.2 3 (cA, .object "PaperTrellis$Scene") rfl).2
  obtain ⟨_, _, -, -, -, e2⟩ := (hK1.2 2 (cy 2, .object "PaperTrellis$Scene") rfl).2
  obtain rfl : cA = cy 2 := Option.some.inj (e1.symm.trans e2)
  refine hS.new (e0 := .inl (2, N, .inr (.inr (.inr (.inr (fun _ => none)))))) hP1 hD1 hS1 (fun hS1 => ?_)
  have kk := kk D cy b0 cs l p e R s m args below meth c Qw H1 locs (cells + 1) (slots + N) ls mc ms hF hS1 hL (by omega) (by omega) h3 h4 hf
  rw [List.map_cons, ztr_ref hn] at kk
  exact kk
theorem z_sld {X : zX} {M : zM} {d k q pc : Nat} {L S : List Value} {n : Nat} {h : zH} {Q : zQ} {i : Int32} (hd : decode M.2.1 pc = .ok (.iaload, 1)) (hi : vp_in i X.1) (kk : zJ X M d k q (pc + 1) L (.int (X.2 i.toNatClampNeg) :: S) n h Q) : zJ X M d k q pc L (.int i :: .ref 1000000 :: S) n h Q := by
  intro D cy b0 cs l p e R s m args below meth c Qw H locs cells slots ls mc ms hF hS hL h1 h2 h3 h4 hf
  obtain ⟨-, -, -, hX, hx0, hb, -⟩ := hF.2.2.2.2.2.2.2.2.1
  exact va_sld hF.1 hF.2.1 hX (Nat.lt_of_lt_of_le hx0 hb) (Nat.not_le.mpr hx0) hS.2.2.2 hi hd (kk D cy b0 cs l p e R s m args below meth c Qw H locs cells slots ls mc ms hF hS hL h1 h2 h3 h4 hf)
theorem z_slen {X : zX} {M : zM} {d k q pc : Nat} {L S : List Value} {n : Nat} {h : zH} {Q : zQ} (hd : decode M.2.1 pc = .ok (.arraylength, 1)) (kk : zJ X M d k q (pc + 1) L (.int (Int32.ofNat X.1) :: S) n h Q) : zJ X M d k q pc L (.ref 1000000 :: S) n h Q := by
  intro D cy b0 cs l p e R s m args below meth c Qw H locs cells slots ls mc ms hF hS hL h1 h2 h3 h4 hf
  obtain ⟨-, -, -, hX, hx0, hb, -⟩ := hF.2.2.2.2.2.2.2.2.1
  exact va_slen hF.1 hF.2.1 hX (Nat.lt_of_lt_of_le hx0 hb) (Nat.not_le.mpr hx0) hS.2.2.2 hd (kk D cy b0 cs l p e R s m args below meth c Qw H locs cells slots ls mc ms hF hS hL h1 h2 h3 h4 hf)
theorem z_getT {X : zX} {M : zM} {d k q pc : Nat} {L S : List Value} {n : Nat} {h : zH} {Q : zQ} {idx : Nat} (hd : decode M.2.1 pc = .ok (.getstatic idx, 3)) (hl : Cond.fieldLink M.1.cls idx "PaperTrellis" "THOUSANDS" "[J" ∈ zU) (kk : zJ X M d k q (pc + 3) L (.ref 1000001 :: S) n h Q) : zJ X M d k q pc L S n h Q := by
  intro D cy b0 cs l p e R s m args below meth c Qw H locs cells slots ls mc ms hF hS hL h1 h2 h3 h4 hf
  obtain ⟨-, -, -, -, -, -, hZ, -⟩ := hF.2.2.2.2.2.2.2.2.1
  exact va_gets hF.1 hF.2.1 hZ hS.2.2.2 hF.2.2.2.2.1 (hF.2.2.2.2.2.1 _ hl) (fun _ z => z) hd (kk D cy b0 cs l p e R s m args below meth c Qw H locs cells slots ls mc ms hF hS hL h1 h2 h3 h4 hf)
theorem z_getP {X : zX} {M : zM} {d k q pc : Nat} {L S : List Value} {n : Nat} {h : zH} {Q : zQ} {idx : Nat} (hd : decode M.2.1 pc = .ok (.getstatic idx, 3)) (hl : Cond.fieldLink M.1.cls idx "PaperTrellis" "POWERS_OF_FOUR" "[I" ∈ zU) (kk : zJ X M d k q (pc + 3) L (.ref 1000002 :: S) n h Q) : zJ X M d k q pc L S n h Q := by
  intro D cy b0 cs l p e R s m args below meth c Qw H locs cells slots ls mc ms hF hS hL h1 h2 h3 h4 hf
  obtain ⟨-, -, -, -, -, -, -, -, hZ, -⟩ := hF.2.2.2.2.2.2.2.2.1
  exact va_gets hF.1 hF.2.1 hZ hS.2.2.2 hF.2.2.2.2.1 (hF.2.2.2.2.2.1 _ hl) (fun _ z => z) hd (kk D cy b0 cs l p e R s m args below meth c Qw H locs cells slots ls mc ms hF hS hL h1 h2 h3 h4 hf)
theorem z_laldT {X : zX} {M : zM} {d k q pc : Nat} {L S : List Value} {n : Nat} {h : zH} {Q : zQ} {i : Int32} (hd : decode M.2.1 pc = .ok (.laload, 1)) (hi : vp_in i 5) (kk : zJ X M d k q (pc + 1) L (zThou i.toNatClampNeg :: S) n h Q) : zJ X M d k q pc L (.int i :: .ref 1000001 :: S) n h Q := by
  intro D cy b0 cs l p e R s m args below meth c Qw H locs cells slots ls mc ms hF hS hL h1 h2 h3 h4 hf
  obtain ⟨-, -, -, -, -, -, -, hT, -⟩ := hF.2.2.2.2.2.2.2.2.1
  exact va_tl hF.1 hF.2.1 hT hS.2.2.2 hi rfl hd (kk D cy b0 cs l p e R s m args below meth c Qw H locs cells slots ls mc ms hF hS hL h1 h2 h3 h4 hf)
theorem z_ialdP {X : zX} {M : zM} {d k q pc : Nat} {L S : List Value} {n : Nat} {h : zH} {Q : zQ} {i : Int32} (hd : decode M.2.1 pc = .ok (.iaload, 1)) (hi : vp_in i 6) (kk : zJ X M d k q (pc + 1) L (zPow i.toNatClampNeg :: S) n h Q) : zJ X M d k q pc L (.int i :: .ref 1000002 :: S) n h Q := by
  intro D cy b0 cs l p e R s m args below meth c Qw H locs cells slots ls mc ms hF hS hL h1 h2 h3 h4 hf
  obtain ⟨-, -, -, -, -, -, -, -, -, hT⟩ := hF.2.2.2.2.2.2.2.2.1
  exact va_ti hF.1 hF.2.1 hT hS.2.2.2 hi rfl hd (kk D cy b0 cs l p e R s m args below meth c Qw H locs cells slots ls mc ms hF hS hL h1 h2 h3 h4 hf)
theorem z_copy {X : zX} {M : zM} {d k q pc : Nat} {L S : List Value} {n : Nat} {h : zH} {Q : zQ} {idx a0 a1 N0 N1 : Nat} {f g : Nat → Int32} {sp dp z : Int32} (hd : decode M.2.1 pc = .ok (.invokestatic idx, 3)) (hlk : Cond.methodLink M.1.cls idx arraycopyName ∈ zU) (hn1 : Cond.native arraycopyName ∈ zU) (hn2 : Cond.static arraycopyName ∈ zU) (hn3 : Cond.initialized "java/lang/System" ∈ zU) (ha0 : h a0 = .inl (0, N0, .inl f)) (ha1 : h a1 = .inl (0, N1, .inl g)) (ha0n : a0 < n) (ha1n : a1 < n) (ha0m : a0 < 1000000) (ha1m : a1 < 1000000)
    (g1 : ¬ sp < 0) (g2 : ¬ dp < 0) (g3 : ¬ z < 0) (g4 : sp.toNatClampNeg + z.toNatClampNeg ≤ N0) (g5 : dp.toNatClampNeg + z.toNatClampNeg ≤ N1) (hdp : 1 ≤ d) (hst : (S.map fun v => v.category).sum ≤ 8) (kk : zJ X M d k q (pc + 3) L S n (va_up h a1 (.inl (0, N1, .inl (va_cpy f g sp.toNatClampNeg dp.toNatClampNeg z.toNatClampNeg)))) Q) : zJ X M d k q pc L (.int z :: .int dp :: .ref a1 :: .int sp :: .ref a0 :: S) n h Q := by
  intro D cy b0 cs l p e R s m args below meth c Qw H locs cells slots ls mc ms hF hS hL h1 h2 h3 h4 hf
  have hw0 := zWl_at (cy := cy) (b0 := b0) (cs := cs) (h := h) ha0n
  have hw1 := zWl_at (cy := cy) (b0 := b0) (cs := cs) (h := h) ha1n
  rw [ha0] at hw0
  rw [ha1] at hw1
  obtain ⟨f1, f2, f3, f4, f5, f6, f7, f8, f9, f10, f11⟩ := id hF
  simp only [List.map_cons, ztr_ref ha0m, ztr_ref ha1m]
  refine va_copyi f1 f2 (f3.trans hL.2.1.symm) f5 (f6 _ hlk) (f6 _ hn1) (f6 _ hn2) (f6 _ hn3) f9.1 hS.2.1 zWl_D hS.rf a0 a1 0 0 hw0 hw1 rfl rfl rfl g1 g2 g3 g4 g5 (fun _ _ => rfl) (by omega) ?_ hd (fun H1 locs1 hP1 _ hS1 => ?_)
  · have : ((S.map (ztr b0 cs)).map fun v => v.category) = S.map fun v => v.category := by
      rw [List.map_map]; exact List.map_congr_left (fun v _ => ztr_cat v)
    rw [this]
    have h64 : nativeFrameWords "java/lang/System" "arraycopy" 5 + 11 ≤ 56 := by decide +kernel
    omega
  have hP1 : va_P D vwCl ((zWl cy b0 cs n h).set a1 (b0 + a1, ztE cy b0 cs (.inl (0, N1, .inl (va_cpy f g sp.toNatClampNeg dp.toNatClampNeg z.toNatClampNeg))))) H1 := hP1
  rw [zWl_set] at hP1
  exact hS.go hP1 hS1 (fun hS1 => kk D cy b0 cs l p e R s m args below meth c Qw H1 locs1 cells slots ls mc ms hF hS1 hL h1 h2 h3 h4 hf)
end
section
def zflat (av : List Value) : List Value := av.flatMap fun v => if v.category = 2 then [v, zu] else [v]
def zargs (nL : Nat) (av : List Value) : List Value := zflat av ++ List.replicate (nL - (zflat av).length) zu
theorem zflat_len (b0 : Nat) (cs : Nat → Nat) : ∀ av : List Value, (lg_sl (av.map (ztr b0 cs))).length = (zflat av).length
  | [] => rfl
  | v :: av => by
    have ih := zflat_len b0 cs av
    unfold lg_sl zflat at *
    simp only [List.map_cons, List.flatMap_cons, List.length_append, ztr_cat] at *
    rw [ih]
    by_cases hv : v.category = 2 <;> simp [hv]
theorem zflat_at (b0 : Nat) (cs : Nat → Nat) : ∀ (av : List Value) (i0 i : Nat) (v : Value), (zflat av)[i]? = some v → v ≠ zu → (i0 + i, ztr b0 cs v) ∈ lv_args i0 (av.map (ztr b0 cs))
  | [], _, i, v, h, _ => by simp [zflat] at h
  | w :: av, i0, i, v, h, hv => by
    unfold zflat at h
    rw [List.flatMap_cons] at h
    rw [List.map_cons]
    unfold lv_args
    rw [ztr_cat]
    by_cases hw : w.category = 2
    · rw [if_pos hw] at h ⊢
      match i, h with
      | 0, h => simp at h; subst h; exact List.mem_cons_self
      | 1, h => simp at h; exact absurd h.symm hv
      | i + 2, h =>
        refine List.mem_cons_of_mem _ ?_
        have h : (zflat av)[i]? = some v := by simpa [zflat] using h
        have := zflat_at b0 cs av (i0 + 2) i v h hv
        rwa [show i0 + 2 + i = i0 + (i + 2) by omega] at this
    · rw [if_neg hw] at h ⊢
      match i, h with
      | 0, h => simp at h; subst h; exact List.mem_cons_self
      | i + 1, h =>
        refine List.mem_cons_of_mem _ ?_
        have h : (zflat av)[i]? = some v := by simpa [zflat] using h
        have := zflat_at b0 cs av (i0 + 1) i v h hv
        rwa [show i0 + 1 + i = i0 + (i + 1) by omega] at this
theorem zargs_L {b0 : Nat} {cs : Nat → Nat} {nL : Nat} {av : List Value} (hlen : (zflat av).length ≤ nL) : zL b0 cs ((lg_sl (av.map (ztr b0 cs)) ++ List.replicate (nL - (lg_sl (av.map (ztr b0 cs))).length) Slot.unset).toArray) nL (zargs nL av) := by
  have hl := lv_entry (av.map (ztr b0 cs)) (n := nL) (by rw [zflat_len]; exact hlen)
  refine ⟨by simp [zargs]; omega, hl.1, hl.2.1, fun i v hi hv => ?_⟩
  by_cases hil : i < (zflat av).length
  · unfold zargs at hi
    rw [List.getElem?_append_left hil] at hi
    have := hl.2.2 _ (zflat_at b0 cs av 0 i v hi hv)
    simpa using this
  · unfold zargs at hi
    rw [List.getElem?_append_right (by omega)] at hi
    have := List.eq_of_mem_replicate (List.mem_of_getElem? hi)
    exact absurd this hv
def zPc (X : zX) (D : va_G) (cy : Nat → ClassId) (b0 : Nat) (cs : Nat → Nat) (av : List Value) (n : Nat) (h : zH) : Array Value → State → Prop := va_Pc (av.map (ztr b0 cs)) (fun U => U.heap.size = b0 + n ∧ va_P D vwCl (zWl cy b0 cs n h) U.heap ∧ zG X D cy b0 cs U)
def zQc (D : va_G) (cy : Nat → ClassId) (b0 : Nat) (cs : Nat → Nat) (k : Nat) (Q : zQ) : Array Value → State → Outcome → State → Prop := fun _ st o t => (∃ r n' h', o = .returned r ∧ r.map (ztr b0 cs) = r ∧ Q r n' h' ∧ t.heap.size = b0 + n' ∧ va_P D vwCl (zWl cy b0 cs n' h') t.heap ∧ t.heap.size = st.heap.size + k) ∧ va_F (fun q => b0 ≤ q) st t
abbrev zrm (d k q : Nat) : Room := { frames := d, cells := k, slots := q, locals := 64 * d }
abbrev zws (M : zM) : List Cond := Cond.code M.1 M.2.1 M.2.2.1 M.2.2.2 :: zU
theorem zMet {X : zX} {M : zM} {d k q : Nat} {av Lc : List Value} {n : Nat} {h : zH} {Q : zQ} (hp : plainName M.1.cls = true) (hlen : (zflat av).length ≤ M.2.2.1) (hLc : zargs M.2.2.1 av = Lc) (hJ : zJ X M d k q 0 Lc [] n h Q) (D : va_G) (cy : Nat → ClassId) (b0 : Nat) (cs : Nat → Nat) (l : Launch) :
    Met l M.1 (zws M) (zrm d k q) (zPc X D cy b0 cs av n h) (zQc D cy b0 cs k Q) k q (fun q => b0 ≤ q) := by
  subst hLc
  refine Met.ofW (cc := M.2.1) (maxL := M.2.2.1) (ret := M.2.2.2) hp rfl ?_
  intro p e s m args below meth c s₁ B hml hv
  obtain ⟨rfl, hsz, hP, hG⟩ := hv
  have hts := atoms_spec (ws := zws M) B.pre
  have hown : s.vm.findClass M.1.cls = some m.cls := findClass_of_methodNamed B.named
  have hnm : meth.name = M.1.name := (name_of_methodNamed B.named B.method).1
  rw [lg_entry_eq]
  refine hJ D cy b0 cs l p e _ s m _ below meth c _ s.heap [] 0 0 _ k q ⟨B.exec, B.bytes, hml, B.returns, hown, fun w hw => hts w (List.mem_cons_of_mem _ hw), B.notSynchronized, fun h => hnm.trans h, hG, Nat.le_refl _, Nat.le_refl _⟩ ⟨hsz, hP, rfl, va_S.rf⟩ (zargs_L hlen) (Nat.zero_add _) (Nat.le_of_eq (Nat.zero_add _)) (Nat.le_refl _) (Nat.le_refl _) ?_
  intro r n' h' H' locs' slots' pc' ls' hq hS' hsl hend
  refine W.widen (Nat.le_refl _) hsl ?_
  rcases hend with ⟨rfl, hr, hd⟩ | ⟨v, ty, rfl, hr, hn, hd⟩ | ⟨v, rfl, hr, hd⟩
  · exact W.vret B.exec B.bytes (B.returns.trans hr) (fun t ht _ => ⟨⟨none, n', h', rfl, rfl, hq, by rw [ht]; exact hS'.1, by rw [ht]; exact hS'.2.1, by rw [ht]; exact hS'.2.2.1⟩, hS'.2.2.2.F ht⟩) (fun q hq => hS'.2.2.2.2.2 q hq) hd
  · exact W.zret B.exec B.bytes (B.returns.trans hr) hn (fun t ht _ => ⟨⟨some (.int v), n', h', rfl, rfl, hq, by rw [ht]; exact hS'.1, by rw [ht]; exact hS'.2.1, by rw [ht]; exact hS'.2.2.1⟩, hS'.2.2.2.F ht⟩) (fun q hq => hS'.2.2.2.2.2 q hq) hd
  · exact W.lret B.exec B.bytes (B.returns.trans hr) (fun t ht _ => ⟨⟨some (.long v), n', h', rfl, rfl, hq, by rw [ht]; exact hS'.1, by rw [ht]; exact hS'.2.1, by rw [ht]; exact hS'.2.2.1⟩, hS'.2.2.2.F ht⟩) (fun q hq => hS'.2.2.2.2.2 q hq) hd
theorem zG.moved {X : zX} {D : va_G} {cy : Nat → ClassId} {b0 : Nat} {cs : Nat → Nat} {s U : State} {H : Heap} {locs : List Loc} (hG : zG X D cy b0 cs s) (hS : va_S (fun q => b0 ≤ q) s.heap H locs) (hU : U.heap = H) (hW : s.WarmedH U.vm) : zG X D cy b0 cs U := by
  obtain ⟨g1, g2, g3, g4, g5, g6, g7, g8, g9, g10⟩ := hG
  have hk : ∀ a : Nat, a < s.heap.size → ¬ (fun q => b0 ≤ q) a → U.heap[a]? = s.heap[a]? := fun a ha hb => by rw [hU]; exact hS.2.1 a ha hb
  have hv := hW.alike
  exact ⟨g1.moved hv, fun q hq => va_Nw.warmM hW (g2 q hq), g3.moved hv, (g4.kept (hk _ (Nat.lt_of_lt_of_le g5 g6) (Nat.not_le.mpr g5))).moved hv, g5, by rw [hU]; exact Nat.le_trans g6 hS.1, (g7.kept hk).moved hv, (g8.kept hk).moved hv, (g9.kept hk).moved hv, (g10.kept hk).moved hv⟩
theorem zPc_blind {X : zX} {D : va_G} {cy : Nat → ClassId} {b0 : Nat} {cs : Nat → Nat} {av : List Value} {n : Nat} {h : zH} : FrameBlind (zPc X D cy b0 cs av n h) := by
  intro a U g mk hq
  obtain ⟨q1, q2, q3, q4⟩ := hq
  exact ⟨q1, q2, q3, q4.moved (H := U.heap) (locs := []) va_S.rf rfl (State.WarmedH.refl U)⟩
/-- behind a call -/
theorem zback {D : va_G} {cy : Nat → ClassId} {b0 : Nat} {cs : Nat → Nat} {s : State} {n : Nat} {h : zH} {H : Heap} {locs : List Loc} {cells slots : Nat} {p : Program} {l : Launch} {e : Env} {R : Room} {m : MethodId} {args : Array Value} {below : List Frame} {meth : Method} {c : Code} {Qw : State → Prop} {pc k1 q1 : Nat} {ls : Array Slot} {st0 rest : List Value} {Q' : zQ} {a : Array Value}
    (hS : zS D cy b0 cs s n h H locs cells) (hr : va_Run p l e R s m args below meth c H locs cells slots k1 q1 (F0 m pc ls st0) rest (zQc D cy b0 cs k1 Q' a) (fun q => b0 ≤ q))
    (kk : ∀ r n' h' H1 locs1, Q' r n' h' → r.map (ztr b0 cs) = r → zS D cy b0 cs s n' h' H1 locs1 (cells + k1) → W p l e R s m args below meth c H1 locs1 (cells + k1) (slots + q1) Qw (F0 m (pc + 3) ls (r.toList ++ rest))) : W p l e R s m args below meth c H locs cells slots Qw (F0 m pc ls st0) := by
  intro T hT X
  obtain ⟨v, st₀, t, T', L, h0, X', hL, e1, e2, ⟨⟨r, n', h', hv, hrr, hq, z1, z2, z3⟩, hz, hk⟩, st⟩ := hr T hT X
  obtain rfl : v = r := by simpa using hv
  rw [h0] at hz hk z3
  obtain ⟨hs1, hs2, hs3, hs4⟩ := hS
  obtain ⟨t2, a1, b1⟩ := kk v n' h' T'.heap (locs ++ L) hq hrr ⟨by rw [e1]; exact z1, by rw [e1]; exact z2, by rw [e1]; omega, ⟨Nat.le_trans hs4.1 (by rw [e1]; exact hz), fun q g1 g2 => by
      rw [e1, hk q (Nat.lt_of_lt_of_le g1 hs4.1) g2]; exact hs4.2.1 q g1 g2, fun q hq => by
      rcases List.mem_append.mp hq with h | h
      · exact hs4.2.2 q h
      · exact hL q h⟩⟩ T' rfl X'
  exact ⟨t2, st t2 a1, b1⟩
theorem zsum {b0 : Nat} {cs : Nat → Nat} (S : List Value) : ((S.map (ztr b0 cs)).map fun v => v.category) = S.map fun v => v.category := by
  rw [List.map_map]; exact List.map_congr_left (fun v _ => ztr_cat v)
theorem zrest {b0 : Nat} {cs : Nat → Nat} {r : Option Value} {S : List Value} (hr : r.map (ztr b0 cs) = r) : (r.toList ++ S).map (ztr b0 cs) = r.toList ++ S.map (ztr b0 cs) := by
  cases r with
  | none => rfl
  | some v =>
    simp only [Option.map_some, Option.some.injEq] at hr
    simp [hr]
/-- a callee's own facts -/
def zcal (M : zM) (na : Nat) : Prop := Cond.code M.1 M.2.1 M.2.2.1 M.2.2.2 ∈ zU ∧ Cond.initialized M.1.cls ∈ zU ∧ plainName M.1.cls = true ∧ M.1.cls ≠ "java/lang/invoke/MethodHandle" ∧ M.1.cls ≠ "java/lang/invoke/VarHandle" ∧ (parseMethodDescriptor M.1.desc).map (fun d => d.parameters.length) = some na ∧ M.2.2.1 ≤ 40
theorem zgood {M M' : zM} {na : Nat} (hc : zcal M' na) : GoodIn zU (zws M') := fun w hw => by
  rcases List.mem_cons.mp hw with rfl | hw
  · exact ⟨hc.1, good_of_word (zU_good hc.1)⟩
  · exact ⟨hw, good_of_word (zU_good hw)⟩
theorem zCallV {X : zX} {M : zM} {d k q pc : Nat} {L S : List Value} {n : Nat} {h : zH} {Q : zQ} {M' : zM} {idx na k1 q1 : Nat} {a : Nat} {As Lc : List Value} {Q' : zQ} (hd : decode M.2.1 pc = .ok (.invokevirtual idx, 3)) (hlk : Cond.methodLink M.1.cls idx M'.1 ∈ zU) (hw1 : Cond.instanceMethod M'.1 ∈ zU) (hw2 : Cond.selects M'.1.cls M'.1 M'.1 ∈ zU) {ci : Nat} {fs : List Value} {T : u_T} {N : Nat} (ha : h a = .inr (ci, fs)) (han : a < n) (hci : vwCl[ci]? = some (M'.1.cls, T, N)) (ham : a < 1000000) (hc : zcal M' na) (hna : As.length = na) (hst : (S.map fun v => v.category).sum ≤ 8) (hlen : (zflat (.ref a :: As)).length ≤ M'.2.2.1) (hLc : zargs M'.2.2.1 (.ref a :: As) = Lc)
    (hJ : zJ X M' d k1 q1 0 Lc [] n h Q') (kk : ∀ r n' h', Q' r n' h' → zJ X M (d + 1) k q (pc + 3) L (r.toList ++ S) n' h' Q) : zJ X M (d + 1) (k1 + k) (q1 + q) pc L (As.reverse ++ .ref a :: S) n h Q := by
  intro D cy b0 cs l p e R s m args below meth c Qw H locs cells slots ls mc ms hF hS hL h1 h2 h3 h4 hf
  obtain ⟨f1, f2, f3, f4, f5, f6, f7, f8, f9, f10, f11⟩ := id hF
  have hM := zMet hc.2.2.1 hlen hLc hJ D cy b0 cs l
  have hst' : ((S.map (ztr b0 cs)).map fun v => v.category).sum ≤ 8 := by rw [zsum]; exact hst
  have hR : (zrm d k1 q1).frames + 1 ≤ R.frames ∧ 8 + (M'.2.2.1 + 11) + (zrm d k1 q1).locals ≤ R.locals := ⟨f10, by have := hc.2.2.2.2.2.2; show 8 + (M'.2.2.1 + 11) + 64 * d ≤ _; omega⟩
  have hpre : ∀ U : State, U.heap = H → s.WarmedH U.vm → zPc X D cy b0 cs (.ref a :: As) n h (((.ref a :: As).map (ztr b0 cs))).toArray U := fun U hU hW => ⟨rfl, by rw [hU]; exact hS.1, by rw [hU]; exact hS.2.1, f9.moved hS.2.2.2 hU hW⟩
  rw [List.map_append, List.map_reverse]
  rw [List.map_cons] at hpre ⊢
  rw [ztr_ref ham] at hpre ⊢
  have hw := zWl_at (cy := cy) (b0 := b0) (cs := cs) (h := h) han
  rw [ha] at hw
  have cw : CallW R s args M.1.cls M'.1.cls idx M'.1 M'.2.1 M'.2.2.1 M'.2.2.2 (zws M') (zrm d k1 q1) k1 q1 na := ⟨callB_of na f6 (zgood (M := M) hc) rfl rfl rfl (f6 _ hc.2.1) (f6 _ hlk) ⟨hc.2.2.2.1, hc.2.2.2.2.1, hc.2.2.2.2.2.1⟩ hR, f6 _ hw1, f6 _ hw2⟩
  refine zback hS (va_runV (As := As.map (ztr b0 cs)) (rest := S.map (ztr b0 cs)) (C := M'.1.cls) (b := b0 + a) ⟨f1, f2, f3, f5, f6⟩ hM cw ⟨zPc_blind, va_recv f9.1 hS.2.1 hci hw, hpre⟩ rfl (by rw [List.length_map]; exact hna) hL.2.1 rfl (lv_room hst') hd ⟨by omega, by omega⟩) ?_
  intro r n' h' H1 locs1 hq hr hS1
  rw [← zrest hr]
  exact kk r n' h' hq D cy b0 cs l p e R s m args below meth c Qw H1 locs1 (cells + k1) (slots + q1) ls mc ms hF hS1 hL (by omega) (by omega) h3 h4 hf
theorem zCallS {X : zX} {M : zM} {d k q pc : Nat} {L S : List Value} {n : Nat} {h : zH} {Q : zQ} {M' : zM} {idx na k1 q1 : Nat} {As Lc : List Value} {Q' : zQ} (hd : decode M.2.1 pc = .ok (.invokestatic idx, 3)) (hlk : Cond.methodLink M.1.cls idx M'.1 ∈ zU) (hw1 : Cond.static M'.1 ∈ zU) (hc : zcal M' na) (hna : As.length = na) (hst : (S.map fun v => v.category).sum ≤ 8) (hlen : (zflat As).length ≤ M'.2.2.1) (hLc : zargs M'.2.2.1 As = Lc)
    (hJ : zJ X M' d k1 q1 0 Lc [] n h Q') (kk : ∀ r n' h', Q' r n' h' → zJ X M (d + 1) k q (pc + 3) L (r.toList ++ S) n' h' Q) : zJ X M (d + 1) (k1 + k) (q1 + q) pc L (As.reverse ++ S) n h Q := by
  intro D cy b0 cs l p e R s m args below meth c Qw H locs cells slots ls mc ms hF hS hL h1 h2 h3 h4 hf
  obtain ⟨f1, f2, f3, f4, f5, f6, f7, f8, f9, f10, f11⟩ := id hF
  have hM := zMet hc.2.2.1 hlen hLc hJ D cy b0 cs l
  have hst' : ((S.map (ztr b0 cs)).map fun v => v.category).sum ≤ 8 := by rw [zsum]; exact hst
  have hR : (zrm d k1 q1).frames + 1 ≤ R.frames ∧ 8 + (M'.2.2.1 + 11) + (zrm d k1 q1).locals ≤ R.locals := ⟨f10, by have := hc.2.2.2.2.2.2; show 8 + (M'.2.2.1 + 11) + 64 * d ≤ _; omega⟩
  have hpre : ∀ U : State, U.heap = H → s.WarmedH U.vm → zPc X D cy b0 cs As n h ((As.map (ztr b0 cs))).toArray U := fun U hU hW => ⟨rfl, by rw [hU]; exact hS.1, by rw [hU]; exact hS.2.1, f9.moved hS.2.2.2 hU hW⟩
  rw [List.map_append, List.map_reverse]
  have cw : CallB R s args M.1.cls idx M'.1 M'.2.1 M'.2.2.1 M'.2.2.2 (zws M') (zrm d k1 q1) k1 q1 na ∧ (Cond.static M'.1).before args s = true := ⟨callB_of na f6 (zgood (M := M) hc) rfl rfl rfl (f6 _ hc.2.1) (f6 _ hlk) ⟨hc.2.2.2.1, hc.2.2.2.2.1, hc.2.2.2.2.2.1⟩ hR, f6 _ hw1⟩
  refine zback hS (va_runS (As := As.map (ztr b0 cs)) (rest := S.map (ztr b0 cs)) ⟨f1, f2, f3, f5, f6⟩ hM cw ⟨zPc_blind, hpre⟩ rfl (by rw [List.length_map]; exact hna) hL.2.1 rfl (lv_room hst') hd ⟨by omega, by omega⟩) ?_
  intro r n' h' H1 locs1 hq hr hS1
  rw [← zrest hr]
  exact kk r n' h' hq D cy b0 cs l p e R s m args below meth c Qw H1 locs1 (cells + k1) (slots + q1) ls mc ms hF hS1 hL (by omega) (by omega) h3 h4 hf
theorem zCallI {X : zX} {M : zM} {d k q pc : Nat} {L S : List Value} {n : Nat} {h : zH} {Q : zQ} {M' : zM} {idx na k1 q1 : Nat} {a : Nat} {As Lc : List Value} {Q' : zQ} (hd : decode M.2.1 pc = .ok (.invokespecial idx, 3)) (hlk : Cond.methodLink M.1.cls idx M'.1 ∈ zU) (hw1 : Cond.instanceMethod M'.1 ∈ zU) (hw2 : M'.1.name = "<init>") (hrt : M'.2.2.2 = none) (ham : a < 1000000) (hc : zcal M' na) (hna : As.length = na) (hst : (S.map fun v => v.category).sum ≤ 8) (hlen : (zflat (.ref a :: As)).length ≤ M'.2.2.1) (hLc : zargs M'.2.2.1 (.ref a :: As) = Lc)
    (hJ : zJ X M' d k1 q1 0 Lc [] n h Q') (kk : ∀ r n' h', Q' r n' h' → zJ X M (d + 1) k q (pc + 3) L (r.toList ++ S) n' h' Q) : zJ X M (d + 1) (k1 + k) (q1 + q) pc L (As.reverse ++ .ref a :: S) n h Q := by
  intro D cy b0 cs l p e R s m args below meth c Qw H locs cells slots ls mc ms hF hS hL h1 h2 h3 h4 hf
  obtain ⟨f1, f2, f3, f4, f5, f6, f7, f8, f9, f10, f11⟩ := id hF
  have hM := zMet hc.2.2.1 hlen hLc hJ D cy b0 cs l
  have hst' : ((S.map (ztr b0 cs)).map fun v => v.category).sum ≤ 8 := by rw [zsum]; exact hst
  have hR : (zrm d k1 q1).frames + 1 ≤ R.frames ∧ 8 + (M'.2.2.1 + 11) + (zrm d k1 q1).locals ≤ R.locals := ⟨f10, by have := hc.2.2.2.2.2.2; show 8 + (M'.2.2.1 + 11) + 64 * d ≤ _; omega⟩
  have hpre : ∀ U : State, U.heap = H → s.WarmedH U.vm → zPc X D cy b0 cs (.ref a :: As) n h (((.ref a :: As).map (ztr b0 cs))).toArray U := fun U hU hW => ⟨rfl, by rw [hU]; exact hS.1, by rw [hU]; exact hS.2.1, f9.moved hS.2.2.2 hU hW⟩
  rw [List.map_append, List.map_reverse]
  rw [List.map_cons] at hpre ⊢
  rw [ztr_ref ham] at hpre ⊢
  have cw : CallB R s args M.1.cls idx M'.1 M'.2.1 M'.2.2.1 M'.2.2.2 (zws M') (zrm d k1 q1) k1 q1 na ∧ M'.1.name = "<init>" ∧ (Cond.instanceMethod M'.1).before args s = true := ⟨callB_of na f6 (zgood (M := M) hc) rfl rfl rfl (f6 _ hc.2.1) (f6 _ hlk) ⟨hc.2.2.2.1, hc.2.2.2.2.1, hc.2.2.2.2.2.1⟩ hR, hw2, f6 _ hw1⟩
  rw [hrt] at cw
  refine zback hS (va_runI (As := As.map (ztr b0 cs)) (rest := S.map (ztr b0 cs)) (b := b0 + a) ⟨f1, f2, f3, f5, f6⟩ hM cw ⟨zPc_blind, hpre⟩ rfl (by rw [List.length_map]; exact hna) hL.2.1 rfl (lv_room hst') hd ⟨by omega, by omega⟩) ?_
  intro r n' h' H1 locs1 hq hr hS1
  rw [← zrest hr]
  exact kk r n' h' hq D cy b0 cs l p e R s m args below meth c Qw H1 locs1 (cells + k1) (slots + q1) ls mc ms hF hS1 hL (by omega) (by omega) h3 h4 hf
theorem zCallSN {X : zX} {M : zM} {d k q pc : Nat} {L S : List Value} {n : Nat} {h : zH} {Q : zQ} {M' : zM} {idx na k1 q1 : Nat} {As Lc : List Value} {Q' : zQ} (hd : decode M.2.1 pc = .ok (.invokestatic idx, 3)) {host : String} (hlk : (M.1.cls, idx, M'.1, host) ∈ zN) (hw1 : Cond.static M'.1 ∈ zU) (hc : zcal M' na) (hna : As.length = na) (hst : (S.map fun v => v.category).sum ≤ 8) (hlen : (zflat As).length ≤ M'.2.2.1) (hLc : zargs M'.2.2.1 As = Lc)
    (hJ : zJ X M' d k1 q1 0 Lc [] n h Q') (kk : ∀ r n' h', Q' r n' h' → zJ X M (d + 1) k q (pc + 3) L (r.toList ++ S) n' h' Q) : zJ X M (d + 1) (k1 + k) (q1 + q) pc L (As.reverse ++ S) n h Q := by
  intro D cy b0 cs l p e R s m args below meth c Qw H locs cells slots ls mc ms hF hS hL h1 h2 h3 h4 hf
  obtain ⟨f1, f2, f3, f4, f5, f6, f7, f8, f9, f10, f11⟩ := id hF
  have hM := zMet hc.2.2.1 hlen hLc hJ D cy b0 cs l
  have hst' : ((S.map (ztr b0 cs)).map fun v => v.category).sum ≤ 8 := by rw [zsum]; exact hst
  have hR : (zrm d k1 q1).frames + 1 ≤ R.frames ∧ 8 + (M'.2.2.1 + 11) + (zrm d k1 q1).locals ≤ R.locals := ⟨f10, by have := hc.2.2.2.2.2.2; show 8 + (M'.2.2.1 + 11) + 64 * d ≤ _; omega⟩
  have hpre : ∀ U : State, U.heap = H → s.WarmedH U.vm → zPc X D cy b0 cs As n h ((As.map (ztr b0 cs))).toArray U := fun U hU hW => ⟨rfl, by rw [hU]; exact hS.1, by rw [hU]; exact hS.2.1, f9.moved hS.2.2.2 hU hW⟩
  rw [List.map_append, List.map_reverse]
  have cw := va_cnB (R := R) (args := args) (mc := k1) (ms := q1) (rm := zrm d k1 q1) na f6 (zgood (M := M) hc) rfl rfl rfl (f9.2.1 _ hlk) (f6 _ hc.2.1) ⟨hc.2.2.2.1, hc.2.2.2.2.1, hc.2.2.2.2.2.1⟩ hR
  refine zback hS (va_runSN (As := As.map (ztr b0 cs)) (rest := S.map (ztr b0 cs)) ⟨f1, f2, f3, f5, f6⟩ hM ⟨cw, f6 _ hw1, trivial⟩ ⟨zPc_blind, hpre⟩ rfl (by rw [List.length_map]; exact hna) hL.2.1 rfl (lv_room hst') hd ⟨by omega, by omega⟩) ?_
  intro r n' h' H1 locs1 hq hr hS1
  rw [← zrest hr]
  exact kk r n' h' hq D cy b0 cs l p e R s m args below meth c Qw H1 locs1 (cells + k1) (slots + q1) ls mc ms hF hS1 hL (by omega) (by omega) h3 h4 hf
theorem zCallIN {X : zX} {M : zM} {d k q pc : Nat} {L S : List Value} {n : Nat} {h : zH} {Q : zQ} {M' : zM} {idx na k1 q1 : Nat} {a : Nat} {As Lc : List Value} {Q' : zQ} (hd : decode M.2.1 pc = .ok (.invokespecial idx, 3)) {host : String} (hlk : (M.1.cls, idx, M'.1, host) ∈ zN) (hw1 : Cond.instanceMethod M'.1 ∈ zU) (hw2 : M'.1.name = "<init>") (hrt : M'.2.2.2 = none) (ham : a < 1000000) (hc : zcal M' na) (hna : As.length = na) (hst : (S.map fun v => v.category).sum ≤ 8) (hlen : (zflat (.ref a :: As)).length ≤ M'.2.2.1) (hLc : zargs M'.2.2.1 (.ref a :: As) = Lc)
    (hJ : zJ X M' d k1 q1 0 Lc [] n h Q') (kk : ∀ r n' h', Q' r n' h' → zJ X M (d + 1) k q (pc + 3) L (r.toList ++ S) n' h' Q) : zJ X M (d + 1) (k1 + k) (q1 + q) pc L (As.reverse ++ .ref a :: S) n h Q := by
  intro D cy b0 cs l p e R s m args below meth c Qw H locs cells slots ls mc ms hF hS hL h1 h2 h3 h4 hf
  obtain ⟨f1, f2, f3, f4, f5, f6, f7, f8, f9, f10, f11⟩ := id hF
  have hM := zMet hc.2.2.1 hlen hLc hJ D cy b0 cs l
  have hst' : ((S.map (ztr b0 cs)).map fun v => v.category).sum ≤ 8 := by rw [zsum]; exact hst
  have hR : (zrm d k1 q1).frames + 1 ≤ R.frames ∧ 8 + (M'.2.2.1 + 11) + (zrm d k1 q1).locals ≤ R.locals := ⟨f10, by have := hc.2.2.2.2.2.2; show 8 + (M'.2.2.1 + 11) + 64 * d ≤ _; omega⟩
  have hpre : ∀ U : State, U.heap = H → s.WarmedH U.vm → zPc X D cy b0 cs (.ref a :: As) n h (((.ref a :: As).map (ztr b0 cs))).toArray U := fun U hU hW => ⟨rfl, by rw [hU]; exact hS.1, by rw [hU]; exact hS.2.1, f9.moved hS.2.2.2 hU hW⟩
  rw [List.map_append, List.map_reverse]
  rw [List.map_cons] at hpre ⊢
  rw [ztr_ref ham] at hpre ⊢
  have cw := va_cnB (R := R) (args := args) (mc := k1) (ms := q1) (rm := zrm d k1 q1) na f6 (zgood (M := M) hc) rfl rfl rfl (f9.2.1 _ hlk) (f6 _ hc.2.1) ⟨hc.2.2.2.1, hc.2.2.2.2.1, hc.2.2.2.2.2.1⟩ hR
  rw [hrt] at cw
  refine zback hS (va_runIN (As := As.map (ztr b0 cs)) (rest := S.map (ztr b0 cs)) (b := b0 + a) ⟨f1, f2, f3, f5, f6⟩ hM ⟨cw, hw2, f6 _ hw1⟩ ⟨zPc_blind, hpre⟩ rfl (by rw [List.length_map]; exact hna) hL.2.1 rfl (lv_room hst') hd ⟨by omega, by omega⟩) ?_
  intro r n' h' H1 locs1 hq hr hS1
  rw [← zrest hr]
  exact kk r n' h' hq D cy b0 cs l p e R s m args below meth c Qw H1 locs1 (cells + k1) (slots + q1) ls mc ms hF hS1 hL (by omega) (by omega) h3 h4 hf
theorem z_objInit {X : zX} {M : zM} {d k q pc : Nat} {L S : List Value} {n : Nat} {h : zH} {Q : zQ} {idx a : Nat} (hd : decode M.2.1 pc = .ok (.invokespecial idx, 3)) (hlk : Cond.methodLink M.1.cls idx Lib.objectInit ∈ zU) (hw1 : Cond.instanceMethod Lib.objectInit ∈ zU) (hw2 : Cond.code Lib.objectInit ⟨#[0xb1]⟩ 1 none ∈ zU) (hst : (S.map fun v => v.category).sum ≤ 8) (hdp : 1 ≤ d) (kk : zJ X M d k q (pc + 3) L S n h Q) : zJ X M d k q pc L (.ref a :: S) n h Q := by
  intro D cy b0 cs l p e R s m args below meth c Qw H locs cells slots ls mc ms hF hS hL h1 h2 h3 h4 hf
  obtain ⟨f1, f2, f3, f4, f5, f6, f7, f8, f9, f10, f11⟩ := id hF
  have hst' : ((S.map (ztr b0 cs)).map fun v => v.category).sum ≤ 8 := by rw [zsum]; exact hst
  refine W.objInit f1 f2 f5 (f6 _ hlk) (f6 _ hw1) (f6 _ hw2) rfl (hL.2.1.trans f3.symm) rfl hd (by omega) ?_ (kk D cy b0 cs l p e R s m args below meth c Qw H locs cells slots ls mc ms hF hS hL h1 h2 h3 h4 hf)
  show 2 * 0 + _ + 12 ≤ _
  omega
theorem z_min {X : zX} {M : zM} {d k q pc : Nat} {L S : List Value} {n : Nat} {h : zH} {Q : zQ} {idx : Nat} {x y : Int32} (hd : decode M.2.1 pc = .ok (.invokestatic idx, 3)) (hlk : Cond.methodLink M.1.cls idx Lib.Math.min.name ∈ zU) (hw1 : Cond.static Lib.Math.min.name ∈ zU) (hw2 : Cond.initialized "java/lang/Math" ∈ zU) (hw3 : Cond.code Lib.Math.min.name Lib.Math.min.code 2 (some .int) ∈ zU) (hst : (S.map fun v => v.category).sum ≤ 8) (hdp : 1 ≤ d) (kk : zJ X M d k q (pc + 3) L (.int (if y < x then y else x) :: S) n h Q) : zJ X M d k q pc L (.int y :: .int x :: S) n h Q := by
  intro D cy b0 cs l p e R s m args below meth c Qw H locs cells slots ls mc ms hF hS hL h1 h2 h3 h4 hf
  obtain ⟨f1, f2, f3, f4, f5, f6, f7, f8, f9, f10, f11⟩ := id hF
  have hst' : ((S.map (ztr b0 cs)).map fun v => v.category).sum ≤ 8 := by rw [zsum]; exact hst
  have kk := kk D cy b0 cs l p e R s m args below meth c Qw H locs cells slots ls mc ms hF hS hL h1 h2 h3 h4 hf
  exact va_mmin f1 f2 (f3.trans hL.2.1.symm) f5 (f6 _ hlk) (f6 _ hw1) (f6 _ hw2) (f6 _ hw3) (by omega) (by omega) (by omega) (by omega) hd kk
theorem z_abs {X : zX} {M : zM} {d k q pc : Nat} {L S : List Value} {n : Nat} {h : zH} {Q : zQ} {idx : Nat} {x : Int32} (hd : decode M.2.1 pc = .ok (.invokestatic idx, 3)) (hlk : Cond.methodLink M.1.cls idx Lib.Math.abs.name ∈ zU) (hw1 : Cond.static Lib.Math.abs.name ∈ zU) (hw2 : Cond.initialized "java/lang/Math" ∈ zU) (hw3 : Cond.code Lib.Math.abs.name Lib.Math.abs.code 1 (some .int) ∈ zU) (hst : (S.map fun v => v.category).sum ≤ 8) (hdp : 1 ≤ d) (kk : zJ X M d k q (pc + 3) L (.int (if 0 ≤ x then x else 0 - x) :: S) n h Q) : zJ X M d k q pc L (.int x :: S) n h Q := by
  intro D cy b0 cs l p e R s m args below meth c Qw H locs cells slots ls mc ms hF hS hL h1 h2 h3 h4 hf
  obtain ⟨f1, f2, f3, f4, f5, f6, f7, f8, f9, f10, f11⟩ := id hF
  have hst' : ((S.map (ztr b0 cs)).map fun v => v.category).sum ≤ 8 := by rw [zsum]; exact hst
  have kk := kk D cy b0 cs l p e R s m args below meth c Qw H locs cells slots ls mc ms hF hS hL h1 h2 h3 h4 hf
  exact va_mabs f1 f2 (f3.trans hL.2.1.symm) f5 (f6 _ hlk) (f6 _ hw1) (f6 _ hw2) (f6 _ hw3) (by omega) (by omega) (by omega) (by omega) hd kk
end
section
theorem tt1 : Cond.methodLink RX1 47 yJ9_min_7cf53 ∈ zU := zin 597 rfl rfl
theorem tt2 : Cond.methodLink RX6 39 yJ9_abs_0f7a4 ∈ zU := zin 662 rfl rfl
theorem tt3 : Cond.code yJ9_abs_0f7a4 cJ9_abs_0f7a4 1 (some .int) ∈ zU := zin 664 rfl rfl
end
