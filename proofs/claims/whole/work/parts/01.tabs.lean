-- ===== PART A: goes FIRST, ahead of the names: the tables' words, and 'selects' of the private methods out of them =====
/-- a private method of a class that the tables say can be made, by its rows of tables_1 -/
def lw_okq (q : MethodName × Nat) : Prop := (q.1.cls ≠ "java/lang/invoke/MethodHandle" ∧ q.1.cls ≠ "java/lang/invoke/VarHandle") ∧ Cond.instantiable q.1.cls q.2 ∈ tables_1 ∧ Cond.privateMethod q.1 ∈ tables_1 ∧ Cond.instanceMethod q.1 ∈ tables_1
theorem lw_p0 : lw_okq (⟨"BoardMill", "happened", "(I)Z"⟩, 20) := ⟨⟨by decide +kernel, by decide +kernel⟩, List.mem_of_getElem? (i := 30) (by decide +kernel), List.mem_of_getElem? (i := 650) (by decide +kernel), List.mem_of_getElem? (i := 651) (by decide +kernel)⟩
theorem lw_p1 : lw_okq (⟨"BoardMill", "answe\x72", "(I)I"⟩, 20) := ⟨⟨by decide +kernel, by decide +kernel⟩, List.mem_of_getElem? (i := 30) (by decide +kernel), List.mem_of_getElem? (i := 654) (by decide +kernel), List.mem_of_getElem? (i := 655) (by decide +kernel)⟩
theorem lw_p2 : lw_okq (⟨"BoardMill", "feedWord", "(I)V"⟩, 20) := ⟨⟨by decide +kernel, by decide +kernel⟩, List.mem_of_getElem? (i := 30) (by decide +kernel), List.mem_of_getElem? (i := 658) (by decide +kernel), List.mem_of_getElem? (i := 659) (by decide +kernel)⟩
theorem lw_p3 : lw_okq (⟨"BoardMill", "takeText", "(I)I"⟩, 20) := ⟨⟨by decide +kernel, by decide +kernel⟩, List.mem_of_getElem? (i := 30) (by decide +kernel), List.mem_of_getElem? (i := 670) (by decide +kernel), List.mem_of_getElem? (i := 671) (by decide +kernel)⟩
theorem lw_p4 : lw_okq (⟨"BoardMill$SheetReade\x72", "readLists", "()V"⟩, 8) := ⟨⟨by decide +kernel, by decide +kernel⟩, List.mem_of_getElem? (i := 93) (by decide +kernel), List.mem_of_getElem? (i := 685) (by decide +kernel), List.mem_of_getElem? (i := 686) (by decide +kernel)⟩
theorem lw_p5 : lw_okq (⟨"BoardMill$SheetReade\x72", "skipBlanks", "()V"⟩, 8) := ⟨⟨by decide +kernel, by decide +kernel⟩, List.mem_of_getElem? (i := 93) (by decide +kernel), List.mem_of_getElem? (i := 689) (by decide +kernel), List.mem_of_getElem? (i := 690) (by decide +kernel)⟩
theorem lw_p6 : lw_okq (⟨"BoardMill$SheetReade\x72", "peek", "()I"⟩, 8) := ⟨⟨by decide +kernel, by decide +kernel⟩, List.mem_of_getElem? (i := 93) (by decide +kernel), List.mem_of_getElem? (i := 693) (by decide +kernel), List.mem_of_getElem? (i := 694) (by decide +kernel)⟩
theorem lw_p7 : lw_okq (⟨"BoardMill$SheetReade\x72", "fail", "(I)V"⟩, 8) := ⟨⟨by decide +kernel, by decide +kernel⟩, List.mem_of_getElem? (i := 93) (by decide +kernel), List.mem_of_getElem? (i := 697) (by decide +kernel), List.mem_of_getElem? (i := 698) (by decide +kernel)⟩
theorem lw_p8 : lw_okq (⟨"BoardMill$SheetReade\x72", "readList", "(I)I"⟩, 8) := ⟨⟨by decide +kernel, by decide +kernel⟩, List.mem_of_getElem? (i := 93) (by decide +kernel), List.mem_of_getElem? (i := 701) (by decide +kernel), List.mem_of_getElem? (i := 702) (by decide +kernel)⟩
theorem lw_p9 : lw_okq (⟨"BoardMill$SheetReade\x72", "readName", "(I)I"⟩, 8) := ⟨⟨by decide +kernel, by decide +kernel⟩, List.mem_of_getElem? (i := 93) (by decide +kernel), List.mem_of_getElem? (i := 705) (by decide +kernel), List.mem_of_getElem? (i := 706) (by decide +kernel)⟩
theorem lw_p10 : lw_okq (⟨"BoardMill$SheetReade\x72", "kindNamed", "(II)I"⟩, 8) := ⟨⟨by decide +kernel, by decide +kernel⟩, List.mem_of_getElem? (i := 93) (by decide +kernel), List.mem_of_getElem? (i := 709) (by decide +kernel), List.mem_of_getElem? (i := 710) (by decide +kernel)⟩
theorem lw_p11 : lw_okq (⟨"BoardMill$SheetReade\x72", "mayBeIn", "(II)Z"⟩, 8) := ⟨⟨by decide +kernel, by decide +kernel⟩, List.mem_of_getElem? (i := 93) (by decide +kernel), List.mem_of_getElem? (i := 774) (by decide +kernel), List.mem_of_getElem? (i := 775) (by decide +kernel)⟩
theorem lw_p12 : lw_okq (⟨"BoardMill$DesignObjects", "isObject", "(I)Z"⟩, 13) := ⟨⟨by decide +kernel, by decide +kernel⟩, List.mem_of_getElem? (i := 38) (by decide +kernel), List.mem_of_getElem? (i := 784) (by decide +kernel), List.mem_of_getElem? (i := 785) (by decide +kernel)⟩
theorem lw_p13 : lw_okq (⟨"BoardMill$SheetReade\x72", "keepList", "(II)V"⟩, 8) := ⟨⟨by decide +kernel, by decide +kernel⟩, List.mem_of_getElem? (i := 93) (by decide +kernel), List.mem_of_getElem? (i := 797) (by decide +kernel), List.mem_of_getElem? (i := 798) (by decide +kernel)⟩
theorem lw_p14 : lw_okq (⟨"BoardMill$SheetReade\x72", "roomEnd", "(I)I"⟩, 8) := ⟨⟨by decide +kernel, by decide +kernel⟩, List.mem_of_getElem? (i := 93) (by decide +kernel), List.mem_of_getElem? (i := 801) (by decide +kernel), List.mem_of_getElem? (i := 802) (by decide +kernel)⟩
theorem lw_p15 : lw_okq (⟨"BoardMill$SheetReade\x72", "skipQuoted", "(I)V"⟩, 8) := ⟨⟨by decide +kernel, by decide +kernel⟩, List.mem_of_getElem? (i := 93) (by decide +kernel), List.mem_of_getElem? (i := 805) (by decide +kernel), List.mem_of_getElem? (i := 806) (by decide +kernel)⟩
def lw_privs_1 : List (MethodName × Nat) := [(⟨"BoardMill", "happened", "(I)Z"⟩, 20), (⟨"BoardMill", "answe\x72", "(I)I"⟩, 20), (⟨"BoardMill", "feedWord", "(I)V"⟩, 20), (⟨"BoardMill", "takeText", "(I)I"⟩, 20), (⟨"BoardMill$SheetReade\x72", "readLists", "()V"⟩, 8), (⟨"BoardMill$SheetReade\x72", "skipBlanks", "()V"⟩, 8), (⟨"BoardMill$SheetReade\x72", "peek", "()I"⟩, 8), (⟨"BoardMill$SheetReade\x72", "fail", "(I)V"⟩, 8), (⟨"BoardMill$SheetReade\x72", "readList", "(I)I"⟩, 8), (⟨"BoardMill$SheetReade\x72", "readName", "(I)I"⟩, 8), (⟨"BoardMill$SheetReade\x72", "kindNamed", "(II)I"⟩, 8), (⟨"BoardMill$SheetReade\x72", "mayBeIn", "(II)Z"⟩, 8), (⟨"BoardMill$DesignObjects", "isObject", "(I)Z"⟩, 13), (⟨"BoardMill$SheetReade\x72", "keepList", "(II)V"⟩, 8), (⟨"BoardMill$SheetReade\x72", "roomEnd", "(I)I"⟩, 8), (⟨"BoardMill$SheetReade\x72", "skipQuoted", "(I)V"⟩, 8)]
theorem lw_r1 : ∀ q ∈ lw_privs_1, lw_okq q := List.forall_mem_cons.mpr ⟨lw_p0, List.forall_mem_cons.mpr ⟨lw_p1, List.forall_mem_cons.mpr ⟨lw_p2, List.forall_mem_cons.mpr ⟨lw_p3, List.forall_mem_cons.mpr ⟨lw_p4, List.forall_mem_cons.mpr ⟨lw_p5, List.forall_mem_cons.mpr ⟨lw_p6, List.forall_mem_cons.mpr ⟨lw_p7, List.forall_mem_cons.mpr ⟨lw_p8, List.forall_mem_cons.mpr ⟨lw_p9, List.forall_mem_cons.mpr ⟨lw_p10, List.forall_mem_cons.mpr ⟨lw_p11, List.forall_mem_cons.mpr ⟨lw_p12, List.forall_mem_cons.mpr ⟨lw_p13, List.forall_mem_cons.mpr ⟨lw_p14, List.forall_mem_cons.mpr ⟨lw_p15, fun _ h => absurd h List.not_mem_nil⟩⟩⟩⟩⟩⟩⟩⟩⟩⟩⟩⟩⟩⟩⟩⟩
theorem lw_p16 : lw_okq (⟨"BoardMill$SheetReade\x72", "skipEscape", "()V"⟩, 8) := ⟨⟨by decide +kernel, by decide +kernel⟩, List.mem_of_getElem? (i := 93) (by decide +kernel), List.mem_of_getElem? (i := 809) (by decide +kernel), List.mem_of_getElem? (i := 810) (by decide +kernel)⟩
theorem lw_p17 : lw_okq (⟨"BoardMill$SheetReade\x72", "keepBracket", "()V"⟩, 8) := ⟨⟨by decide +kernel, by decide +kernel⟩, List.mem_of_getElem? (i := 93) (by decide +kernel), List.mem_of_getElem? (i := 813) (by decide +kernel), List.mem_of_getElem? (i := 814) (by decide +kernel)⟩
theorem lw_p18 : lw_okq (⟨"BoardMill$SheetReade\x72", "readValues", "(I)V"⟩, 8) := ⟨⟨by decide +kernel, by decide +kernel⟩, List.mem_of_getElem? (i := 93) (by decide +kernel), List.mem_of_getElem? (i := 829) (by decide +kernel), List.mem_of_getElem? (i := 830) (by decide +kernel)⟩
theorem lw_p19 : lw_okq (⟨"BoardMill$SheetReade\x72", "readGap", "()V"⟩, 8) := ⟨⟨by decide +kernel, by decide +kernel⟩, List.mem_of_getElem? (i := 93) (by decide +kernel), List.mem_of_getElem? (i := 845) (by decide +kernel), List.mem_of_getElem? (i := 846) (by decide +kernel)⟩
theorem lw_p20 : lw_okq (⟨"BoardMill$SheetReade\x72", "readText", "(II)V"⟩, 8) := ⟨⟨by decide +kernel, by decide +kernel⟩, List.mem_of_getElem? (i := 93) (by decide +kernel), List.mem_of_getElem? (i := 849) (by decide +kernel), List.mem_of_getElem? (i := 850) (by decide +kernel)⟩
theorem lw_p21 : lw_okq (⟨"BoardMill$SheetReade\x72", "readNumbe\x72", "(ICI)V"⟩, 8) := ⟨⟨by decide +kernel, by decide +kernel⟩, List.mem_of_getElem? (i := 93) (by decide +kernel), List.mem_of_getElem? (i := 855) (by decide +kernel), List.mem_of_getElem? (i := 856) (by decide +kernel)⟩
theorem lw_p22 : lw_okq (⟨"BoardMill$SheetReade\x72", "takeDigits", "(I)J"⟩, 8) := ⟨⟨by decide +kernel, by decide +kernel⟩, List.mem_of_getElem? (i := 93) (by decide +kernel), List.mem_of_getElem? (i := 859) (by decide +kernel), List.mem_of_getElem? (i := 860) (by decide +kernel)⟩
theorem lw_p23 : lw_okq (⟨"BoardMill$SheetReade\x72", "closeLists", "(I)I"⟩, 8) := ⟨⟨by decide +kernel, by decide +kernel⟩, List.mem_of_getElem? (i := 93) (by decide +kernel), List.mem_of_getElem? (i := 884) (by decide +kernel), List.mem_of_getElem? (i := 885) (by decide +kernel)⟩
theorem lw_p24 : lw_okq (⟨"BoardMill$SheetReade\x72", "readLines", "()V"⟩, 8) := ⟨⟨by decide +kernel, by decide +kernel⟩, List.mem_of_getElem? (i := 93) (by decide +kernel), List.mem_of_getElem? (i := 892) (by decide +kernel), List.mem_of_getElem? (i := 893) (by decide +kernel)⟩
theorem lw_p25 : lw_okq (⟨"BoardMill$SheetReade\x72", "readLine", "(I)I"⟩, 8) := ⟨⟨by decide +kernel, by decide +kernel⟩, List.mem_of_getElem? (i := 93) (by decide +kernel), List.mem_of_getElem? (i := 896) (by decide +kernel), List.mem_of_getElem? (i := 897) (by decide +kernel)⟩
theorem lw_p26 : lw_okq (⟨"BoardMill$SheetReade\x72", "ancestorAt", "(II)I"⟩, 8) := ⟨⟨by decide +kernel, by decide +kernel⟩, List.mem_of_getElem? (i := 93) (by decide +kernel), List.mem_of_getElem? (i := 900) (by decide +kernel), List.mem_of_getElem? (i := 901) (by decide +kernel)⟩
theorem lw_p27 : lw_okq (⟨"BoardMill$SheetReade\x72", "keepLines", "(III)V"⟩, 8) := ⟨⟨by decide +kernel, by decide +kernel⟩, List.mem_of_getElem? (i := 93) (by decide +kernel), List.mem_of_getElem? (i := 904) (by decide +kernel), List.mem_of_getElem? (i := 905) (by decide +kernel)⟩
theorem lw_p28 : lw_okq (⟨"BoardMill$SheetReade\x72", "isDeepe\x72", "(II)Z"⟩, 8) := ⟨⟨by decide +kernel, by decide +kernel⟩, List.mem_of_getElem? (i := 93) (by decide +kernel), List.mem_of_getElem? (i := 908) (by decide +kernel), List.mem_of_getElem? (i := 909) (by decide +kernel)⟩
theorem lw_p29 : lw_okq (⟨"BoardMill", "faultAt", "(I)I"⟩, 20) := ⟨⟨by decide +kernel, by decide +kernel⟩, List.mem_of_getElem? (i := 30) (by decide +kernel), List.mem_of_getElem? (i := 912) (by decide +kernel), List.mem_of_getElem? (i := 913) (by decide +kernel)⟩
theorem lw_p30 : lw_okq (⟨"BoardMill$DesignObjects", "writeLists", "()V"⟩, 13) := ⟨⟨by decide +kernel, by decide +kernel⟩, List.mem_of_getElem? (i := 38) (by decide +kernel), List.mem_of_getElem? (i := 920) (by decide +kernel), List.mem_of_getElem? (i := 921) (by decide +kernel)⟩
theorem lw_p31 : lw_okq (⟨"BoardMill$DesignObjects", "emit", "(C)V"⟩, 13) := ⟨⟨by decide +kernel, by decide +kernel⟩, List.mem_of_getElem? (i := 38) (by decide +kernel), List.mem_of_getElem? (i := 924) (by decide +kernel), List.mem_of_getElem? (i := 925) (by decide +kernel)⟩
def lw_privs_2 : List (MethodName × Nat) := [(⟨"BoardMill$SheetReade\x72", "skipEscape", "()V"⟩, 8), (⟨"BoardMill$SheetReade\x72", "keepBracket", "()V"⟩, 8), (⟨"BoardMill$SheetReade\x72", "readValues", "(I)V"⟩, 8), (⟨"BoardMill$SheetReade\x72", "readGap", "()V"⟩, 8), (⟨"BoardMill$SheetReade\x72", "readText", "(II)V"⟩, 8), (⟨"BoardMill$SheetReade\x72", "readNumbe\x72", "(ICI)V"⟩, 8), (⟨"BoardMill$SheetReade\x72", "takeDigits", "(I)J"⟩, 8), (⟨"BoardMill$SheetReade\x72", "closeLists", "(I)I"⟩, 8), (⟨"BoardMill$SheetReade\x72", "readLines", "()V"⟩, 8), (⟨"BoardMill$SheetReade\x72", "readLine", "(I)I"⟩, 8), (⟨"BoardMill$SheetReade\x72", "ancestorAt", "(II)I"⟩, 8), (⟨"BoardMill$SheetReade\x72", "keepLines", "(III)V"⟩, 8), (⟨"BoardMill$SheetReade\x72", "isDeepe\x72", "(II)Z"⟩, 8), (⟨"BoardMill", "faultAt", "(I)I"⟩, 20), (⟨"BoardMill$DesignObjects", "writeLists", "()V"⟩, 13), (⟨"BoardMill$DesignObjects", "emit", "(C)V"⟩, 13)]
theorem lw_r2 : ∀ q ∈ lw_privs_2, lw_okq q := List.forall_mem_cons.mpr ⟨lw_p16, List.forall_mem_cons.mpr ⟨lw_p17, List.forall_mem_cons.mpr ⟨lw_p18, List.forall_mem_cons.mpr ⟨lw_p19, List.forall_mem_cons.mpr ⟨lw_p20, List.forall_mem_cons.mpr ⟨lw_p21, List.forall_mem_cons.mpr ⟨lw_p22, List.forall_mem_cons.mpr ⟨lw_p23, List.forall_mem_cons.mpr ⟨lw_p24, List.forall_mem_cons.mpr ⟨lw_p25, List.forall_mem_cons.mpr ⟨lw_p26, List.forall_mem_cons.mpr ⟨lw_p27, List.forall_mem_cons.mpr ⟨lw_p28, List.forall_mem_cons.mpr ⟨lw_p29, List.forall_mem_cons.mpr ⟨lw_p30, List.forall_mem_cons.mpr ⟨lw_p31, fun _ h => absurd h List.not_mem_nil⟩⟩⟩⟩⟩⟩⟩⟩⟩⟩⟩⟩⟩⟩⟩⟩
theorem lw_p32 : lw_okq (⟨"BoardMill$DesignObjects", "emitTimes", "(CI)V"⟩, 13) := ⟨⟨by decide +kernel, by decide +kernel⟩, List.mem_of_getElem? (i := 38) (by decide +kernel), List.mem_of_getElem? (i := 928) (by decide +kernel), List.mem_of_getElem? (i := 929) (by decide +kernel)⟩
theorem lw_p33 : lw_okq (⟨"BoardMill$DesignObjects", "emitText", "(II)V"⟩, 13) := ⟨⟨by decide +kernel, by decide +kernel⟩, List.mem_of_getElem? (i := 38) (by decide +kernel), List.mem_of_getElem? (i := 932) (by decide +kernel), List.mem_of_getElem? (i := 933) (by decide +kernel)⟩
theorem lw_p34 : lw_okq (⟨"BoardMill$DesignObjects", "letterIn", "(III)C"⟩, 13) := ⟨⟨by decide +kernel, by decide +kernel⟩, List.mem_of_getElem? (i := 38) (by decide +kernel), List.mem_of_getElem? (i := 940) (by decide +kernel), List.mem_of_getElem? (i := 941) (by decide +kernel)⟩
theorem lw_p35 : lw_okq (⟨"BoardMill$DesignObjects", "emitObject", "(I)V"⟩, 13) := ⟨⟨by decide +kernel, by decide +kernel⟩, List.mem_of_getElem? (i := 38) (by decide +kernel), List.mem_of_getElem? (i := 944) (by decide +kernel), List.mem_of_getElem? (i := 945) (by decide +kernel)⟩
theorem lw_p36 : lw_okq (⟨"BoardMill$DesignObjects", "emitWord", "(Ljava/lang/String;)V"⟩, 13) := ⟨⟨by decide +kernel, by decide +kernel⟩, List.mem_of_getElem? (i := 38) (by decide +kernel), List.mem_of_getElem? (i := 949) (by decide +kernel), List.mem_of_getElem? (i := 950) (by decide +kernel)⟩
theorem lw_p37 : lw_okq (⟨"BoardMill$DesignObjects", "emitQuoted", "(II)V"⟩, 13) := ⟨⟨by decide +kernel, by decide +kernel⟩, List.mem_of_getElem? (i := 38) (by decide +kernel), List.mem_of_getElem? (i := 956) (by decide +kernel), List.mem_of_getElem? (i := 957) (by decide +kernel)⟩
theorem lw_p38 : lw_okq (⟨"BoardMill$DesignObjects", "emitNumbe\x72", "(JZ)V"⟩, 13) := ⟨⟨by decide +kernel, by decide +kernel⟩, List.mem_of_getElem? (i := 38) (by decide +kernel), List.mem_of_getElem? (i := 964) (by decide +kernel), List.mem_of_getElem? (i := 965) (by decide +kernel)⟩
theorem lw_p39 : lw_okq (⟨"BoardMill$DesignObjects", "emitWhole", "(J)V"⟩, 13) := ⟨⟨by decide +kernel, by decide +kernel⟩, List.mem_of_getElem? (i := 38) (by decide +kernel), List.mem_of_getElem? (i := 972) (by decide +kernel), List.mem_of_getElem? (i := 973) (by decide +kernel)⟩
theorem lw_p40 : lw_okq (⟨"BoardMill$DesignObjects", "emitFraction", "(J)V"⟩, 13) := ⟨⟨by decide +kernel, by decide +kernel⟩, List.mem_of_getElem? (i := 38) (by decide +kernel), List.mem_of_getElem? (i := 979) (by decide +kernel), List.mem_of_getElem? (i := 980) (by decide +kernel)⟩
theorem lw_p41 : lw_okq (⟨"BoardMill$DesignObjects", "writeLines", "()V"⟩, 13) := ⟨⟨by decide +kernel, by decide +kernel⟩, List.mem_of_getElem? (i := 38) (by decide +kernel), List.mem_of_getElem? (i := 984) (by decide +kernel), List.mem_of_getElem? (i := 985) (by decide +kernel)⟩
theorem lw_p42 : lw_okq (⟨"BoardMill$Drawing", "findSheets", "()V"⟩, 16) := ⟨⟨by decide +kernel, by decide +kernel⟩, List.mem_of_getElem? (i := 124) (by decide +kernel), List.mem_of_getElem? (i := 992) (by decide +kernel), List.mem_of_getElem? (i := 993) (by decide +kernel)⟩
theorem lw_p43 : lw_okq (⟨"BoardMill$Drawing", "sheetOf", "(I)I"⟩, 16) := ⟨⟨by decide +kernel, by decide +kernel⟩, List.mem_of_getElem? (i := 124) (by decide +kernel), List.mem_of_getElem? (i := 1002) (by decide +kernel), List.mem_of_getElem? (i := 1003) (by decide +kernel)⟩
theorem lw_p44 : lw_okq (⟨"BoardMill$Drawing", "makeRepeat", "(II)V"⟩, 16) := ⟨⟨by decide +kernel, by decide +kernel⟩, List.mem_of_getElem? (i := 124) (by decide +kernel), List.mem_of_getElem? (i := 1010) (by decide +kernel), List.mem_of_getElem? (i := 1011) (by decide +kernel)⟩
theorem lw_p45 : lw_okq (⟨"BoardMill$Drawing", "originalOf", "(II)I"⟩, 16) := ⟨⟨by decide +kernel, by decide +kernel⟩, List.mem_of_getElem? (i := 124) (by decide +kernel), List.mem_of_getElem? (i := 1014) (by decide +kernel), List.mem_of_getElem? (i := 1015) (by decide +kernel)⟩
theorem lw_p46 : lw_okq (⟨"BoardMill$Drawing", "isDrawn", "(I)Z"⟩, 16) := ⟨⟨by decide +kernel, by decide +kernel⟩, List.mem_of_getElem? (i := 124) (by decide +kernel), List.mem_of_getElem? (i := 1023) (by decide +kernel), List.mem_of_getElem? (i := 1024) (by decide +kernel)⟩
theorem lw_p47 : lw_okq (⟨"BoardMill$Drawing", "copiesOf", "(I)I"⟩, 16) := ⟨⟨by decide +kernel, by decide +kernel⟩, List.mem_of_getElem? (i := 124) (by decide +kernel), List.mem_of_getElem? (i := 1039) (by decide +kernel), List.mem_of_getElem? (i := 1040) (by decide +kernel)⟩
def lw_privs_3 : List (MethodName × Nat) := [(⟨"BoardMill$DesignObjects", "emitTimes", "(CI)V"⟩, 13), (⟨"BoardMill$DesignObjects", "emitText", "(II)V"⟩, 13), (⟨"BoardMill$DesignObjects", "letterIn", "(III)C"⟩, 13), (⟨"BoardMill$DesignObjects", "emitObject", "(I)V"⟩, 13), (⟨"BoardMill$DesignObjects", "emitWord", "(Ljava/lang/String;)V"⟩, 13), (⟨"BoardMill$DesignObjects", "emitQuoted", "(II)V"⟩, 13), (⟨"BoardMill$DesignObjects", "emitNumbe\x72", "(JZ)V"⟩, 13), (⟨"BoardMill$DesignObjects", "emitWhole", "(J)V"⟩, 13), (⟨"BoardMill$DesignObjects", "emitFraction", "(J)V"⟩, 13), (⟨"BoardMill$DesignObjects", "writeLines", "()V"⟩, 13), (⟨"BoardMill$Drawing", "findSheets", "()V"⟩, 16), (⟨"BoardMill$Drawing", "sheetOf", "(I)I"⟩, 16), (⟨"BoardMill$Drawing", "makeRepeat", "(II)V"⟩, 16), (⟨"BoardMill$Drawing", "originalOf", "(II)I"⟩, 16), (⟨"BoardMill$Drawing", "isDrawn", "(I)Z"⟩, 16), (⟨"BoardMill$Drawing", "copiesOf", "(I)I"⟩, 16)]
theorem lw_r3 : ∀ q ∈ lw_privs_3, lw_okq q := List.forall_mem_cons.mpr ⟨lw_p32, List.forall_mem_cons.mpr ⟨lw_p33, List.forall_mem_cons.mpr ⟨lw_p34, List.forall_mem_cons.mpr ⟨lw_p35, List.forall_mem_cons.mpr ⟨lw_p36, List.forall_mem_cons.mpr ⟨lw_p37, List.forall_mem_cons.mpr ⟨lw_p38, List.forall_mem_cons.mpr ⟨lw_p39, List.forall_mem_cons.mpr ⟨lw_p40, List.forall_mem_cons.mpr ⟨lw_p41, List.forall_mem_cons.mpr ⟨lw_p42, List.forall_mem_cons.mpr ⟨lw_p43, List.forall_mem_cons.mpr ⟨lw_p44, List.forall_mem_cons.mpr ⟨lw_p45, List.forall_mem_cons.mpr ⟨lw_p46, List.forall_mem_cons.mpr ⟨lw_p47, fun _ h => absurd h List.not_mem_nil⟩⟩⟩⟩⟩⟩⟩⟩⟩⟩⟩⟩⟩⟩⟩⟩
theorem lw_p48 : lw_okq (⟨"BoardMill$Drawing", "gathe\x72", "()V"⟩, 16) := ⟨⟨by decide +kernel, by decide +kernel⟩, List.mem_of_getElem? (i := 124) (by decide +kernel), List.mem_of_getElem? (i := 1043) (by decide +kernel), List.mem_of_getElem? (i := 1044) (by decide +kernel)⟩
theorem lw_p49 : lw_okq (⟨"BoardMill$Drawing", "addWire", "(II)V"⟩, 16) := ⟨⟨by decide +kernel, by decide +kernel⟩, List.mem_of_getElem? (i := 124) (by decide +kernel), List.mem_of_getElem? (i := 1047) (by decide +kernel), List.mem_of_getElem? (i := 1048) (by decide +kernel)⟩
theorem lw_p50 : lw_okq (⟨"BoardMill$Drawing", "addNote", "(II)V"⟩, 16) := ⟨⟨by decide +kernel, by decide +kernel⟩, List.mem_of_getElem? (i := 124) (by decide +kernel), List.mem_of_getElem? (i := 1055) (by decide +kernel), List.mem_of_getElem? (i := 1056) (by decide +kernel)⟩
theorem lw_p51 : lw_okq (⟨"BoardMill$Drawing", "nameIn", "(II)I"⟩, 16) := ⟨⟨by decide +kernel, by decide +kernel⟩, List.mem_of_getElem? (i := 124) (by decide +kernel), List.mem_of_getElem? (i := 1070) (by decide +kernel), List.mem_of_getElem? (i := 1071) (by decide +kernel)⟩
theorem lw_p52 : lw_okq (⟨"BoardMill$Drawing", "addPorts", "(II)V"⟩, 16) := ⟨⟨by decide +kernel, by decide +kernel⟩, List.mem_of_getElem? (i := 124) (by decide +kernel), List.mem_of_getElem? (i := 1075) (by decide +kernel), List.mem_of_getElem? (i := 1076) (by decide +kernel)⟩
theorem lw_p53 : lw_okq (⟨"BoardMill$Drawing", "sheetOfCopy", "(II)I"⟩, 16) := ⟨⟨by decide +kernel, by decide +kernel⟩, List.mem_of_getElem? (i := 124) (by decide +kernel), List.mem_of_getElem? (i := 1079) (by decide +kernel), List.mem_of_getElem? (i := 1080) (by decide +kernel)⟩
theorem lw_p54 : lw_okq (⟨"BoardMill$Drawing", "addPin", "(II)V"⟩, 16) := ⟨⟨by decide +kernel, by decide +kernel⟩, List.mem_of_getElem? (i := 124) (by decide +kernel), List.mem_of_getElem? (i := 1083) (by decide +kernel), List.mem_of_getElem? (i := 1084) (by decide +kernel)⟩
theorem lw_p55 : lw_okq (⟨"BoardMill$Drawing", "joinAll", "()V"⟩, 16) := ⟨⟨by decide +kernel, by decide +kernel⟩, List.mem_of_getElem? (i := 124) (by decide +kernel), List.mem_of_getElem? (i := 1090) (by decide +kernel), List.mem_of_getElem? (i := 1091) (by decide +kernel)⟩
theorem lw_p56 : lw_okq (⟨"BoardMill$Drawing", "joinWires", "()V"⟩, 16) := ⟨⟨by decide +kernel, by decide +kernel⟩, List.mem_of_getElem? (i := 124) (by decide +kernel), List.mem_of_getElem? (i := 1094) (by decide +kernel), List.mem_of_getElem? (i := 1095) (by decide +kernel)⟩
theorem lw_p57 : lw_okq (⟨"BoardMill$Drawing", "endsAt", "(IIII)Z"⟩, 16) := ⟨⟨by decide +kernel, by decide +kernel⟩, List.mem_of_getElem? (i := 124) (by decide +kernel), List.mem_of_getElem? (i := 1098) (by decide +kernel), List.mem_of_getElem? (i := 1099) (by decide +kernel)⟩
theorem lw_p58 : lw_okq (⟨"BoardMill$Drawing", "joinWirePai\x72", "(II)V"⟩, 16) := ⟨⟨by decide +kernel, by decide +kernel⟩, List.mem_of_getElem? (i := 124) (by decide +kernel), List.mem_of_getElem? (i := 1102) (by decide +kernel), List.mem_of_getElem? (i := 1103) (by decide +kernel)⟩
theorem lw_p59 : lw_okq (⟨"BoardMill$Drawing", "joinCopies", "(III)V"⟩, 16) := ⟨⟨by decide +kernel, by decide +kernel⟩, List.mem_of_getElem? (i := 124) (by decide +kernel), List.mem_of_getElem? (i := 1106) (by decide +kernel), List.mem_of_getElem? (i := 1107) (by decide +kernel)⟩
theorem lw_p60 : lw_okq (⟨"BoardMill$Drawing", "join", "(II)V"⟩, 16) := ⟨⟨by decide +kernel, by decide +kernel⟩, List.mem_of_getElem? (i := 124) (by decide +kernel), List.mem_of_getElem? (i := 1110) (by decide +kernel), List.mem_of_getElem? (i := 1111) (by decide +kernel)⟩
theorem lw_p61 : lw_okq (⟨"BoardMill$Drawing", "rootOf", "(I)I"⟩, 16) := ⟨⟨by decide +kernel, by decide +kernel⟩, List.mem_of_getElem? (i := 124) (by decide +kernel), List.mem_of_getElem? (i := 1114) (by decide +kernel), List.mem_of_getElem? (i := 1115) (by decide +kernel)⟩
theorem lw_p62 : lw_okq (⟨"BoardMill$Drawing", "joinAtJunction", "(I)V"⟩, 16) := ⟨⟨by decide +kernel, by decide +kernel⟩, List.mem_of_getElem? (i := 124) (by decide +kernel), List.mem_of_getElem? (i := 1122) (by decide +kernel), List.mem_of_getElem? (i := 1123) (by decide +kernel)⟩
theorem lw_p63 : lw_okq (⟨"BoardMill$Drawing", "goesThrough", "(IIII)Z"⟩, 16) := ⟨⟨by decide +kernel, by decide +kernel⟩, List.mem_of_getElem? (i := 124) (by decide +kernel), List.mem_of_getElem? (i := 1126) (by decide +kernel), List.mem_of_getElem? (i := 1127) (by decide +kernel)⟩
def lw_privs_4 : List (MethodName × Nat) := [(⟨"BoardMill$Drawing", "gathe\x72", "()V"⟩, 16), (⟨"BoardMill$Drawing", "addWire", "(II)V"⟩, 16), (⟨"BoardMill$Drawing", "addNote", "(II)V"⟩, 16), (⟨"BoardMill$Drawing", "nameIn", "(II)I"⟩, 16), (⟨"BoardMill$Drawing", "addPorts", "(II)V"⟩, 16), (⟨"BoardMill$Drawing", "sheetOfCopy", "(II)I"⟩, 16), (⟨"BoardMill$Drawing", "addPin", "(II)V"⟩, 16), (⟨"BoardMill$Drawing", "joinAll", "()V"⟩, 16), (⟨"BoardMill$Drawing", "joinWires", "()V"⟩, 16), (⟨"BoardMill$Drawing", "endsAt", "(IIII)Z"⟩, 16), (⟨"BoardMill$Drawing", "joinWirePai\x72", "(II)V"⟩, 16), (⟨"BoardMill$Drawing", "joinCopies", "(III)V"⟩, 16), (⟨"BoardMill$Drawing", "join", "(II)V"⟩, 16), (⟨"BoardMill$Drawing", "rootOf", "(I)I"⟩, 16), (⟨"BoardMill$Drawing", "joinAtJunction", "(I)V"⟩, 16), (⟨"BoardMill$Drawing", "goesThrough", "(IIII)Z"⟩, 16)]
theorem lw_r4 : ∀ q ∈ lw_privs_4, lw_okq q := List.forall_mem_cons.mpr ⟨lw_p48, List.forall_mem_cons.mpr ⟨lw_p49, List.forall_mem_cons.mpr ⟨lw_p50, List.forall_mem_cons.mpr ⟨lw_p51, List.forall_mem_cons.mpr ⟨lw_p52, List.forall_mem_cons.mpr ⟨lw_p53, List.forall_mem_cons.mpr ⟨lw_p54, List.forall_mem_cons.mpr ⟨lw_p55, List.forall_mem_cons.mpr ⟨lw_p56, List.forall_mem_cons.mpr ⟨lw_p57, List.forall_mem_cons.mpr ⟨lw_p58, List.forall_mem_cons.mpr ⟨lw_p59, List.forall_mem_cons.mpr ⟨lw_p60, List.forall_mem_cons.mpr ⟨lw_p61, List.forall_mem_cons.mpr ⟨lw_p62, List.forall_mem_cons.mpr ⟨lw_p63, fun _ h => absurd h List.not_mem_nil⟩⟩⟩⟩⟩⟩⟩⟩⟩⟩⟩⟩⟩⟩⟩⟩
theorem lw_p64 : lw_okq (⟨"BoardMill$Drawing", "joinToWires", "(LBoardMill$Rows;I)V"⟩, 16) := ⟨⟨by decide +kernel, by decide +kernel⟩, List.mem_of_getElem? (i := 124) (by decide +kernel), List.mem_of_getElem? (i := 1136) (by decide +kernel), List.mem_of_getElem? (i := 1137) (by decide +kernel)⟩
theorem lw_p65 : lw_okq (⟨"BoardMill$Drawing", "joinSamePlaces", "(LBoardMill$Rows;ILBoardMill$Rows;I)V"⟩, 16) := ⟨⟨by decide +kernel, by decide +kernel⟩, List.mem_of_getElem? (i := 124) (by decide +kernel), List.mem_of_getElem? (i := 1140) (by decide +kernel), List.mem_of_getElem? (i := 1141) (by decide +kernel)⟩
theorem lw_p66 : lw_okq (⟨"BoardMill$Drawing", "joinNames", "()V"⟩, 16) := ⟨⟨by decide +kernel, by decide +kernel⟩, List.mem_of_getElem? (i := 124) (by decide +kernel), List.mem_of_getElem? (i := 1144) (by decide +kernel), List.mem_of_getElem? (i := 1145) (by decide +kernel)⟩
theorem lw_p67 : lw_okq (⟨"BoardMill$Drawing", "joinPorts", "()V"⟩, 16) := ⟨⟨by decide +kernel, by decide +kernel⟩, List.mem_of_getElem? (i := 124) (by decide +kernel), List.mem_of_getElem? (i := 1154) (by decide +kernel), List.mem_of_getElem? (i := 1155) (by decide +kernel)⟩
theorem lw_p68 : lw_okq (⟨"BoardMill$Drawing", "numberNets", "()V"⟩, 16) := ⟨⟨by decide +kernel, by decide +kernel⟩, List.mem_of_getElem? (i := 124) (by decide +kernel), List.mem_of_getElem? (i := 1158) (by decide +kernel), List.mem_of_getElem? (i := 1159) (by decide +kernel)⟩
theorem lw_p69 : lw_okq (⟨"BoardMill$Drawing", "collectRemarks", "()V"⟩, 16) := ⟨⟨by decide +kernel, by decide +kernel⟩, List.mem_of_getElem? (i := 124) (by decide +kernel), List.mem_of_getElem? (i := 1162) (by decide +kernel), List.mem_of_getElem? (i := 1163) (by decide +kernel)⟩
theorem lw_p70 : lw_okq (⟨"BoardMill$Drawing", "takeNames", "(I)V"⟩, 16) := ⟨⟨by decide +kernel, by decide +kernel⟩, List.mem_of_getElem? (i := 124) (by decide +kernel), List.mem_of_getElem? (i := 1169) (by decide +kernel), List.mem_of_getElem? (i := 1170) (by decide +kernel)⟩
theorem lw_p71 : lw_okq (⟨"BoardMill$Drawing", "isIsolated", "(I)Z"⟩, 16) := ⟨⟨by decide +kernel, by decide +kernel⟩, List.mem_of_getElem? (i := 124) (by decide +kernel), List.mem_of_getElem? (i := 1173) (by decide +kernel), List.mem_of_getElem? (i := 1174) (by decide +kernel)⟩
theorem lw_p72 : lw_okq (⟨"BoardMill$Board", "findNeighbours", "()V"⟩, 18) := ⟨⟨by decide +kernel, by decide +kernel⟩, List.mem_of_getElem? (i := 204) (by decide +kernel), List.mem_of_getElem? (i := 1241) (by decide +kernel), List.mem_of_getElem? (i := 1242) (by decide +kernel)⟩
theorem lw_p73 : lw_okq (⟨"BoardMill$Board", "sheetNetOf", "(II)I"⟩, 18) := ⟨⟨by decide +kernel, by decide +kernel⟩, List.mem_of_getElem? (i := 204) (by decide +kernel), List.mem_of_getElem? (i := 1274) (by decide +kernel), List.mem_of_getElem? (i := 1275) (by decide +kernel)⟩
theorem lw_p74 : lw_okq (⟨"BoardMill$Board", "hasPad", "(II)Z"⟩, 18) := ⟨⟨by decide +kernel, by decide +kernel⟩, List.mem_of_getElem? (i := 204) (by decide +kernel), List.mem_of_getElem? (i := 1278) (by decide +kernel), List.mem_of_getElem? (i := 1279) (by decide +kernel)⟩
theorem lw_p75 : lw_okq (⟨"BoardMill$Board", "routeNetOf", "(I)I"⟩, 18) := ⟨⟨by decide +kernel, by decide +kernel⟩, List.mem_of_getElem? (i := 204) (by decide +kernel), List.mem_of_getElem? (i := 1283) (by decide +kernel), List.mem_of_getElem? (i := 1284) (by decide +kernel)⟩
theorem lw_p76 : lw_okq (⟨"BoardMill$Route\x72", "draw", "()J"⟩, 7) := ⟨⟨by decide +kernel, by decide +kernel⟩, List.mem_of_getElem? (i := 293) (by decide +kernel), List.mem_of_getElem? (i := 1335) (by decide +kernel), List.mem_of_getElem? (i := 1336) (by decide +kernel)⟩
theorem lw_p77 : lw_okq (⟨"BoardMill$Route\x72", "lead", "(I)V"⟩, 7) := ⟨⟨by decide +kernel, by decide +kernel⟩, List.mem_of_getElem? (i := 293) (by decide +kernel), List.mem_of_getElem? (i := 1341) (by decide +kernel), List.mem_of_getElem? (i := 1342) (by decide +kernel)⟩
theorem lw_p78 : lw_okq (⟨"BoardMill$Route\x72", "firstPadCell", "(I)I"⟩, 7) := ⟨⟨by decide +kernel, by decide +kernel⟩, List.mem_of_getElem? (i := 293) (by decide +kernel), List.mem_of_getElem? (i := 1345) (by decide +kernel), List.mem_of_getElem? (i := 1346) (by decide +kernel)⟩
theorem lw_p79 : lw_okq (⟨"BoardMill$Route\x72", "grow", "(II)V"⟩, 7) := ⟨⟨by decide +kernel, by decide +kernel⟩, List.mem_of_getElem? (i := 293) (by decide +kernel), List.mem_of_getElem? (i := 1357) (by decide +kernel), List.mem_of_getElem? (i := 1358) (by decide +kernel)⟩
def lw_privs_5 : List (MethodName × Nat) := [(⟨"BoardMill$Drawing", "joinToWires", "(LBoardMill$Rows;I)V"⟩, 16), (⟨"BoardMill$Drawing", "joinSamePlaces", "(LBoardMill$Rows;ILBoardMill$Rows;I)V"⟩, 16), (⟨"BoardMill$Drawing", "joinNames", "()V"⟩, 16), (⟨"BoardMill$Drawing", "joinPorts", "()V"⟩, 16), (⟨"BoardMill$Drawing", "numberNets", "()V"⟩, 16), (⟨"BoardMill$Drawing", "collectRemarks", "()V"⟩, 16), (⟨"BoardMill$Drawing", "takeNames", "(I)V"⟩, 16), (⟨"BoardMill$Drawing", "isIsolated", "(I)Z"⟩, 16), (⟨"BoardMill$Board", "findNeighbours", "()V"⟩, 18), (⟨"BoardMill$Board", "sheetNetOf", "(II)I"⟩, 18), (⟨"BoardMill$Board", "hasPad", "(II)Z"⟩, 18), (⟨"BoardMill$Board", "routeNetOf", "(I)I"⟩, 18), (⟨"BoardMill$Route\x72", "draw", "()J"⟩, 7), (⟨"BoardMill$Route\x72", "lead", "(I)V"⟩, 7), (⟨"BoardMill$Route\x72", "firstPadCell", "(I)I"⟩, 7), (⟨"BoardMill$Route\x72", "grow", "(II)V"⟩, 7)]
theorem lw_r5 : ∀ q ∈ lw_privs_5, lw_okq q := List.forall_mem_cons.mpr ⟨lw_p64, List.forall_mem_cons.mpr ⟨lw_p65, List.forall_mem_cons.mpr ⟨lw_p66, List.forall_mem_cons.mpr ⟨lw_p67, List.forall_mem_cons.mpr ⟨lw_p68, List.forall_mem_cons.mpr ⟨lw_p69, List.forall_mem_cons.mpr ⟨lw_p70, List.forall_mem_cons.mpr ⟨lw_p71, List.forall_mem_cons.mpr ⟨lw_p72, List.forall_mem_cons.mpr ⟨lw_p73, List.forall_mem_cons.mpr ⟨lw_p74, List.forall_mem_cons.mpr ⟨lw_p75, List.forall_mem_cons.mpr ⟨lw_p76, List.forall_mem_cons.mpr ⟨lw_p77, List.forall_mem_cons.mpr ⟨lw_p78, List.forall_mem_cons.mpr ⟨lw_p79, fun _ h => absurd h List.not_mem_nil⟩⟩⟩⟩⟩⟩⟩⟩⟩⟩⟩⟩⟩⟩⟩⟩
theorem lw_p80 : lw_okq (⟨"BoardMill$Route\x72", "treeHasAllPads", "(I)Z"⟩, 7) := ⟨⟨by decide +kernel, by decide +kernel⟩, List.mem_of_getElem? (i := 293) (by decide +kernel), List.mem_of_getElem? (i := 1365) (by decide +kernel), List.mem_of_getElem? (i := 1366) (by decide +kernel)⟩
theorem lw_p81 : lw_okq (⟨"BoardMill$Route\x72", "isOutside", "(II)Z"⟩, 7) := ⟨⟨by decide +kernel, by decide +kernel⟩, List.mem_of_getElem? (i := 293) (by decide +kernel), List.mem_of_getElem? (i := 1369) (by decide +kernel), List.mem_of_getElem? (i := 1370) (by decide +kernel)⟩
theorem lw_p82 : lw_okq (⟨"BoardMill$Route\x72", "joinNextPad", "(I)I"⟩, 7) := ⟨⟨by decide +kernel, by decide +kernel⟩, List.mem_of_getElem? (i := 293) (by decide +kernel), List.mem_of_getElem? (i := 1373) (by decide +kernel), List.mem_of_getElem? (i := 1374) (by decide +kernel)⟩
theorem lw_p83 : lw_okq (⟨"BoardMill$Route\x72", "search", "(IZ)I"⟩, 7) := ⟨⟨by decide +kernel, by decide +kernel⟩, List.mem_of_getElem? (i := 293) (by decide +kernel), List.mem_of_getElem? (i := 1377) (by decide +kernel), List.mem_of_getElem? (i := 1378) (by decide +kernel)⟩
theorem lw_p84 : lw_okq (⟨"BoardMill$Route\x72", "tollOf", "(IIZ)I"⟩, 7) := ⟨⟨by decide +kernel, by decide +kernel⟩, List.mem_of_getElem? (i := 293) (by decide +kernel), List.mem_of_getElem? (i := 1381) (by decide +kernel), List.mem_of_getElem? (i := 1382) (by decide +kernel)⟩
theorem lw_p85 : lw_okq (⟨"BoardMill$Route\x72", "reach", "(II)V"⟩, 7) := ⟨⟨by decide +kernel, by decide +kernel⟩, List.mem_of_getElem? (i := 293) (by decide +kernel), List.mem_of_getElem? (i := 1403) (by decide +kernel), List.mem_of_getElem? (i := 1404) (by decide +kernel)⟩
theorem lw_p86 : lw_okq (⟨"BoardMill$Route\x72", "takeLeast", "()J"⟩, 7) := ⟨⟨by decide +kernel, by decide +kernel⟩, List.mem_of_getElem? (i := 293) (by decide +kernel), List.mem_of_getElem? (i := 1408) (by decide +kernel), List.mem_of_getElem? (i := 1409) (by decide +kernel)⟩
theorem lw_p87 : lw_okq (⟨"BoardMill$Route\x72", "spread", "(I)V"⟩, 7) := ⟨⟨by decide +kernel, by decide +kernel⟩, List.mem_of_getElem? (i := 293) (by decide +kernel), List.mem_of_getElem? (i := 1412) (by decide +kernel), List.mem_of_getElem? (i := 1413) (by decide +kernel)⟩
theorem lw_p88 : lw_okq (⟨"BoardMill$Route\x72", "padAtDistance", "(II)I"⟩, 7) := ⟨⟨by decide +kernel, by decide +kernel⟩, List.mem_of_getElem? (i := 293) (by decide +kernel), List.mem_of_getElem? (i := 1421) (by decide +kernel), List.mem_of_getElem? (i := 1422) (by decide +kernel)⟩
theorem lw_p89 : lw_okq (⟨"BoardMill$Route\x72", "blockersOf", "(I)I"⟩, 7) := ⟨⟨by decide +kernel, by decide +kernel⟩, List.mem_of_getElem? (i := 293) (by decide +kernel), List.mem_of_getElem? (i := 1425) (by decide +kernel), List.mem_of_getElem? (i := 1426) (by decide +kernel)⟩
theorem lw_p90 : lw_okq (⟨"BoardMill$Route\x72", "joinPad", "(II)V"⟩, 7) := ⟨⟨by decide +kernel, by decide +kernel⟩, List.mem_of_getElem? (i := 293) (by decide +kernel), List.mem_of_getElem? (i := 1430) (by decide +kernel), List.mem_of_getElem? (i := 1431) (by decide +kernel)⟩
theorem lw_p91 : lw_okq (⟨"BoardMill$Route\x72", "backFrom", "(I)I"⟩, 7) := ⟨⟨by decide +kernel, by decide +kernel⟩, List.mem_of_getElem? (i := 293) (by decide +kernel), List.mem_of_getElem? (i := 1434) (by decide +kernel), List.mem_of_getElem? (i := 1435) (by decide +kernel)⟩
theorem lw_p92 : lw_okq (⟨"BoardMill$Route\x72", "rip", "(II)V"⟩, 7) := ⟨⟨by decide +kernel, by decide +kernel⟩, List.mem_of_getElem? (i := 293) (by decide +kernel), List.mem_of_getElem? (i := 1438) (by decide +kernel), List.mem_of_getElem? (i := 1439) (by decide +kernel)⟩
theorem lw_p93 : lw_okq (⟨"BoardMill$Cut", "addShape", "(IIIII)V"⟩, 19) := ⟨⟨by decide +kernel, by decide +kernel⟩, List.mem_of_getElem? (i := 323) (by decide +kernel), List.mem_of_getElem? (i := 1495) (by decide +kernel), List.mem_of_getElem? (i := 1496) (by decide +kernel)⟩
theorem lw_p94 : lw_okq (⟨"BoardMill$Cut", "addRuns", "(LBoardMill$Board;IZ)V"⟩, 19) := ⟨⟨by decide +kernel, by decide +kernel⟩, List.mem_of_getElem? (i := 323) (by decide +kernel), List.mem_of_getElem? (i := 1501) (by decide +kernel), List.mem_of_getElem? (i := 1502) (by decide +kernel)⟩
theorem lw_p95 : lw_okq (⟨"BoardMill$Cut", "addRunsOfLine", "(LBoardMill$Board;IIIZ)V"⟩, 19) := ⟨⟨by decide +kernel, by decide +kernel⟩, List.mem_of_getElem? (i := 323) (by decide +kernel), List.mem_of_getElem? (i := 1505) (by decide +kernel), List.mem_of_getElem? (i := 1506) (by decide +kernel)⟩
def lw_privs_6 : List (MethodName × Nat) := [(⟨"BoardMill$Route\x72", "treeHasAllPads", "(I)Z"⟩, 7), (⟨"BoardMill$Route\x72", "isOutside", "(II)Z"⟩, 7), (⟨"BoardMill$Route\x72", "joinNextPad", "(I)I"⟩, 7), (⟨"BoardMill$Route\x72", "search", "(IZ)I"⟩, 7), (⟨"BoardMill$Route\x72", "tollOf", "(IIZ)I"⟩, 7), (⟨"BoardMill$Route\x72", "reach", "(II)V"⟩, 7), (⟨"BoardMill$Route\x72", "takeLeast", "()J"⟩, 7), (⟨"BoardMill$Route\x72", "spread", "(I)V"⟩, 7), (⟨"BoardMill$Route\x72", "padAtDistance", "(II)I"⟩, 7), (⟨"BoardMill$Route\x72", "blockersOf", "(I)I"⟩, 7), (⟨"BoardMill$Route\x72", "joinPad", "(II)V"⟩, 7), (⟨"BoardMill$Route\x72", "backFrom", "(I)I"⟩, 7), (⟨"BoardMill$Route\x72", "rip", "(II)V"⟩, 7), (⟨"BoardMill$Cut", "addShape", "(IIIII)V"⟩, 19), (⟨"BoardMill$Cut", "addRuns", "(LBoardMill$Board;IZ)V"⟩, 19), (⟨"BoardMill$Cut", "addRunsOfLine", "(LBoardMill$Board;IIIZ)V"⟩, 19)]
theorem lw_r6 : ∀ q ∈ lw_privs_6, lw_okq q := List.forall_mem_cons.mpr ⟨lw_p80, List.forall_mem_cons.mpr ⟨lw_p81, List.forall_mem_cons.mpr ⟨lw_p82, List.forall_mem_cons.mpr ⟨lw_p83, List.forall_mem_cons.mpr ⟨lw_p84, List.forall_mem_cons.mpr ⟨lw_p85, List.forall_mem_cons.mpr ⟨lw_p86, List.forall_mem_cons.mpr ⟨lw_p87, List.forall_mem_cons.mpr ⟨lw_p88, List.forall_mem_cons.mpr ⟨lw_p89, List.forall_mem_cons.mpr ⟨lw_p90, List.forall_mem_cons.mpr ⟨lw_p91, List.forall_mem_cons.mpr ⟨lw_p92, List.forall_mem_cons.mpr ⟨lw_p93, List.forall_mem_cons.mpr ⟨lw_p94, List.forall_mem_cons.mpr ⟨lw_p95, fun _ h => absurd h List.not_mem_nil⟩⟩⟩⟩⟩⟩⟩⟩⟩⟩⟩⟩⟩⟩⟩⟩
theorem lw_p96 : lw_okq (⟨"BoardMill$Cut", "addHoles", "(LBoardMill$Board;I)V"⟩, 19) := ⟨⟨by decide +kernel, by decide +kernel⟩, List.mem_of_getElem? (i := 323) (by decide +kernel), List.mem_of_getElem? (i := 1510) (by decide +kernel), List.mem_of_getElem? (i := 1511) (by decide +kernel)⟩
theorem lw_p97 : lw_okq (⟨"BoardMill$Cut", "findPieces", "()V"⟩, 19) := ⟨⟨by decide +kernel, by decide +kernel⟩, List.mem_of_getElem? (i := 323) (by decide +kernel), List.mem_of_getElem? (i := 1517) (by decide +kernel), List.mem_of_getElem? (i := 1518) (by decide +kernel)⟩
theorem lw_p98 : lw_okq (⟨"BoardMill$Cut", "classOf", "(I)I"⟩, 19) := ⟨⟨by decide +kernel, by decide +kernel⟩, List.mem_of_getElem? (i := 323) (by decide +kernel), List.mem_of_getElem? (i := 1521) (by decide +kernel), List.mem_of_getElem? (i := 1522) (by decide +kernel)⟩
theorem lw_p99 : lw_okq (⟨"BoardMill$Cut", "touch", "(II)Z"⟩, 19) := ⟨⟨by decide +kernel, by decide +kernel⟩, List.mem_of_getElem? (i := 323) (by decide +kernel), List.mem_of_getElem? (i := 1526) (by decide +kernel), List.mem_of_getElem? (i := 1527) (by decide +kernel)⟩
theorem lw_p100 : lw_okq (⟨"BoardMill$Cut", "topOf", "(I)I"⟩, 19) := ⟨⟨by decide +kernel, by decide +kernel⟩, List.mem_of_getElem? (i := 323) (by decide +kernel), List.mem_of_getElem? (i := 1530) (by decide +kernel), List.mem_of_getElem? (i := 1531) (by decide +kernel)⟩
theorem lw_p101 : lw_okq (⟨"BoardMill$Cut", "layerOf", "(I)I"⟩, 19) := ⟨⟨by decide +kernel, by decide +kernel⟩, List.mem_of_getElem? (i := 323) (by decide +kernel), List.mem_of_getElem? (i := 1534) (by decide +kernel), List.mem_of_getElem? (i := 1535) (by decide +kernel)⟩
theorem lw_p102 : lw_okq (⟨"BoardMill$Cut", "radiusOf", "(I)I"⟩, 19) := ⟨⟨by decide +kernel, by decide +kernel⟩, List.mem_of_getElem? (i := 323) (by decide +kernel), List.mem_of_getElem? (i := 1540) (by decide +kernel), List.mem_of_getElem? (i := 1541) (by decide +kernel)⟩
theorem lw_p103 : lw_okq (⟨"BoardMill$Cut", "squareBetween", "(III)J"⟩, 19) := ⟨⟨by decide +kernel, by decide +kernel⟩, List.mem_of_getElem? (i := 323) (by decide +kernel), List.mem_of_getElem? (i := 1546) (by decide +kernel), List.mem_of_getElem? (i := 1547) (by decide +kernel)⟩
theorem lw_p104 : lw_okq (⟨"BoardMill$Cut", "edge", "(IZZ)I"⟩, 19) := ⟨⟨by decide +kernel, by decide +kernel⟩, List.mem_of_getElem? (i := 323) (by decide +kernel), List.mem_of_getElem? (i := 1550) (by decide +kernel), List.mem_of_getElem? (i := 1551) (by decide +kernel)⟩
theorem lw_p105 : lw_okq (⟨"BoardMill$Cut", "joinCoppe\x72", "(III)V"⟩, 19) := ⟨⟨by decide +kernel, by decide +kernel⟩, List.mem_of_getElem? (i := 323) (by decide +kernel), List.mem_of_getElem? (i := 1557) (by decide +kernel), List.mem_of_getElem? (i := 1558) (by decide +kernel)⟩
theorem lw_p106 : lw_okq (⟨"BoardMill$Cut", "numberCoppe\x72", "()V"⟩, 19) := ⟨⟨by decide +kernel, by decide +kernel⟩, List.mem_of_getElem? (i := 323) (by decide +kernel), List.mem_of_getElem? (i := 1561) (by decide +kernel), List.mem_of_getElem? (i := 1562) (by decide +kernel)⟩
theorem lw_p107 : lw_okq (⟨"BoardMill$Cut", "findAirlines", "()V"⟩, 19) := ⟨⟨by decide +kernel, by decide +kernel⟩, List.mem_of_getElem? (i := 323) (by decide +kernel), List.mem_of_getElem? (i := 1565) (by decide +kernel), List.mem_of_getElem? (i := 1566) (by decide +kernel)⟩
theorem lw_p108 : lw_okq (⟨"BoardMill$Cut", "nearestPai\x72", "(I)I"⟩, 19) := ⟨⟨by decide +kernel, by decide +kernel⟩, List.mem_of_getElem? (i := 323) (by decide +kernel), List.mem_of_getElem? (i := 1569) (by decide +kernel), List.mem_of_getElem? (i := 1570) (by decide +kernel)⟩
theorem lw_p109 : lw_okq (⟨"BoardMill$Cut", "netOfShape", "(I)I"⟩, 19) := ⟨⟨by decide +kernel, by decide +kernel⟩, List.mem_of_getElem? (i := 323) (by decide +kernel), List.mem_of_getElem? (i := 1573) (by decide +kernel), List.mem_of_getElem? (i := 1574) (by decide +kernel)⟩
theorem lw_p110 : lw_okq (⟨"BoardMill$Cut", "joinMarks", "(II)V"⟩, 19) := ⟨⟨by decide +kernel, by decide +kernel⟩, List.mem_of_getElem? (i := 323) (by decide +kernel), List.mem_of_getElem? (i := 1577) (by decide +kernel), List.mem_of_getElem? (i := 1578) (by decide +kernel)⟩
theorem lw_p111 : lw_okq (⟨"BoardMill$Cut", "countShorts", "()V"⟩, 19) := ⟨⟨by decide +kernel, by decide +kernel⟩, List.mem_of_getElem? (i := 323) (by decide +kernel), List.mem_of_getElem? (i := 1581) (by decide +kernel), List.mem_of_getElem? (i := 1582) (by decide +kernel)⟩
def lw_privs_7 : List (MethodName × Nat) := [(⟨"BoardMill$Cut", "addHoles", "(LBoardMill$Board;I)V"⟩, 19), (⟨"BoardMill$Cut", "findPieces", "()V"⟩, 19), (⟨"BoardMill$Cut", "classOf", "(I)I"⟩, 19), (⟨"BoardMill$Cut", "touch", "(II)Z"⟩, 19), (⟨"BoardMill$Cut", "topOf", "(I)I"⟩, 19), (⟨"BoardMill$Cut", "layerOf", "(I)I"⟩, 19), (⟨"BoardMill$Cut", "radiusOf", "(I)I"⟩, 19), (⟨"BoardMill$Cut", "squareBetween", "(III)J"⟩, 19), (⟨"BoardMill$Cut", "edge", "(IZZ)I"⟩, 19), (⟨"BoardMill$Cut", "joinCoppe\x72", "(III)V"⟩, 19), (⟨"BoardMill$Cut", "numberCoppe\x72", "()V"⟩, 19), (⟨"BoardMill$Cut", "findAirlines", "()V"⟩, 19), (⟨"BoardMill$Cut", "nearestPai\x72", "(I)I"⟩, 19), (⟨"BoardMill$Cut", "netOfShape", "(I)I"⟩, 19), (⟨"BoardMill$Cut", "joinMarks", "(II)V"⟩, 19), (⟨"BoardMill$Cut", "countShorts", "()V"⟩, 19)]
theorem lw_r7 : ∀ q ∈ lw_privs_7, lw_okq q := List.forall_mem_cons.mpr ⟨lw_p96, List.forall_mem_cons.mpr ⟨lw_p97, List.forall_mem_cons.mpr ⟨lw_p98, List.forall_mem_cons.mpr ⟨lw_p99, List.forall_mem_cons.mpr ⟨lw_p100, List.forall_mem_cons.mpr ⟨lw_p101, List.forall_mem_cons.mpr ⟨lw_p102, List.forall_mem_cons.mpr ⟨lw_p103, List.forall_mem_cons.mpr ⟨lw_p104, List.forall_mem_cons.mpr ⟨lw_p105, List.forall_mem_cons.mpr ⟨lw_p106, List.forall_mem_cons.mpr ⟨lw_p107, List.forall_mem_cons.mpr ⟨lw_p108, List.forall_mem_cons.mpr ⟨lw_p109, List.forall_mem_cons.mpr ⟨lw_p110, List.forall_mem_cons.mpr ⟨lw_p111, fun _ h => absurd h List.not_mem_nil⟩⟩⟩⟩⟩⟩⟩⟩⟩⟩⟩⟩⟩⟩⟩⟩
theorem lw_p112 : lw_okq (⟨"BoardMill$Cut", "findFaults", "(LBoardMill$Rows;)V"⟩, 19) := ⟨⟨by decide +kernel, by decide +kernel⟩, List.mem_of_getElem? (i := 323) (by decide +kernel), List.mem_of_getElem? (i := 1585) (by decide +kernel), List.mem_of_getElem? (i := 1586) (by decide +kernel)⟩
theorem lw_p113 : lw_okq (⟨"BoardMill$Cut", "findFaultsOf", "(ILBoardMill$Rows;)V"⟩, 19) := ⟨⟨by decide +kernel, by decide +kernel⟩, List.mem_of_getElem? (i := 323) (by decide +kernel), List.mem_of_getElem? (i := 1589) (by decide +kernel), List.mem_of_getElem? (i := 1590) (by decide +kernel)⟩
theorem lw_p114 : lw_okq (⟨"BoardMill$Cut", "isCoppe\x72", "(I)Z"⟩, 19) := ⟨⟨by decide +kernel, by decide +kernel⟩, List.mem_of_getElem? (i := 323) (by decide +kernel), List.mem_of_getElem? (i := 1599) (by decide +kernel), List.mem_of_getElem? (i := 1600) (by decide +kernel)⟩
theorem lw_p115 : lw_okq (⟨"BoardMill$Cut", "addFault", "(III)V"⟩, 19) := ⟨⟨by decide +kernel, by decide +kernel⟩, List.mem_of_getElem? (i := 323) (by decide +kernel), List.mem_of_getElem? (i := 1603) (by decide +kernel), List.mem_of_getElem? (i := 1604) (by decide +kernel)⟩
theorem lw_p116 : lw_okq (⟨"BoardMill$Cut", "hasRing", "(II)Z"⟩, 19) := ⟨⟨by decide +kernel, by decide +kernel⟩, List.mem_of_getElem? (i := 323) (by decide +kernel), List.mem_of_getElem? (i := 1607) (by decide +kernel), List.mem_of_getElem? (i := 1608) (by decide +kernel)⟩
theorem lw_p117 : lw_okq (⟨"BoardMill$Cut", "endLies", "(IZ)Z"⟩, 19) := ⟨⟨by decide +kernel, by decide +kernel⟩, List.mem_of_getElem? (i := 323) (by decide +kernel), List.mem_of_getElem? (i := 1611) (by decide +kernel), List.mem_of_getElem? (i := 1612) (by decide +kernel)⟩
theorem lw_p118 : lw_okq (⟨"BoardMill$Cut", "findFaultsOfPai\x72", "(IILBoardMill$Rows;)V"⟩, 19) := ⟨⟨by decide +kernel, by decide +kernel⟩, List.mem_of_getElem? (i := 323) (by decide +kernel), List.mem_of_getElem? (i := 1615) (by decide +kernel), List.mem_of_getElem? (i := 1616) (by decide +kernel)⟩
theorem lw_p119 : lw_okq (⟨"BoardMill$Cut", "isTooNea\x72", "(III)Z"⟩, 19) := ⟨⟨by decide +kernel, by decide +kernel⟩, List.mem_of_getElem? (i := 323) (by decide +kernel), List.mem_of_getElem? (i := 1619) (by decide +kernel), List.mem_of_getElem? (i := 1620) (by decide +kernel)⟩
theorem lw_p120 : lw_okq (⟨"BoardMill$Cut", "orderHoles", "()V"⟩, 19) := ⟨⟨by decide +kernel, by decide +kernel⟩, List.mem_of_getElem? (i := 323) (by decide +kernel), List.mem_of_getElem? (i := 1624) (by decide +kernel), List.mem_of_getElem? (i := 1625) (by decide +kernel)⟩
theorem lw_p121 : lw_okq (⟨"BoardMill$Cut", "orderFewHoles", "()V"⟩, 19) := ⟨⟨by decide +kernel, by decide +kernel⟩, List.mem_of_getElem? (i := 323) (by decide +kernel), List.mem_of_getElem? (i := 1628) (by decide +kernel), List.mem_of_getElem? (i := 1629) (by decide +kernel)⟩
theorem lw_p122 : lw_okq (⟨"BoardMill$Cut", "nextOfLeastTravel", "(II)I"⟩, 19) := ⟨⟨by decide +kernel, by decide +kernel⟩, List.mem_of_getElem? (i := 323) (by decide +kernel), List.mem_of_getElem? (i := 1632) (by decide +kernel), List.mem_of_getElem? (i := 1633) (by decide +kernel)⟩
theorem lw_p123 : lw_okq (⟨"BoardMill$Cut", "travelBy", "(III)I"⟩, 19) := ⟨⟨by decide +kernel, by decide +kernel⟩, List.mem_of_getElem? (i := 323) (by decide +kernel), List.mem_of_getElem? (i := 1636) (by decide +kernel), List.mem_of_getElem? (i := 1637) (by decide +kernel)⟩
theorem lw_p124 : lw_okq (⟨"BoardMill$Cut", "wayBetween", "(II)I"⟩, 19) := ⟨⟨by decide +kernel, by decide +kernel⟩, List.mem_of_getElem? (i := 323) (by decide +kernel), List.mem_of_getElem? (i := 1640) (by decide +kernel), List.mem_of_getElem? (i := 1641) (by decide +kernel)⟩
theorem lw_p125 : lw_okq (⟨"BoardMill$Cut", "orderManyHoles", "()V"⟩, 19) := ⟨⟨by decide +kernel, by decide +kernel⟩, List.mem_of_getElem? (i := 323) (by decide +kernel), List.mem_of_getElem? (i := 1653) (by decide +kernel), List.mem_of_getElem? (i := 1654) (by decide +kernel)⟩
theorem lw_p126 : lw_okq (⟨"BoardMill$Cut", "emitWord", "(Ljava/lang/String;)V"⟩, 19) := ⟨⟨by decide +kernel, by decide +kernel⟩, List.mem_of_getElem? (i := 323) (by decide +kernel), List.mem_of_getElem? (i := 1710) (by decide +kernel), List.mem_of_getElem? (i := 1711) (by decide +kernel)⟩
theorem lw_p127 : lw_okq (⟨"BoardMill$Cut", "emitNumbe\x72", "(I)V"⟩, 19) := ⟨⟨by decide +kernel, by decide +kernel⟩, List.mem_of_getElem? (i := 323) (by decide +kernel), List.mem_of_getElem? (i := 1716) (by decide +kernel), List.mem_of_getElem? (i := 1717) (by decide +kernel)⟩
def lw_privs_8 : List (MethodName × Nat) := [(⟨"BoardMill$Cut", "findFaults", "(LBoardMill$Rows;)V"⟩, 19), (⟨"BoardMill$Cut", "findFaultsOf", "(ILBoardMill$Rows;)V"⟩, 19), (⟨"BoardMill$Cut", "isCoppe\x72", "(I)Z"⟩, 19), (⟨"BoardMill$Cut", "addFault", "(III)V"⟩, 19), (⟨"BoardMill$Cut", "hasRing", "(II)Z"⟩, 19), (⟨"BoardMill$Cut", "endLies", "(IZ)Z"⟩, 19), (⟨"BoardMill$Cut", "findFaultsOfPai\x72", "(IILBoardMill$Rows;)V"⟩, 19), (⟨"BoardMill$Cut", "isTooNea\x72", "(III)Z"⟩, 19), (⟨"BoardMill$Cut", "orderHoles", "()V"⟩, 19), (⟨"BoardMill$Cut", "orderFewHoles", "()V"⟩, 19), (⟨"BoardMill$Cut", "nextOfLeastTravel", "(II)I"⟩, 19), (⟨"BoardMill$Cut", "travelBy", "(III)I"⟩, 19), (⟨"BoardMill$Cut", "wayBetween", "(II)I"⟩, 19), (⟨"BoardMill$Cut", "orderManyHoles", "()V"⟩, 19), (⟨"BoardMill$Cut", "emitWord", "(Ljava/lang/String;)V"⟩, 19), (⟨"BoardMill$Cut", "emitNumbe\x72", "(I)V"⟩, 19)]
theorem lw_r8 : ∀ q ∈ lw_privs_8, lw_okq q := List.forall_mem_cons.mpr ⟨lw_p112, List.forall_mem_cons.mpr ⟨lw_p113, List.forall_mem_cons.mpr ⟨lw_p114, List.forall_mem_cons.mpr ⟨lw_p115, List.forall_mem_cons.mpr ⟨lw_p116, List.forall_mem_cons.mpr ⟨lw_p117, List.forall_mem_cons.mpr ⟨lw_p118, List.forall_mem_cons.mpr ⟨lw_p119, List.forall_mem_cons.mpr ⟨lw_p120, List.forall_mem_cons.mpr ⟨lw_p121, List.forall_mem_cons.mpr ⟨lw_p122, List.forall_mem_cons.mpr ⟨lw_p123, List.forall_mem_cons.mpr ⟨lw_p124, List.forall_mem_cons.mpr ⟨lw_p125, List.forall_mem_cons.mpr ⟨lw_p126, List.forall_mem_cons.mpr ⟨lw_p127, fun _ h => absurd h List.not_mem_nil⟩⟩⟩⟩⟩⟩⟩⟩⟩⟩⟩⟩⟩⟩⟩⟩
theorem lw_p128 : lw_okq (⟨"BoardMill$Cut", "countHoles", "(I)I"⟩, 19) := ⟨⟨by decide +kernel, by decide +kernel⟩, List.mem_of_getElem? (i := 323) (by decide +kernel), List.mem_of_getElem? (i := 1722) (by decide +kernel), List.mem_of_getElem? (i := 1723) (by decide +kernel)⟩
theorem lw_p129 : lw_okq (⟨"BoardMill$Cut", "isHoleOf", "(II)Z"⟩, 19) := ⟨⟨by decide +kernel, by decide +kernel⟩, List.mem_of_getElem? (i := 323) (by decide +kernel), List.mem_of_getElem? (i := 1726) (by decide +kernel), List.mem_of_getElem? (i := 1727) (by decide +kernel)⟩
theorem lw_p130 : lw_okq (⟨"BoardMill$Cut", "holeX", "(I)I"⟩, 19) := ⟨⟨by decide +kernel, by decide +kernel⟩, List.mem_of_getElem? (i := 323) (by decide +kernel), List.mem_of_getElem? (i := 1732) (by decide +kernel), List.mem_of_getElem? (i := 1733) (by decide +kernel)⟩
theorem lw_p131 : lw_okq (⟨"BoardMill$Cut", "holeY", "(I)I"⟩, 19) := ⟨⟨by decide +kernel, by decide +kernel⟩, List.mem_of_getElem? (i := 323) (by decide +kernel), List.mem_of_getElem? (i := 1737) (by decide +kernel), List.mem_of_getElem? (i := 1738) (by decide +kernel)⟩
theorem lw_p132 : lw_okq (⟨"BoardMill$Cut", "takeWord", "(Ljava/lang/String;)Z"⟩, 19) := ⟨⟨by decide +kernel, by decide +kernel⟩, List.mem_of_getElem? (i := 323) (by decide +kernel), List.mem_of_getElem? (i := 1751) (by decide +kernel), List.mem_of_getElem? (i := 1752) (by decide +kernel)⟩
theorem lw_p133 : lw_okq (⟨"BoardMill$Cut", "takeNumbe\x72", "()I"⟩, 19) := ⟨⟨by decide +kernel, by decide +kernel⟩, List.mem_of_getElem? (i := 323) (by decide +kernel), List.mem_of_getElem? (i := 1755) (by decide +kernel), List.mem_of_getElem? (i := 1756) (by decide +kernel)⟩
theorem lw_p134 : lw_okq (⟨"BoardMill$Script", "readStatements", "(II)V"⟩, 7) := ⟨⟨by decide +kernel, by decide +kernel⟩, List.mem_of_getElem? (i := 396) (by decide +kernel), List.mem_of_getElem? (i := 1771) (by decide +kernel), List.mem_of_getElem? (i := 1772) (by decide +kernel)⟩
theorem lw_p135 : lw_okq (⟨"BoardMill$Script", "readStatement", "(I)V"⟩, 7) := ⟨⟨by decide +kernel, by decide +kernel⟩, List.mem_of_getElem? (i := 396) (by decide +kernel), List.mem_of_getElem? (i := 1779) (by decide +kernel), List.mem_of_getElem? (i := 1780) (by decide +kernel)⟩
theorem lw_p136 : lw_okq (⟨"BoardMill$Script", "fail", "(I)V"⟩, 7) := ⟨⟨by decide +kernel, by decide +kernel⟩, List.mem_of_getElem? (i := 396) (by decide +kernel), List.mem_of_getElem? (i := 1783) (by decide +kernel), List.mem_of_getElem? (i := 1784) (by decide +kernel)⟩
theorem lw_p137 : lw_okq (⟨"BoardMill$Script", "readBlocks", "(II)V"⟩, 7) := ⟨⟨by decide +kernel, by decide +kernel⟩, List.mem_of_getElem? (i := 396) (by decide +kernel), List.mem_of_getElem? (i := 1787) (by decide +kernel), List.mem_of_getElem? (i := 1788) (by decide +kernel)⟩
theorem lw_p138 : lw_okq (⟨"BoardMill$Script", "readBlock", "(ICC)V"⟩, 7) := ⟨⟨by decide +kernel, by decide +kernel⟩, List.mem_of_getElem? (i := 396) (by decide +kernel), List.mem_of_getElem? (i := 1791) (by decide +kernel), List.mem_of_getElem? (i := 1792) (by decide +kernel)⟩
theorem lw_p139 : lw_okq (⟨"BoardMill$Script", "isNext", "(I)Z"⟩, 7) := ⟨⟨by decide +kernel, by decide +kernel⟩, List.mem_of_getElem? (i := 396) (by decide +kernel), List.mem_of_getElem? (i := 1795) (by decide +kernel), List.mem_of_getElem? (i := 1796) (by decide +kernel)⟩
theorem lw_p140 : lw_okq (⟨"BoardMill$Script", "take", "(I)V"⟩, 7) := ⟨⟨by decide +kernel, by decide +kernel⟩, List.mem_of_getElem? (i := 396) (by decide +kernel), List.mem_of_getElem? (i := 1799) (by decide +kernel), List.mem_of_getElem? (i := 1800) (by decide +kernel)⟩
theorem lw_p141 : lw_okq (⟨"BoardMill$Script", "readFunction", "(II)V"⟩, 7) := ⟨⟨by decide +kernel, by decide +kernel⟩, List.mem_of_getElem? (i := 396) (by decide +kernel), List.mem_of_getElem? (i := 1803) (by decide +kernel), List.mem_of_getElem? (i := 1804) (by decide +kernel)⟩
theorem lw_p142 : lw_okq (⟨"BoardMill$Script", "readExpression", "(I)V"⟩, 7) := ⟨⟨by decide +kernel, by decide +kernel⟩, List.mem_of_getElem? (i := 396) (by decide +kernel), List.mem_of_getElem? (i := 1814) (by decide +kernel), List.mem_of_getElem? (i := 1815) (by decide +kernel)⟩
theorem lw_p143 : lw_okq (⟨"BoardMill$Script", "readSum", "(I)V"⟩, 7) := ⟨⟨by decide +kernel, by decide +kernel⟩, List.mem_of_getElem? (i := 396) (by decide +kernel), List.mem_of_getElem? (i := 1818) (by decide +kernel), List.mem_of_getElem? (i := 1819) (by decide +kernel)⟩
def lw_privs_9 : List (MethodName × Nat) := [(⟨"BoardMill$Cut", "countHoles", "(I)I"⟩, 19), (⟨"BoardMill$Cut", "isHoleOf", "(II)Z"⟩, 19), (⟨"BoardMill$Cut", "holeX", "(I)I"⟩, 19), (⟨"BoardMill$Cut", "holeY", "(I)I"⟩, 19), (⟨"BoardMill$Cut", "takeWord", "(Ljava/lang/String;)Z"⟩, 19), (⟨"BoardMill$Cut", "takeNumbe\x72", "()I"⟩, 19), (⟨"BoardMill$Script", "readStatements", "(II)V"⟩, 7), (⟨"BoardMill$Script", "readStatement", "(I)V"⟩, 7), (⟨"BoardMill$Script", "fail", "(I)V"⟩, 7), (⟨"BoardMill$Script", "readBlocks", "(II)V"⟩, 7), (⟨"BoardMill$Script", "readBlock", "(ICC)V"⟩, 7), (⟨"BoardMill$Script", "isNext", "(I)Z"⟩, 7), (⟨"BoardMill$Script", "take", "(I)V"⟩, 7), (⟨"BoardMill$Script", "readFunction", "(II)V"⟩, 7), (⟨"BoardMill$Script", "readExpression", "(I)V"⟩, 7), (⟨"BoardMill$Script", "readSum", "(I)V"⟩, 7)]
theorem lw_r9 : ∀ q ∈ lw_privs_9, lw_okq q := List.forall_mem_cons.mpr ⟨lw_p128, List.forall_mem_cons.mpr ⟨lw_p129, List.forall_mem_cons.mpr ⟨lw_p130, List.forall_mem_cons.mpr ⟨lw_p131, List.forall_mem_cons.mpr ⟨lw_p132, List.forall_mem_cons.mpr ⟨lw_p133, List.forall_mem_cons.mpr ⟨lw_p134, List.forall_mem_cons.mpr ⟨lw_p135, List.forall_mem_cons.mpr ⟨lw_p136, List.forall_mem_cons.mpr ⟨lw_p137, List.forall_mem_cons.mpr ⟨lw_p138, List.forall_mem_cons.mpr ⟨lw_p139, List.forall_mem_cons.mpr ⟨lw_p140, List.forall_mem_cons.mpr ⟨lw_p141, List.forall_mem_cons.mpr ⟨lw_p142, List.forall_mem_cons.mpr ⟨lw_p143, fun _ h => absurd h List.not_mem_nil⟩⟩⟩⟩⟩⟩⟩⟩⟩⟩⟩⟩⟩⟩⟩⟩
theorem lw_p144 : lw_okq (⟨"BoardMill$Script", "readProduct", "(I)V"⟩, 7) := ⟨⟨by decide +kernel, by decide +kernel⟩, List.mem_of_getElem? (i := 396) (by decide +kernel), List.mem_of_getElem? (i := 1822) (by decide +kernel), List.mem_of_getElem? (i := 1823) (by decide +kernel)⟩
theorem lw_p145 : lw_okq (⟨"BoardMill$Script", "readAtom", "(I)V"⟩, 7) := ⟨⟨by decide +kernel, by decide +kernel⟩, List.mem_of_getElem? (i := 396) (by decide +kernel), List.mem_of_getElem? (i := 1826) (by decide +kernel), List.mem_of_getElem? (i := 1827) (by decide +kernel)⟩
theorem lw_p146 : lw_okq (⟨"BoardMill$Script", "readDeepAtom", "(II)V"⟩, 7) := ⟨⟨by decide +kernel, by decide +kernel⟩, List.mem_of_getElem? (i := 396) (by decide +kernel), List.mem_of_getElem? (i := 1836) (by decide +kernel), List.mem_of_getElem? (i := 1837) (by decide +kernel)⟩
theorem lw_p147 : lw_okq (⟨"BoardMill$Script", "readField", "()V"⟩, 7) := ⟨⟨by decide +kernel, by decide +kernel⟩, List.mem_of_getElem? (i := 396) (by decide +kernel), List.mem_of_getElem? (i := 1840) (by decide +kernel), List.mem_of_getElem? (i := 1841) (by decide +kernel)⟩
theorem lw_p148 : lw_okq (⟨"BoardMill$Machine", "clearErro\x72", "()V"⟩, 18) := ⟨⟨by decide +kernel, by decide +kernel⟩, List.mem_of_getElem? (i := 425) (by decide +kernel), List.mem_of_getElem? (i := 1848) (by decide +kernel), List.mem_of_getElem? (i := 1849) (by decide +kernel)⟩
theorem lw_p149 : lw_okq (⟨"BoardMill$Machine", "walk", "(IIII)V"⟩, 18) := ⟨⟨by decide +kernel, by decide +kernel⟩, List.mem_of_getElem? (i := 425) (by decide +kernel), List.mem_of_getElem? (i := 1875) (by decide +kernel), List.mem_of_getElem? (i := 1876) (by decide +kernel)⟩
theorem lw_p150 : lw_okq (⟨"BoardMill$Machine", "isGoing", "()Z"⟩, 18) := ⟨⟨by decide +kernel, by decide +kernel⟩, List.mem_of_getElem? (i := 425) (by decide +kernel), List.mem_of_getElem? (i := 1879) (by decide +kernel), List.mem_of_getElem? (i := 1880) (by decide +kernel)⟩
theorem lw_p151 : lw_okq (⟨"BoardMill$Machine", "walkStatement", "(III)I"⟩, 18) := ⟨⟨by decide +kernel, by decide +kernel⟩, List.mem_of_getElem? (i := 425) (by decide +kernel), List.mem_of_getElem? (i := 1884) (by decide +kernel), List.mem_of_getElem? (i := 1885) (by decide +kernel)⟩
theorem lw_p152 : lw_okq (⟨"BoardMill$Machine", "walkLoop", "(III)I"⟩, 18) := ⟨⟨by decide +kernel, by decide +kernel⟩, List.mem_of_getElem? (i := 425) (by decide +kernel), List.mem_of_getElem? (i := 1892) (by decide +kernel), List.mem_of_getElem? (i := 1893) (by decide +kernel)⟩
theorem lw_p153 : lw_okq (⟨"BoardMill$Machine", "spendStep", "()Z"⟩, 18) := ⟨⟨by decide +kernel, by decide +kernel⟩, List.mem_of_getElem? (i := 425) (by decide +kernel), List.mem_of_getElem? (i := 1896) (by decide +kernel), List.mem_of_getElem? (i := 1897) (by decide +kernel)⟩
theorem lw_p154 : lw_okq (⟨"BoardMill$Machine", "reckonIn", "(II)J"⟩, 18) := ⟨⟨by decide +kernel, by decide +kernel⟩, List.mem_of_getElem? (i := 425) (by decide +kernel), List.mem_of_getElem? (i := 1900) (by decide +kernel), List.mem_of_getElem? (i := 1901) (by decide +kernel)⟩
theorem lw_p155 : lw_okq (⟨"BoardMill$Machine", "expression", "(I)J"⟩, 18) := ⟨⟨by decide +kernel, by decide +kernel⟩, List.mem_of_getElem? (i := 425) (by decide +kernel), List.mem_of_getElem? (i := 1904) (by decide +kernel), List.mem_of_getElem? (i := 1905) (by decide +kernel)⟩
theorem lw_p156 : lw_okq (⟨"BoardMill$Machine", "sum", "(I)J"⟩, 18) := ⟨⟨by decide +kernel, by decide +kernel⟩, List.mem_of_getElem? (i := 425) (by decide +kernel), List.mem_of_getElem? (i := 1908) (by decide +kernel), List.mem_of_getElem? (i := 1909) (by decide +kernel)⟩
theorem lw_p157 : lw_okq (⟨"BoardMill$Machine", "product", "(I)J"⟩, 18) := ⟨⟨by decide +kernel, by decide +kernel⟩, List.mem_of_getElem? (i := 425) (by decide +kernel), List.mem_of_getElem? (i := 1912) (by decide +kernel), List.mem_of_getElem? (i := 1913) (by decide +kernel)⟩
theorem lw_p158 : lw_okq (⟨"BoardMill$Machine", "atom", "(I)J"⟩, 18) := ⟨⟨by decide +kernel, by decide +kernel⟩, List.mem_of_getElem? (i := 425) (by decide +kernel), List.mem_of_getElem? (i := 1916) (by decide +kernel), List.mem_of_getElem? (i := 1917) (by decide +kernel)⟩
theorem lw_p159 : lw_okq (⟨"BoardMill$Machine", "digits", "()J"⟩, 18) := ⟨⟨by decide +kernel, by decide +kernel⟩, List.mem_of_getElem? (i := 425) (by decide +kernel), List.mem_of_getElem? (i := 1921) (by decide +kernel), List.mem_of_getElem? (i := 1922) (by decide +kernel)⟩
def lw_privs_10 : List (MethodName × Nat) := [(⟨"BoardMill$Script", "readProduct", "(I)V"⟩, 7), (⟨"BoardMill$Script", "readAtom", "(I)V"⟩, 7), (⟨"BoardMill$Script", "readDeepAtom", "(II)V"⟩, 7), (⟨"BoardMill$Script", "readField", "()V"⟩, 7), (⟨"BoardMill$Machine", "clearErro\x72", "()V"⟩, 18), (⟨"BoardMill$Machine", "walk", "(IIII)V"⟩, 18), (⟨"BoardMill$Machine", "isGoing", "()Z"⟩, 18), (⟨"BoardMill$Machine", "walkStatement", "(III)I"⟩, 18), (⟨"BoardMill$Machine", "walkLoop", "(III)I"⟩, 18), (⟨"BoardMill$Machine", "spendStep", "()Z"⟩, 18), (⟨"BoardMill$Machine", "reckonIn", "(II)J"⟩, 18), (⟨"BoardMill$Machine", "expression", "(I)J"⟩, 18), (⟨"BoardMill$Machine", "sum", "(I)J"⟩, 18), (⟨"BoardMill$Machine", "product", "(I)J"⟩, 18), (⟨"BoardMill$Machine", "atom", "(I)J"⟩, 18), (⟨"BoardMill$Machine", "digits", "()J"⟩, 18)]
theorem lw_r10 : ∀ q ∈ lw_privs_10, lw_okq q := List.forall_mem_cons.mpr ⟨lw_p144, List.forall_mem_cons.mpr ⟨lw_p145, List.forall_mem_cons.mpr ⟨lw_p146, List.forall_mem_cons.mpr ⟨lw_p147, List.forall_mem_cons.mpr ⟨lw_p148, List.forall_mem_cons.mpr ⟨lw_p149, List.forall_mem_cons.mpr ⟨lw_p150, List.forall_mem_cons.mpr ⟨lw_p151, List.forall_mem_cons.mpr ⟨lw_p152, List.forall_mem_cons.mpr ⟨lw_p153, List.forall_mem_cons.mpr ⟨lw_p154, List.forall_mem_cons.mpr ⟨lw_p155, List.forall_mem_cons.mpr ⟨lw_p156, List.forall_mem_cons.mpr ⟨lw_p157, List.forall_mem_cons.mpr ⟨lw_p158, List.forall_mem_cons.mpr ⟨lw_p159, fun _ h => absurd h List.not_mem_nil⟩⟩⟩⟩⟩⟩⟩⟩⟩⟩⟩⟩⟩⟩⟩⟩
theorem lw_p160 : lw_okq (⟨"BoardMill$Machine", "deepAtom", "(II)J"⟩, 18) := ⟨⟨by decide +kernel, by decide +kernel⟩, List.mem_of_getElem? (i := 425) (by decide +kernel), List.mem_of_getElem? (i := 1928) (by decide +kernel), List.mem_of_getElem? (i := 1929) (by decide +kernel)⟩
theorem lw_p161 : lw_okq (⟨"BoardMill$Machine", "factIndex", "(J)I"⟩, 18) := ⟨⟨by decide +kernel, by decide +kernel⟩, List.mem_of_getElem? (i := 425) (by decide +kernel), List.mem_of_getElem? (i := 1932) (by decide +kernel), List.mem_of_getElem? (i := 1933) (by decide +kernel)⟩
theorem lw_p162 : lw_okq (⟨"BoardMill$Machine", "raise", "(I)V"⟩, 18) := ⟨⟨by decide +kernel, by decide +kernel⟩, List.mem_of_getElem? (i := 425) (by decide +kernel), List.mem_of_getElem? (i := 1936) (by decide +kernel), List.mem_of_getElem? (i := 1937) (by decide +kernel)⟩
theorem lw_p163 : lw_okq (⟨"BoardMill$Machine", "listIndex", "(J)I"⟩, 18) := ⟨⟨by decide +kernel, by decide +kernel⟩, List.mem_of_getElem? (i := 425) (by decide +kernel), List.mem_of_getElem? (i := 1940) (by decide +kernel), List.mem_of_getElem? (i := 1941) (by decide +kernel)⟩
theorem lw_p164 : lw_okq (⟨"BoardMill$Machine", "divided", "(JJZ)J"⟩, 18) := ⟨⟨by decide +kernel, by decide +kernel⟩, List.mem_of_getElem? (i := 425) (by decide +kernel), List.mem_of_getElem? (i := 1944) (by decide +kernel), List.mem_of_getElem? (i := 1945) (by decide +kernel)⟩
theorem lw_p165 : lw_okq (⟨"BoardMill$Machine", "fail", "(III)V"⟩, 18) := ⟨⟨by decide +kernel, by decide +kernel⟩, List.mem_of_getElem? (i := 425) (by decide +kernel), List.mem_of_getElem? (i := 1948) (by decide +kernel), List.mem_of_getElem? (i := 1949) (by decide +kernel)⟩
theorem lw_p166 : lw_okq (⟨"BoardMill$Machine", "walkBlock", "(III)I"⟩, 18) := ⟨⟨by decide +kernel, by decide +kernel⟩, List.mem_of_getElem? (i := 425) (by decide +kernel), List.mem_of_getElem? (i := 1952) (by decide +kernel), List.mem_of_getElem? (i := 1953) (by decide +kernel)⟩
theorem lw_p167 : lw_okq (⟨"BoardMill$Machine", "walkCall", "(III)I"⟩, 18) := ⟨⟨by decide +kernel, by decide +kernel⟩, List.mem_of_getElem? (i := 425) (by decide +kernel), List.mem_of_getElem? (i := 1957) (by decide +kernel), List.mem_of_getElem? (i := 1958) (by decide +kernel)⟩
theorem lw_p168 : lw_okq (⟨"BoardMill$Machine", "walkChoice", "(III)I"⟩, 18) := ⟨⟨by decide +kernel, by decide +kernel⟩, List.mem_of_getElem? (i := 425) (by decide +kernel), List.mem_of_getElem? (i := 1962) (by decide +kernel), List.mem_of_getElem? (i := 1963) (by decide +kernel)⟩
theorem lw_p169 : lw_okq (⟨"BoardMill$Machine", "walkAct", "(III)I"⟩, 18) := ⟨⟨by decide +kernel, by decide +kernel⟩, List.mem_of_getElem? (i := 425) (by decide +kernel), List.mem_of_getElem? (i := 1966) (by decide +kernel), List.mem_of_getElem? (i := 1967) (by decide +kernel)⟩
theorem lw_p170 : lw_okq (⟨"BoardMill$Machine", "walkClosing", "(III)I"⟩, 18) := ⟨⟨by decide +kernel, by decide +kernel⟩, List.mem_of_getElem? (i := 425) (by decide +kernel), List.mem_of_getElem? (i := 1973) (by decide +kernel), List.mem_of_getElem? (i := 1974) (by decide +kernel)⟩
theorem lw_p171 : lw_okq (⟨"BoardMill$Machine", "setField", "(I)I"⟩, 18) := ⟨⟨by decide +kernel, by decide +kernel⟩, List.mem_of_getElem? (i := 425) (by decide +kernel), List.mem_of_getElem? (i := 1977) (by decide +kernel), List.mem_of_getElem? (i := 1978) (by decide +kernel)⟩
theorem lw_p172 : lw_okq (⟨"BoardMill$Machine", "valueBehindTarget", "()J"⟩, 18) := ⟨⟨by decide +kernel, by decide +kernel⟩, List.mem_of_getElem? (i := 425) (by decide +kernel), List.mem_of_getElem? (i := 1981) (by decide +kernel), List.mem_of_getElem? (i := 1982) (by decide +kernel)⟩
theorem lw_p173 : lw_okq (⟨"BoardMill$Machine", "setPlace", "(I)I"⟩, 18) := ⟨⟨by decide +kernel, by decide +kernel⟩, List.mem_of_getElem? (i := 425) (by decide +kernel), List.mem_of_getElem? (i := 1985) (by decide +kernel), List.mem_of_getElem? (i := 1986) (by decide +kernel)⟩
theorem lw_p174 : lw_okq (⟨"BoardMill$Machine", "addDemand", "(I)I"⟩, 18) := ⟨⟨by decide +kernel, by decide +kernel⟩, List.mem_of_getElem? (i := 425) (by decide +kernel), List.mem_of_getElem? (i := 1989) (by decide +kernel), List.mem_of_getElem? (i := 1990) (by decide +kernel)⟩
theorem lw_p175 : lw_okq (⟨"BoardMill$Machine", "query", "(I)I"⟩, 18) := ⟨⟨by decide +kernel, by decide +kernel⟩, List.mem_of_getElem? (i := 425) (by decide +kernel), List.mem_of_getElem? (i := 1997) (by decide +kernel), List.mem_of_getElem? (i := 1998) (by decide +kernel)⟩
def lw_privs_11 : List (MethodName × Nat) := [(⟨"BoardMill$Machine", "deepAtom", "(II)J"⟩, 18), (⟨"BoardMill$Machine", "factIndex", "(J)I"⟩, 18), (⟨"BoardMill$Machine", "raise", "(I)V"⟩, 18), (⟨"BoardMill$Machine", "listIndex", "(J)I"⟩, 18), (⟨"BoardMill$Machine", "divided", "(JJZ)J"⟩, 18), (⟨"BoardMill$Machine", "fail", "(III)V"⟩, 18), (⟨"BoardMill$Machine", "walkBlock", "(III)I"⟩, 18), (⟨"BoardMill$Machine", "walkCall", "(III)I"⟩, 18), (⟨"BoardMill$Machine", "walkChoice", "(III)I"⟩, 18), (⟨"BoardMill$Machine", "walkAct", "(III)I"⟩, 18), (⟨"BoardMill$Machine", "walkClosing", "(III)I"⟩, 18), (⟨"BoardMill$Machine", "setField", "(I)I"⟩, 18), (⟨"BoardMill$Machine", "valueBehindTarget", "()J"⟩, 18), (⟨"BoardMill$Machine", "setPlace", "(I)I"⟩, 18), (⟨"BoardMill$Machine", "addDemand", "(I)I"⟩, 18), (⟨"BoardMill$Machine", "query", "(I)I"⟩, 18)]
theorem lw_r11 : ∀ q ∈ lw_privs_11, lw_okq q := List.forall_mem_cons.mpr ⟨lw_p160, List.forall_mem_cons.mpr ⟨lw_p161, List.forall_mem_cons.mpr ⟨lw_p162, List.forall_mem_cons.mpr ⟨lw_p163, List.forall_mem_cons.mpr ⟨lw_p164, List.forall_mem_cons.mpr ⟨lw_p165, List.forall_mem_cons.mpr ⟨lw_p166, List.forall_mem_cons.mpr ⟨lw_p167, List.forall_mem_cons.mpr ⟨lw_p168, List.forall_mem_cons.mpr ⟨lw_p169, List.forall_mem_cons.mpr ⟨lw_p170, List.forall_mem_cons.mpr ⟨lw_p171, List.forall_mem_cons.mpr ⟨lw_p172, List.forall_mem_cons.mpr ⟨lw_p173, List.forall_mem_cons.mpr ⟨lw_p174, List.forall_mem_cons.mpr ⟨lw_p175, fun _ h => absurd h List.not_mem_nil⟩⟩⟩⟩⟩⟩⟩⟩⟩⟩⟩⟩⟩⟩⟩⟩
theorem lw_p176 : lw_okq (⟨"BoardMill$Machine", "walkPlain", "(I)I"⟩, 18) := ⟨⟨by decide +kernel, by decide +kernel⟩, List.mem_of_getElem? (i := 425) (by decide +kernel), List.mem_of_getElem? (i := 2001) (by decide +kernel), List.mem_of_getElem? (i := 2002) (by decide +kernel)⟩
theorem lw_p177 : lw_okq (⟨"BoardMill$Machine", "putOut", "(J)V"⟩, 18) := ⟨⟨by decide +kernel, by decide +kernel⟩, List.mem_of_getElem? (i := 425) (by decide +kernel), List.mem_of_getElem? (i := 2005) (by decide +kernel), List.mem_of_getElem? (i := 2006) (by decide +kernel)⟩
theorem lw_p178 : lw_okq (⟨"BoardMill$Machine", "addFact", "(JI)V"⟩, 18) := ⟨⟨by decide +kernel, by decide +kernel⟩, List.mem_of_getElem? (i := 425) (by decide +kernel), List.mem_of_getElem? (i := 2009) (by decide +kernel), List.mem_of_getElem? (i := 2010) (by decide +kernel)⟩
theorem lw_p179 : lw_okq (⟨"BoardMill$Machine", "makeList", "(JI)V"⟩, 18) := ⟨⟨by decide +kernel, by decide +kernel⟩, List.mem_of_getElem? (i := 425) (by decide +kernel), List.mem_of_getElem? (i := 2013) (by decide +kernel), List.mem_of_getElem? (i := 2014) (by decide +kernel)⟩
theorem lw_p180 : lw_okq (⟨"BoardMill$Store", "gatherBytes", "(LBoardMill$Board;I)I"⟩, 13) := ⟨⟨by decide +kernel, by decide +kernel⟩, List.mem_of_getElem? (i := 488) (by decide +kernel), List.mem_of_getElem? (i := 2047) (by decide +kernel), List.mem_of_getElem? (i := 2048) (by decide +kernel)⟩
theorem lw_p181 : lw_okq (⟨"BoardMill$Store", "sameBlock", "(I)I"⟩, 13) := ⟨⟨by decide +kernel, by decide +kernel⟩, List.mem_of_getElem? (i := 488) (by decide +kernel), List.mem_of_getElem? (i := 2057) (by decide +kernel), List.mem_of_getElem? (i := 2058) (by decide +kernel)⟩
theorem lw_p182 : lw_okq (⟨"BoardMill$Store", "recordBlock", "(I)V"⟩, 13) := ⟨⟨by decide +kernel, by decide +kernel⟩, List.mem_of_getElem? (i := 488) (by decide +kernel), List.mem_of_getElem? (i := 2061) (by decide +kernel), List.mem_of_getElem? (i := 2062) (by decide +kernel)⟩
theorem lw_p183 : lw_okq (⟨"BoardMill$Store", "record", "(II)V"⟩, 13) := ⟨⟨by decide +kernel, by decide +kernel⟩, List.mem_of_getElem? (i := 488) (by decide +kernel), List.mem_of_getElem? (i := 2065) (by decide +kernel), List.mem_of_getElem? (i := 2066) (by decide +kernel)⟩
theorem lw_p184 : lw_okq (⟨"BoardMill$Store", "addToLog", "(I)V"⟩, 13) := ⟨⟨by decide +kernel, by decide +kernel⟩, List.mem_of_getElem? (i := 488) (by decide +kernel), List.mem_of_getElem? (i := 2069) (by decide +kernel), List.mem_of_getElem? (i := 2070) (by decide +kernel)⟩
theorem lw_p185 : lw_okq (⟨"BoardMill$Store", "redoRecord", "(I)I"⟩, 13) := ⟨⟨by decide +kernel, by decide +kernel⟩, List.mem_of_getElem? (i := 488) (by decide +kernel), List.mem_of_getElem? (i := 2073) (by decide +kernel), List.mem_of_getElem? (i := 2074) (by decide +kernel)⟩
theorem lw_p186 : lw_okq (⟨"BoardMill$Store", "recordSize", "(I)I"⟩, 13) := ⟨⟨by decide +kernel, by decide +kernel⟩, List.mem_of_getElem? (i := 488) (by decide +kernel), List.mem_of_getElem? (i := 2077) (by decide +kernel), List.mem_of_getElem? (i := 2078) (by decide +kernel)⟩
theorem lw_p187 : lw_okq (⟨"BoardMill$Store", "addBlock", "(II)V"⟩, 13) := ⟨⟨by decide +kernel, by decide +kernel⟩, List.mem_of_getElem? (i := 488) (by decide +kernel), List.mem_of_getElem? (i := 2081) (by decide +kernel), List.mem_of_getElem? (i := 2082) (by decide +kernel)⟩
theorem lw_p188 : lw_okq (⟨"BoardMill$Store", "addToRow", "(I)V"⟩, 13) := ⟨⟨by decide +kernel, by decide +kernel⟩, List.mem_of_getElem? (i := 488) (by decide +kernel), List.mem_of_getElem? (i := 2085) (by decide +kernel), List.mem_of_getElem? (i := 2086) (by decide +kernel)⟩
theorem lw_p189 : lw_okq (⟨"BoardMill$Store", "closeRow", "()V"⟩, 13) := ⟨⟨by decide +kernel, by decide +kernel⟩, List.mem_of_getElem? (i := 488) (by decide +kernel), List.mem_of_getElem? (i := 2089) (by decide +kernel), List.mem_of_getElem? (i := 2090) (by decide +kernel)⟩
theorem lw_p190 : lw_okq (⟨"BoardMill$Store", "forgetRow", "(I)V"⟩, 13) := ⟨⟨by decide +kernel, by decide +kernel⟩, List.mem_of_getElem? (i := 488) (by decide +kernel), List.mem_of_getElem? (i := 2093) (by decide +kernel), List.mem_of_getElem? (i := 2094) (by decide +kernel)⟩
theorem lw_p191 : lw_okq (⟨"BoardMill$Store", "forgetBlocks", "()I"⟩, 13) := ⟨⟨by decide +kernel, by decide +kernel⟩, List.mem_of_getElem? (i := 488) (by decide +kernel), List.mem_of_getElem? (i := 2097) (by decide +kernel), List.mem_of_getElem? (i := 2098) (by decide +kernel)⟩
def lw_privs_12 : List (MethodName × Nat) := [(⟨"BoardMill$Machine", "walkPlain", "(I)I"⟩, 18), (⟨"BoardMill$Machine", "putOut", "(J)V"⟩, 18), (⟨"BoardMill$Machine", "addFact", "(JI)V"⟩, 18), (⟨"BoardMill$Machine", "makeList", "(JI)V"⟩, 18), (⟨"BoardMill$Store", "gatherBytes", "(LBoardMill$Board;I)I"⟩, 13), (⟨"BoardMill$Store", "sameBlock", "(I)I"⟩, 13), (⟨"BoardMill$Store", "recordBlock", "(I)V"⟩, 13), (⟨"BoardMill$Store", "record", "(II)V"⟩, 13), (⟨"BoardMill$Store", "addToLog", "(I)V"⟩, 13), (⟨"BoardMill$Store", "redoRecord", "(I)I"⟩, 13), (⟨"BoardMill$Store", "recordSize", "(I)I"⟩, 13), (⟨"BoardMill$Store", "addBlock", "(II)V"⟩, 13), (⟨"BoardMill$Store", "addToRow", "(I)V"⟩, 13), (⟨"BoardMill$Store", "closeRow", "()V"⟩, 13), (⟨"BoardMill$Store", "forgetRow", "(I)V"⟩, 13), (⟨"BoardMill$Store", "forgetBlocks", "()I"⟩, 13)]
theorem lw_r12 : ∀ q ∈ lw_privs_12, lw_okq q := List.forall_mem_cons.mpr ⟨lw_p176, List.forall_mem_cons.mpr ⟨lw_p177, List.forall_mem_cons.mpr ⟨lw_p178, List.forall_mem_cons.mpr ⟨lw_p179, List.forall_mem_cons.mpr ⟨lw_p180, List.forall_mem_cons.mpr ⟨lw_p181, List.forall_mem_cons.mpr ⟨lw_p182, List.forall_mem_cons.mpr ⟨lw_p183, List.forall_mem_cons.mpr ⟨lw_p184, List.forall_mem_cons.mpr ⟨lw_p185, List.forall_mem_cons.mpr ⟨lw_p186, List.forall_mem_cons.mpr ⟨lw_p187, List.forall_mem_cons.mpr ⟨lw_p188, List.forall_mem_cons.mpr ⟨lw_p189, List.forall_mem_cons.mpr ⟨lw_p190, List.forall_mem_cons.mpr ⟨lw_p191, fun _ h => absurd h List.not_mem_nil⟩⟩⟩⟩⟩⟩⟩⟩⟩⟩⟩⟩⟩⟩⟩⟩
theorem lw_p192 : lw_okq (⟨"BoardMill$Store", "isUsed", "(I)Z"⟩, 13) := ⟨⟨by decide +kernel, by decide +kernel⟩, List.mem_of_getElem? (i := 488) (by decide +kernel), List.mem_of_getElem? (i := 2101) (by decide +kernel), List.mem_of_getElem? (i := 2102) (by decide +kernel)⟩
theorem lw_p193 : lw_okq (⟨"BoardMill$Store", "isEdition", "(I)Z"⟩, 13) := ⟨⟨by decide +kernel, by decide +kernel⟩, List.mem_of_getElem? (i := 488) (by decide +kernel), List.mem_of_getElem? (i := 2113) (by decide +kernel), List.mem_of_getElem? (i := 2114) (by decide +kernel)⟩
theorem lw_p194 : lw_okq (⟨"BoardMill$Releases", "growTree", "(I)V"⟩, 14) := ⟨⟨by decide +kernel, by decide +kernel⟩, List.mem_of_getElem? (i := 534) (by decide +kernel), List.mem_of_getElem? (i := 2173) (by decide +kernel), List.mem_of_getElem? (i := 2174) (by decide +kernel)⟩
theorem lw_p195 : lw_okq (⟨"BoardMill$Releases", "leavesOf", "(I)I"⟩, 14) := ⟨⟨by decide +kernel, by decide +kernel⟩, List.mem_of_getElem? (i := 534) (by decide +kernel), List.mem_of_getElem? (i := 2177) (by decide +kernel), List.mem_of_getElem? (i := 2178) (by decide +kernel)⟩
theorem lw_p196 : lw_okq (⟨"BoardMill$Releases", "isRelease", "(I)Z"⟩, 14) := ⟨⟨by decide +kernel, by decide +kernel⟩, List.mem_of_getElem? (i := 534) (by decide +kernel), List.mem_of_getElem? (i := 2181) (by decide +kernel), List.mem_of_getElem? (i := 2182) (by decide +kernel)⟩
theorem lw_p197 : lw_okq (⟨"BoardMill$Releases", "beginLeaf", "(I)V"⟩, 14) := ⟨⟨by decide +kernel, by decide +kernel⟩, List.mem_of_getElem? (i := 534) (by decide +kernel), List.mem_of_getElem? (i := 2185) (by decide +kernel), List.mem_of_getElem? (i := 2186) (by decide +kernel)⟩
theorem lw_p198 : lw_okq (⟨"BoardMill$Releases", "addByte", "(I)V"⟩, 14) := ⟨⟨by decide +kernel, by decide +kernel⟩, List.mem_of_getElem? (i := 534) (by decide +kernel), List.mem_of_getElem? (i := 2189) (by decide +kernel), List.mem_of_getElem? (i := 2190) (by decide +kernel)⟩
theorem lw_p199 : lw_okq (⟨"BoardMill$Releases", "leafLength", "(II)I"⟩, 14) := ⟨⟨by decide +kernel, by decide +kernel⟩, List.mem_of_getElem? (i := 534) (by decide +kernel), List.mem_of_getElem? (i := 2193) (by decide +kernel), List.mem_of_getElem? (i := 2194) (by decide +kernel)⟩
theorem lw_p200 : lw_okq (⟨"BoardMill$Releases", "makeDigest", "()V"⟩, 14) := ⟨⟨by decide +kernel, by decide +kernel⟩, List.mem_of_getElem? (i := 534) (by decide +kernel), List.mem_of_getElem? (i := 2198) (by decide +kernel), List.mem_of_getElem? (i := 2199) (by decide +kernel)⟩
theorem lw_p201 : lw_okq (⟨"BoardMill$Releases", "fillWords", "(I)V"⟩, 14) := ⟨⟨by decide +kernel, by decide +kernel⟩, List.mem_of_getElem? (i := 534) (by decide +kernel), List.mem_of_getElem? (i := 2203) (by decide +kernel), List.mem_of_getElem? (i := 2204) (by decide +kernel)⟩
theorem lw_p202 : lw_okq (⟨"BoardMill$Releases", "mixWords", "()V"⟩, 14) := ⟨⟨by decide +kernel, by decide +kernel⟩, List.mem_of_getElem? (i := 534) (by decide +kernel), List.mem_of_getElem? (i := 2210) (by decide +kernel), List.mem_of_getElem? (i := 2211) (by decide +kernel)⟩
theorem lw_p203 : lw_okq (⟨"BoardMill$Releases", "makeAbove", "(III)V"⟩, 14) := ⟨⟨by decide +kernel, by decide +kernel⟩, List.mem_of_getElem? (i := 534) (by decide +kernel), List.mem_of_getElem? (i := 2216) (by decide +kernel), List.mem_of_getElem? (i := 2217) (by decide +kernel)⟩
theorem lw_p204 : lw_okq (⟨"BoardMill$Releases", "isApproved", "(I)Z"⟩, 14) := ⟨⟨by decide +kernel, by decide +kernel⟩, List.mem_of_getElem? (i := 534) (by decide +kernel), List.mem_of_getElem? (i := 2228) (by decide +kernel), List.mem_of_getElem? (i := 2229) (by decide +kernel)⟩
theorem lw_p205 : lw_okq (⟨"BoardMill$Releases", "rootAt", "(I)I"⟩, 14) := ⟨⟨by decide +kernel, by decide +kernel⟩, List.mem_of_getElem? (i := 534) (by decide +kernel), List.mem_of_getElem? (i := 2256) (by decide +kernel), List.mem_of_getElem? (i := 2257) (by decide +kernel)⟩
theorem lw_p206 : lw_okq (⟨"BoardMill$Releases", "isLeaf", "(II)Z"⟩, 14) := ⟨⟨by decide +kernel, by decide +kernel⟩, List.mem_of_getElem? (i := 534) (by decide +kernel), List.mem_of_getElem? (i := 2268) (by decide +kernel), List.mem_of_getElem? (i := 2269) (by decide +kernel)⟩
theorem lw_p207 : lw_okq (⟨"BoardMill$Releases", "addProof", "(II)V"⟩, 14) := ⟨⟨by decide +kernel, by decide +kernel⟩, List.mem_of_getElem? (i := 534) (by decide +kernel), List.mem_of_getElem? (i := 2272) (by decide +kernel), List.mem_of_getElem? (i := 2273) (by decide +kernel)⟩
def lw_privs_13 : List (MethodName × Nat) := [(⟨"BoardMill$Store", "isUsed", "(I)Z"⟩, 13), (⟨"BoardMill$Store", "isEdition", "(I)Z"⟩, 13), (⟨"BoardMill$Releases", "growTree", "(I)V"⟩, 14), (⟨"BoardMill$Releases", "leavesOf", "(I)I"⟩, 14), (⟨"BoardMill$Releases", "isRelease", "(I)Z"⟩, 14), (⟨"BoardMill$Releases", "beginLeaf", "(I)V"⟩, 14), (⟨"BoardMill$Releases", "addByte", "(I)V"⟩, 14), (⟨"BoardMill$Releases", "leafLength", "(II)I"⟩, 14), (⟨"BoardMill$Releases", "makeDigest", "()V"⟩, 14), (⟨"BoardMill$Releases", "fillWords", "(I)V"⟩, 14), (⟨"BoardMill$Releases", "mixWords", "()V"⟩, 14), (⟨"BoardMill$Releases", "makeAbove", "(III)V"⟩, 14), (⟨"BoardMill$Releases", "isApproved", "(I)Z"⟩, 14), (⟨"BoardMill$Releases", "rootAt", "(I)I"⟩, 14), (⟨"BoardMill$Releases", "isLeaf", "(II)Z"⟩, 14), (⟨"BoardMill$Releases", "addProof", "(II)V"⟩, 14)]
theorem lw_r13 : ∀ q ∈ lw_privs_13, lw_okq q := List.forall_mem_cons.mpr ⟨lw_p192, List.forall_mem_cons.mpr ⟨lw_p193, List.forall_mem_cons.mpr ⟨lw_p194, List.forall_mem_cons.mpr ⟨lw_p195, List.forall_mem_cons.mpr ⟨lw_p196, List.forall_mem_cons.mpr ⟨lw_p197, List.forall_mem_cons.mpr ⟨lw_p198, List.forall_mem_cons.mpr ⟨lw_p199, List.forall_mem_cons.mpr ⟨lw_p200, List.forall_mem_cons.mpr ⟨lw_p201, List.forall_mem_cons.mpr ⟨lw_p202, List.forall_mem_cons.mpr ⟨lw_p203, List.forall_mem_cons.mpr ⟨lw_p204, List.forall_mem_cons.mpr ⟨lw_p205, List.forall_mem_cons.mpr ⟨lw_p206, List.forall_mem_cons.mpr ⟨lw_p207, fun _ h => absurd h List.not_mem_nil⟩⟩⟩⟩⟩⟩⟩⟩⟩⟩⟩⟩⟩⟩⟩⟩
theorem lw_p208 : lw_okq (⟨"BoardMill$Releases", "keepByte", "(I)V"⟩, 14) := ⟨⟨by decide +kernel, by decide +kernel⟩, List.mem_of_getElem? (i := 534) (by decide +kernel), List.mem_of_getElem? (i := 2276) (by decide +kernel), List.mem_of_getElem? (i := 2277) (by decide +kernel)⟩
theorem lw_p209 : lw_okq (⟨"BoardMill$Releases", "isCheck", "()Z"⟩, 14) := ⟨⟨by decide +kernel, by decide +kernel⟩, List.mem_of_getElem? (i := 534) (by decide +kernel), List.mem_of_getElem? (i := 2288) (by decide +kernel), List.mem_of_getElem? (i := 2289) (by decide +kernel)⟩
theorem lw_p210 : lw_okq (⟨"BoardMill$Releases", "provesRoot", "()Z"⟩, 14) := ⟨⟨by decide +kernel, by decide +kernel⟩, List.mem_of_getElem? (i := 534) (by decide +kernel), List.mem_of_getElem? (i := 2292) (by decide +kernel), List.mem_of_getElem? (i := 2293) (by decide +kernel)⟩
theorem lw_p211 : lw_okq (⟨"BoardMill$Releases", "takeStep", "(I)V"⟩, 14) := ⟨⟨by decide +kernel, by decide +kernel⟩, List.mem_of_getElem? (i := 534) (by decide +kernel), List.mem_of_getElem? (i := 2296) (by decide +kernel), List.mem_of_getElem? (i := 2297) (by decide +kernel)⟩
theorem lw_p212 : lw_okq (⟨"BoardMillModel$BoardScriptModel", "empty", "()V"⟩, 67) := ⟨⟨by decide +kernel, by decide +kernel⟩, List.mem_of_getElem? (i := 2533) (by decide +kernel), List.mem_of_getElem? (i := 2539) (by decide +kernel), List.mem_of_getElem? (i := 2540) (by decide +kernel)⟩
theorem lw_p213 : lw_okq (⟨"BoardMillModel$BoardScriptModel", "forget", "()V"⟩, 67) := ⟨⟨by decide +kernel, by decide +kernel⟩, List.mem_of_getElem? (i := 2533) (by decide +kernel), List.mem_of_getElem? (i := 2543) (by decide +kernel), List.mem_of_getElem? (i := 2544) (by decide +kernel)⟩
theorem lw_p214 : lw_okq (⟨"BoardMillModel$ReleaseLeavesModel", "tell", "(IJJJJ)V"⟩, 32) := ⟨⟨by decide +kernel, by decide +kernel⟩, List.mem_of_getElem? (i := 2828) (by decide +kernel), List.mem_of_getElem? (i := 2838) (by decide +kernel), List.mem_of_getElem? (i := 2839) (by decide +kernel)⟩
theorem lw_p215 : lw_okq (⟨"BoardMillModel$ReleaseLeavesModel", "tellTwo", "(IJ)V"⟩, 32) := ⟨⟨by decide +kernel, by decide +kernel⟩, List.mem_of_getElem? (i := 2828) (by decide +kernel), List.mem_of_getElem? (i := 2842) (by decide +kernel), List.mem_of_getElem? (i := 2843) (by decide +kernel)⟩
theorem lw_p216 : lw_okq (⟨"BoardMillModel", "refuses", "(I)Z"⟩, 51) := ⟨⟨by decide +kernel, by decide +kernel⟩, List.mem_of_getElem? (i := 2305) (by decide +kernel), List.mem_of_getElem? (i := 3138) (by decide +kernel), List.mem_of_getElem? (i := 3139) (by decide +kernel)⟩
theorem lw_p217 : lw_okq (⟨"BoardMillModel", "lay", "(I)V"⟩, 51) := ⟨⟨by decide +kernel, by decide +kernel⟩, List.mem_of_getElem? (i := 2305) (by decide +kernel), List.mem_of_getElem? (i := 3142) (by decide +kernel), List.mem_of_getElem? (i := 3143) (by decide +kernel)⟩
theorem lw_p218 : lw_okq (⟨"BoardMillModel", "refuse", "(I)I"⟩, 51) := ⟨⟨by decide +kernel, by decide +kernel⟩, List.mem_of_getElem? (i := 2305) (by decide +kernel), List.mem_of_getElem? (i := 3154) (by decide +kernel), List.mem_of_getElem? (i := 3155) (by decide +kernel)⟩
theorem lw_p219 : lw_okq (⟨"BoardMillModel$SchematicTextModel", "go", "(Z)V"⟩, 31) := ⟨⟨by decide +kernel, by decide +kernel⟩, List.mem_of_getElem? (i := 2312) (by decide +kernel), List.mem_of_getElem? (i := 3170) (by decide +kernel), List.mem_of_getElem? (i := 3171) (by decide +kernel)⟩
theorem lw_p220 : lw_okq (⟨"BoardMillModel$SchematicTextModel", "readLists", "()V"⟩, 31) := ⟨⟨by decide +kernel, by decide +kernel⟩, List.mem_of_getElem? (i := 2312) (by decide +kernel), List.mem_of_getElem? (i := 3174) (by decide +kernel), List.mem_of_getElem? (i := 3175) (by decide +kernel)⟩
theorem lw_p221 : lw_okq (⟨"BoardMillModel$SchematicTextModel", "blanks", "(I)I"⟩, 31) := ⟨⟨by decide +kernel, by decide +kernel⟩, List.mem_of_getElem? (i := 2312) (by decide +kernel), List.mem_of_getElem? (i := 3178) (by decide +kernel), List.mem_of_getElem? (i := 3179) (by decide +kernel)⟩
theorem lw_p222 : lw_okq (⟨"BoardMillModel$SchematicTextModel", "c", "(I)I"⟩, 31) := ⟨⟨by decide +kernel, by decide +kernel⟩, List.mem_of_getElem? (i := 2312) (by decide +kernel), List.mem_of_getElem? (i := 3182) (by decide +kernel), List.mem_of_getElem? (i := 3183) (by decide +kernel)⟩
theorem lw_p223 : lw_okq (⟨"BoardMillModel$SchematicTextModel", "fail", "(I)V"⟩, 31) := ⟨⟨by decide +kernel, by decide +kernel⟩, List.mem_of_getElem? (i := 2312) (by decide +kernel), List.mem_of_getElem? (i := 3189) (by decide +kernel), List.mem_of_getElem? (i := 3190) (by decide +kernel)⟩
def lw_privs_14 : List (MethodName × Nat) := [(⟨"BoardMill$Releases", "keepByte", "(I)V"⟩, 14), (⟨"BoardMill$Releases", "isCheck", "()Z"⟩, 14), (⟨"BoardMill$Releases", "provesRoot", "()Z"⟩, 14), (⟨"BoardMill$Releases", "takeStep", "(I)V"⟩, 14), (⟨"BoardMillModel$BoardScriptModel", "empty", "()V"⟩, 67), (⟨"BoardMillModel$BoardScriptModel", "forget", "()V"⟩, 67), (⟨"BoardMillModel$ReleaseLeavesModel", "tell", "(IJJJJ)V"⟩, 32), (⟨"BoardMillModel$ReleaseLeavesModel", "tellTwo", "(IJ)V"⟩, 32), (⟨"BoardMillModel", "refuses", "(I)Z"⟩, 51), (⟨"BoardMillModel", "lay", "(I)V"⟩, 51), (⟨"BoardMillModel", "refuse", "(I)I"⟩, 51), (⟨"BoardMillModel$SchematicTextModel", "go", "(Z)V"⟩, 31), (⟨"BoardMillModel$SchematicTextModel", "readLists", "()V"⟩, 31), (⟨"BoardMillModel$SchematicTextModel", "blanks", "(I)I"⟩, 31), (⟨"BoardMillModel$SchematicTextModel", "c", "(I)I"⟩, 31), (⟨"BoardMillModel$SchematicTextModel", "fail", "(I)V"⟩, 31)]
theorem lw_r14 : ∀ q ∈ lw_privs_14, lw_okq q := List.forall_mem_cons.mpr ⟨lw_p208, List.forall_mem_cons.mpr ⟨lw_p209, List.forall_mem_cons.mpr ⟨lw_p210, List.forall_mem_cons.mpr ⟨lw_p211, List.forall_mem_cons.mpr ⟨lw_p212, List.forall_mem_cons.mpr ⟨lw_p213, List.forall_mem_cons.mpr ⟨lw_p214, List.forall_mem_cons.mpr ⟨lw_p215, List.forall_mem_cons.mpr ⟨lw_p216, List.forall_mem_cons.mpr ⟨lw_p217, List.forall_mem_cons.mpr ⟨lw_p218, List.forall_mem_cons.mpr ⟨lw_p219, List.forall_mem_cons.mpr ⟨lw_p220, List.forall_mem_cons.mpr ⟨lw_p221, List.forall_mem_cons.mpr ⟨lw_p222, List.forall_mem_cons.mpr ⟨lw_p223, fun _ h => absurd h List.not_mem_nil⟩⟩⟩⟩⟩⟩⟩⟩⟩⟩⟩⟩⟩⟩⟩⟩
theorem lw_p224 : lw_okq (⟨"BoardMillModel$SchematicTextModel", "openList", "(II)I"⟩, 31) := ⟨⟨by decide +kernel, by decide +kernel⟩, List.mem_of_getElem? (i := 2312) (by decide +kernel), List.mem_of_getElem? (i := 3193) (by decide +kernel), List.mem_of_getElem? (i := 3194) (by decide +kernel)⟩
theorem lw_p225 : lw_okq (⟨"BoardMillModel$SchematicTextModel", "beginObject", "(III)I"⟩, 31) := ⟨⟨by decide +kernel, by decide +kernel⟩, List.mem_of_getElem? (i := 2312) (by decide +kernel), List.mem_of_getElem? (i := 3197) (by decide +kernel), List.mem_of_getElem? (i := 3198) (by decide +kernel)⟩
theorem lw_p226 : lw_okq (⟨"BoardMillModel$SchematicTextModel", "nameEnd", "(I)I"⟩, 31) := ⟨⟨by decide +kernel, by decide +kernel⟩, List.mem_of_getElem? (i := 2312) (by decide +kernel), List.mem_of_getElem? (i := 3201) (by decide +kernel), List.mem_of_getElem? (i := 3202) (by decide +kernel)⟩
theorem lw_p227 : lw_okq (⟨"BoardMillModel$SchematicTextModel", "kindAt", "(II)I"⟩, 31) := ⟨⟨by decide +kernel, by decide +kernel⟩, List.mem_of_getElem? (i := 2312) (by decide +kernel), List.mem_of_getElem? (i := 3208) (by decide +kernel), List.mem_of_getElem? (i := 3209) (by decide +kernel)⟩
theorem lw_p228 : lw_okq (⟨"BoardMillModel$SchematicTextModel", "blank", "(II)V"⟩, 31) := ⟨⟨by decide +kernel, by decide +kernel⟩, List.mem_of_getElem? (i := 2312) (by decide +kernel), List.mem_of_getElem? (i := 3223) (by decide +kernel), List.mem_of_getElem? (i := 3224) (by decide +kernel)⟩
theorem lw_p229 : lw_okq (⟨"BoardMillModel$SchematicTextModel", "keep", "(II)V"⟩, 31) := ⟨⟨by decide +kernel, by decide +kernel⟩, List.mem_of_getElem? (i := 2312) (by decide +kernel), List.mem_of_getElem? (i := 3228) (by decide +kernel), List.mem_of_getElem? (i := 3229) (by decide +kernel)⟩
theorem lw_p230 : lw_okq (⟨"BoardMillModel$SchematicTextModel", "passList", "(II)I"⟩, 31) := ⟨⟨by decide +kernel, by decide +kernel⟩, List.mem_of_getElem? (i := 2312) (by decide +kernel), List.mem_of_getElem? (i := 3232) (by decide +kernel), List.mem_of_getElem? (i := 3233) (by decide +kernel)⟩
theorem lw_p231 : lw_okq (⟨"BoardMillModel$SchematicTextModel", "passText", "(I)I"⟩, 31) := ⟨⟨by decide +kernel, by decide +kernel⟩, List.mem_of_getElem? (i := 2312) (by decide +kernel), List.mem_of_getElem? (i := 3236) (by decide +kernel), List.mem_of_getElem? (i := 3237) (by decide +kernel)⟩
theorem lw_p232 : lw_okq (⟨"BoardMillModel$SchematicTextModel", "readVersion", "(IZ)I"⟩, 31) := ⟨⟨by decide +kernel, by decide +kernel⟩, List.mem_of_getElem? (i := 2312) (by decide +kernel), List.mem_of_getElem? (i := 3240) (by decide +kernel), List.mem_of_getElem? (i := 3241) (by decide +kernel)⟩
theorem lw_p233 : lw_okq (⟨"BoardMillModel$SchematicTextModel", "space", "(IZ)I"⟩, 31) := ⟨⟨by decide +kernel, by decide +kernel⟩, List.mem_of_getElem? (i := 2312) (by decide +kernel), List.mem_of_getElem? (i := 3244) (by decide +kernel), List.mem_of_getElem? (i := 3245) (by decide +kernel)⟩
theorem lw_p234 : lw_okq (⟨"BoardMillModel$SchematicTextModel", "readNumbe\x72", "(IZJJ)I"⟩, 31) := ⟨⟨by decide +kernel, by decide +kernel⟩, List.mem_of_getElem? (i := 2312) (by decide +kernel), List.mem_of_getElem? (i := 3249) (by decide +kernel), List.mem_of_getElem? (i := 3250) (by decide +kernel)⟩
theorem lw_p235 : lw_okq (⟨"BoardMillModel$SchematicTextModel", "digits", "(II)I"⟩, 31) := ⟨⟨by decide +kernel, by decide +kernel⟩, List.mem_of_getElem? (i := 2312) (by decide +kernel), List.mem_of_getElem? (i := 3253) (by decide +kernel), List.mem_of_getElem? (i := 3254) (by decide +kernel)⟩
theorem lw_p236 : lw_okq (⟨"BoardMillModel$SchematicTextModel", "valueOf", "(II)J"⟩, 31) := ⟨⟨by decide +kernel, by decide +kernel⟩, List.mem_of_getElem? (i := 2312) (by decide +kernel), List.mem_of_getElem? (i := 3260) (by decide +kernel), List.mem_of_getElem? (i := 3261) (by decide +kernel)⟩
theorem lw_p237 : lw_okq (⟨"BoardMillModel$SchematicTextModel", "values", "(IIZ)I"⟩, 31) := ⟨⟨by decide +kernel, by decide +kernel⟩, List.mem_of_getElem? (i := 2312) (by decide +kernel), List.mem_of_getElem? (i := 3267) (by decide +kernel), List.mem_of_getElem? (i := 3268) (by decide +kernel)⟩
theorem lw_p238 : lw_okq (⟨"BoardMillModel$SchematicTextModel", "readValue", "(III)I"⟩, 31) := ⟨⟨by decide +kernel, by decide +kernel⟩, List.mem_of_getElem? (i := 2312) (by decide +kernel), List.mem_of_getElem? (i := 3277) (by decide +kernel), List.mem_of_getElem? (i := 3278) (by decide +kernel)⟩
theorem lw_p239 : lw_okq (⟨"BoardMillModel$SchematicTextModel", "readText", "(I)I"⟩, 31) := ⟨⟨by decide +kernel, by decide +kernel⟩, List.mem_of_getElem? (i := 2312) (by decide +kernel), List.mem_of_getElem? (i := 3281) (by decide +kernel), List.mem_of_getElem? (i := 3282) (by decide +kernel)⟩
def lw_privs_15 : List (MethodName × Nat) := [(⟨"BoardMillModel$SchematicTextModel", "openList", "(II)I"⟩, 31), (⟨"BoardMillModel$SchematicTextModel", "beginObject", "(III)I"⟩, 31), (⟨"BoardMillModel$SchematicTextModel", "nameEnd", "(I)I"⟩, 31), (⟨"BoardMillModel$SchematicTextModel", "kindAt", "(II)I"⟩, 31), (⟨"BoardMillModel$SchematicTextModel", "blank", "(II)V"⟩, 31), (⟨"BoardMillModel$SchematicTextModel", "keep", "(II)V"⟩, 31), (⟨"BoardMillModel$SchematicTextModel", "passList", "(II)I"⟩, 31), (⟨"BoardMillModel$SchematicTextModel", "passText", "(I)I"⟩, 31), (⟨"BoardMillModel$SchematicTextModel", "readVersion", "(IZ)I"⟩, 31), (⟨"BoardMillModel$SchematicTextModel", "space", "(IZ)I"⟩, 31), (⟨"BoardMillModel$SchematicTextModel", "readNumbe\x72", "(IZJJ)I"⟩, 31), (⟨"BoardMillModel$SchematicTextModel", "digits", "(II)I"⟩, 31), (⟨"BoardMillModel$SchematicTextModel", "valueOf", "(II)J"⟩, 31), (⟨"BoardMillModel$SchematicTextModel", "values", "(IIZ)I"⟩, 31), (⟨"BoardMillModel$SchematicTextModel", "readValue", "(III)I"⟩, 31), (⟨"BoardMillModel$SchematicTextModel", "readText", "(I)I"⟩, 31)]
theorem lw_r15 : ∀ q ∈ lw_privs_15, lw_okq q := List.forall_mem_cons.mpr ⟨lw_p224, List.forall_mem_cons.mpr ⟨lw_p225, List.forall_mem_cons.mpr ⟨lw_p226, List.forall_mem_cons.mpr ⟨lw_p227, List.forall_mem_cons.mpr ⟨lw_p228, List.forall_mem_cons.mpr ⟨lw_p229, List.forall_mem_cons.mpr ⟨lw_p230, List.forall_mem_cons.mpr ⟨lw_p231, List.forall_mem_cons.mpr ⟨lw_p232, List.forall_mem_cons.mpr ⟨lw_p233, List.forall_mem_cons.mpr ⟨lw_p234, List.forall_mem_cons.mpr ⟨lw_p235, List.forall_mem_cons.mpr ⟨lw_p236, List.forall_mem_cons.mpr ⟨lw_p237, List.forall_mem_cons.mpr ⟨lw_p238, List.forall_mem_cons.mpr ⟨lw_p239, fun _ h => absurd h List.not_mem_nil⟩⟩⟩⟩⟩⟩⟩⟩⟩⟩⟩⟩⟩⟩⟩⟩
theorem lw_p240 : lw_okq (⟨"BoardMillModel$SchematicTextModel", "readLines", "()V"⟩, 31) := ⟨⟨by decide +kernel, by decide +kernel⟩, List.mem_of_getElem? (i := 2312) (by decide +kernel), List.mem_of_getElem? (i := 3297) (by decide +kernel), List.mem_of_getElem? (i := 3298) (by decide +kernel)⟩
theorem lw_p241 : lw_okq (⟨"BoardMillModel$SchematicTextModel", "dots", "(I)I"⟩, 31) := ⟨⟨by decide +kernel, by decide +kernel⟩, List.mem_of_getElem? (i := 2312) (by decide +kernel), List.mem_of_getElem? (i := 3301) (by decide +kernel), List.mem_of_getElem? (i := 3302) (by decide +kernel)⟩
theorem lw_p242 : lw_okq (⟨"BoardMillModel$SchematicTextModel", "readLine", "(II)I"⟩, 31) := ⟨⟨by decide +kernel, by decide +kernel⟩, List.mem_of_getElem? (i := 2312) (by decide +kernel), List.mem_of_getElem? (i := 3305) (by decide +kernel), List.mem_of_getElem? (i := 3306) (by decide +kernel)⟩
theorem lw_p243 : lw_okq (⟨"BoardMillModel$SchematicTextModel", "readUnknown", "(II)I"⟩, 31) := ⟨⟨by decide +kernel, by decide +kernel⟩, List.mem_of_getElem? (i := 2312) (by decide +kernel), List.mem_of_getElem? (i := 3309) (by decide +kernel), List.mem_of_getElem? (i := 3310) (by decide +kernel)⟩
theorem lw_p244 : lw_okq (⟨"BoardMillModel$SchematicTextModel", "lineEnd", "(I)I"⟩, 31) := ⟨⟨by decide +kernel, by decide +kernel⟩, List.mem_of_getElem? (i := 2312) (by decide +kernel), List.mem_of_getElem? (i := 3313) (by decide +kernel), List.mem_of_getElem? (i := 3314) (by decide +kernel)⟩
theorem lw_p245 : lw_okq (⟨"BoardMillModel", "draw", "(LBoardMillModel$SchematicTextModel;)V"⟩, 51) := ⟨⟨by decide +kernel, by decide +kernel⟩, List.mem_of_getElem? (i := 2305) (by decide +kernel), List.mem_of_getElem? (i := 3423) (by decide +kernel), List.mem_of_getElem? (i := 3424) (by decide +kernel)⟩
theorem lw_p246 : lw_okq (⟨"BoardMillModel$SchematicTextModel", "isObject", "(I)Z"⟩, 31) := ⟨⟨by decide +kernel, by decide +kernel⟩, List.mem_of_getElem? (i := 2312) (by decide +kernel), List.mem_of_getElem? (i := 3431) (by decide +kernel), List.mem_of_getElem? (i := 3432) (by decide +kernel)⟩
theorem lw_p247 : lw_okq (⟨"BoardMillModel", "repeated", "(LBoardMillModel$SchematicTextModel;I)I"⟩, 51) := ⟨⟨by decide +kernel, by decide +kernel⟩, List.mem_of_getElem? (i := 2305) (by decide +kernel), List.mem_of_getElem? (i := 3439) (by decide +kernel), List.mem_of_getElem? (i := 3440) (by decide +kernel)⟩
theorem lw_p248 : lw_okq (⟨"BoardMillModel", "isDrawn", "(I)Z"⟩, 51) := ⟨⟨by decide +kernel, by decide +kernel⟩, List.mem_of_getElem? (i := 2305) (by decide +kernel), List.mem_of_getElem? (i := 3456) (by decide +kernel), List.mem_of_getElem? (i := 3457) (by decide +kernel)⟩
theorem lw_p249 : lw_okq (⟨"BoardMillModel$NetJoinsModel", "isSheet", "(I)Z"⟩, 33) := ⟨⟨by decide +kernel, by decide +kernel⟩, List.mem_of_getElem? (i := 3317) (by decide +kernel), List.mem_of_getElem? (i := 3467) (by decide +kernel), List.mem_of_getElem? (i := 3468) (by decide +kernel)⟩
theorem lw_p250 : lw_okq (⟨"BoardMillModel$NetJoinsModel", "anew", "()V"⟩, 33) := ⟨⟨by decide +kernel, by decide +kernel⟩, List.mem_of_getElem? (i := 3317) (by decide +kernel), List.mem_of_getElem? (i := 3471) (by decide +kernel), List.mem_of_getElem? (i := 3472) (by decide +kernel)⟩
theorem lw_p251 : lw_okq (⟨"BoardMillModel$NetJoinsModel", "joinAll", "()V"⟩, 33) := ⟨⟨by decide +kernel, by decide +kernel⟩, List.mem_of_getElem? (i := 3317) (by decide +kernel), List.mem_of_getElem? (i := 3475) (by decide +kernel), List.mem_of_getElem? (i := 3476) (by decide +kernel)⟩
theorem lw_p252 : lw_okq (⟨"BoardMillModel$NetJoinsModel", "joinSheet", "(I)V"⟩, 33) := ⟨⟨by decide +kernel, by decide +kernel⟩, List.mem_of_getElem? (i := 3317) (by decide +kernel), List.mem_of_getElem? (i := 3479) (by decide +kernel), List.mem_of_getElem? (i := 3480) (by decide +kernel)⟩
theorem lw_p253 : lw_okq (⟨"BoardMillModel$NetJoinsModel", "joinWires", "(II)V"⟩, 33) := ⟨⟨by decide +kernel, by decide +kernel⟩, List.mem_of_getElem? (i := 3317) (by decide +kernel), List.mem_of_getElem? (i := 3483) (by decide +kernel), List.mem_of_getElem? (i := 3484) (by decide +kernel)⟩
theorem lw_p254 : lw_okq (⟨"BoardMillModel$NetJoinsModel", "isOn", "(II)Z"⟩, 33) := ⟨⟨by decide +kernel, by decide +kernel⟩, List.mem_of_getElem? (i := 3317) (by decide +kernel), List.mem_of_getElem? (i := 3487) (by decide +kernel), List.mem_of_getElem? (i := 3488) (by decide +kernel)⟩
theorem lw_p255 : lw_okq (⟨"BoardMillModel$NetJoinsModel", "haveEnd", "(II)Z"⟩, 33) := ⟨⟨by decide +kernel, by decide +kernel⟩, List.mem_of_getElem? (i := 3317) (by decide +kernel), List.mem_of_getElem? (i := 3491) (by decide +kernel), List.mem_of_getElem? (i := 3492) (by decide +kernel)⟩
def lw_privs_16 : List (MethodName × Nat) := [(⟨"BoardMillModel$SchematicTextModel", "readLines", "()V"⟩, 31), (⟨"BoardMillModel$SchematicTextModel", "dots", "(I)I"⟩, 31), (⟨"BoardMillModel$SchematicTextModel", "readLine", "(II)I"⟩, 31), (⟨"BoardMillModel$SchematicTextModel", "readUnknown", "(II)I"⟩, 31), (⟨"BoardMillModel$SchematicTextModel", "lineEnd", "(I)I"⟩, 31), (⟨"BoardMillModel", "draw", "(LBoardMillModel$SchematicTextModel;)V"⟩, 51), (⟨"BoardMillModel$SchematicTextModel", "isObject", "(I)Z"⟩, 31), (⟨"BoardMillModel", "repeated", "(LBoardMillModel$SchematicTextModel;I)I"⟩, 51), (⟨"BoardMillModel", "isDrawn", "(I)Z"⟩, 51), (⟨"BoardMillModel$NetJoinsModel", "isSheet", "(I)Z"⟩, 33), (⟨"BoardMillModel$NetJoinsModel", "anew", "()V"⟩, 33), (⟨"BoardMillModel$NetJoinsModel", "joinAll", "()V"⟩, 33), (⟨"BoardMillModel$NetJoinsModel", "joinSheet", "(I)V"⟩, 33), (⟨"BoardMillModel$NetJoinsModel", "joinWires", "(II)V"⟩, 33), (⟨"BoardMillModel$NetJoinsModel", "isOn", "(II)Z"⟩, 33), (⟨"BoardMillModel$NetJoinsModel", "haveEnd", "(II)Z"⟩, 33)]
theorem lw_r16 : ∀ q ∈ lw_privs_16, lw_okq q := List.forall_mem_cons.mpr ⟨lw_p240, List.forall_mem_cons.mpr ⟨lw_p241, List.forall_mem_cons.mpr ⟨lw_p242, List.forall_mem_cons.mpr ⟨lw_p243, List.forall_mem_cons.mpr ⟨lw_p244, List.forall_mem_cons.mpr ⟨lw_p245, List.forall_mem_cons.mpr ⟨lw_p246, List.forall_mem_cons.mpr ⟨lw_p247, List.forall_mem_cons.mpr ⟨lw_p248, List.forall_mem_cons.mpr ⟨lw_p249, List.forall_mem_cons.mpr ⟨lw_p250, List.forall_mem_cons.mpr ⟨lw_p251, List.forall_mem_cons.mpr ⟨lw_p252, List.forall_mem_cons.mpr ⟨lw_p253, List.forall_mem_cons.mpr ⟨lw_p254, List.forall_mem_cons.mpr ⟨lw_p255, fun _ h => absurd h List.not_mem_nil⟩⟩⟩⟩⟩⟩⟩⟩⟩⟩⟩⟩⟩⟩⟩⟩
theorem lw_p256 : lw_okq (⟨"BoardMillModel$NetJoinsModel", "goesThrough", "(IJJ)Z"⟩, 33) := ⟨⟨by decide +kernel, by decide +kernel⟩, List.mem_of_getElem? (i := 3317) (by decide +kernel), List.mem_of_getElem? (i := 3495) (by decide +kernel), List.mem_of_getElem? (i := 3496) (by decide +kernel)⟩
theorem lw_p257 : lw_okq (⟨"BoardMillModel$NetJoinsModel", "join", "(II)V"⟩, 33) := ⟨⟨by decide +kernel, by decide +kernel⟩, List.mem_of_getElem? (i := 3317) (by decide +kernel), List.mem_of_getElem? (i := 3499) (by decide +kernel), List.mem_of_getElem? (i := 3500) (by decide +kernel)⟩
theorem lw_p258 : lw_okq (⟨"BoardMillModel$NetJoinsModel", "leade\x72", "(I)I"⟩, 33) := ⟨⟨by decide +kernel, by decide +kernel⟩, List.mem_of_getElem? (i := 3317) (by decide +kernel), List.mem_of_getElem? (i := 3503) (by decide +kernel), List.mem_of_getElem? (i := 3504) (by decide +kernel)⟩
theorem lw_p259 : lw_okq (⟨"BoardMillModel$NetJoinsModel", "joinPlace", "(IIIJJ)V"⟩, 33) := ⟨⟨by decide +kernel, by decide +kernel⟩, List.mem_of_getElem? (i := 3317) (by decide +kernel), List.mem_of_getElem? (i := 3507) (by decide +kernel), List.mem_of_getElem? (i := 3508) (by decide +kernel)⟩
theorem lw_p260 : lw_okq (⟨"BoardMillModel$NetJoinsModel", "nameNode", "(II)I"⟩, 33) := ⟨⟨by decide +kernel, by decide +kernel⟩, List.mem_of_getElem? (i := 3317) (by decide +kernel), List.mem_of_getElem? (i := 3511) (by decide +kernel), List.mem_of_getElem? (i := 3512) (by decide +kernel)⟩
theorem lw_p261 : lw_okq (⟨"BoardMillModel$NetJoinsModel", "joinBuses", "(IIII)V"⟩, 33) := ⟨⟨by decide +kernel, by decide +kernel⟩, List.mem_of_getElem? (i := 3317) (by decide +kernel), List.mem_of_getElem? (i := 3515) (by decide +kernel), List.mem_of_getElem? (i := 3516) (by decide +kernel)⟩
theorem lw_p262 : lw_okq (⟨"BoardMillModel$NetJoinsModel", "members", "(I)I"⟩, 33) := ⟨⟨by decide +kernel, by decide +kernel⟩, List.mem_of_getElem? (i := 3317) (by decide +kernel), List.mem_of_getElem? (i := 3519) (by decide +kernel), List.mem_of_getElem? (i := 3520) (by decide +kernel)⟩
theorem lw_p263 : lw_okq (⟨"BoardMillModel$NetJoinsModel", "membe\x72", "(II)I"⟩, 33) := ⟨⟨by decide +kernel, by decide +kernel⟩, List.mem_of_getElem? (i := 3317) (by decide +kernel), List.mem_of_getElem? (i := 3523) (by decide +kernel), List.mem_of_getElem? (i := 3524) (by decide +kernel)⟩
theorem lw_p264 : lw_okq (⟨"BoardMillModel$NetJoinsModel", "numbe\x72", "()V"⟩, 33) := ⟨⟨by decide +kernel, by decide +kernel⟩, List.mem_of_getElem? (i := 3317) (by decide +kernel), List.mem_of_getElem? (i := 3527) (by decide +kernel), List.mem_of_getElem? (i := 3528) (by decide +kernel)⟩
theorem lw_p265 : lw_okq (⟨"BoardMillModel$NetJoinsModel", "wasThere", "(I)Z"⟩, 33) := ⟨⟨by decide +kernel, by decide +kernel⟩, List.mem_of_getElem? (i := 3317) (by decide +kernel), List.mem_of_getElem? (i := 3531) (by decide +kernel), List.mem_of_getElem? (i := 3532) (by decide +kernel)⟩
theorem lw_p266 : lw_okq (⟨"BoardMillModel", "wire", "(LBoardMillModel$SchematicTextModel;II)V"⟩, 51) := ⟨⟨by decide +kernel, by decide +kernel⟩, List.mem_of_getElem? (i := 2305) (by decide +kernel), List.mem_of_getElem? (i := 3535) (by decide +kernel), List.mem_of_getElem? (i := 3536) (by decide +kernel)⟩
theorem lw_p267 : lw_okq (⟨"BoardMillModel$NetJoinsModel", "refusal", "(IZ)I"⟩, 33) := ⟨⟨by decide +kernel, by decide +kernel⟩, List.mem_of_getElem? (i := 3317) (by decide +kernel), List.mem_of_getElem? (i := 3552) (by decide +kernel), List.mem_of_getElem? (i := 3553) (by decide +kernel)⟩
theorem lw_p268 : lw_okq (⟨"BoardMillModel", "note", "(LBoardMillModel$SchematicTextModel;II)V"⟩, 51) := ⟨⟨by decide +kernel, by decide +kernel⟩, List.mem_of_getElem? (i := 2305) (by decide +kernel), List.mem_of_getElem? (i := 3556) (by decide +kernel), List.mem_of_getElem? (i := 3557) (by decide +kernel)⟩
theorem lw_p269 : lw_okq (⟨"BoardMillModel", "terminal", "(LBoardMillModel$SchematicTextModel;I)V"⟩, 51) := ⟨⟨by decide +kernel, by decide +kernel⟩, List.mem_of_getElem? (i := 2305) (by decide +kernel), List.mem_of_getElem? (i := 3575) (by decide +kernel), List.mem_of_getElem? (i := 3576) (by decide +kernel)⟩
theorem lw_p270 : lw_okq (⟨"BoardMillModel", "done", "(I)I"⟩, 51) := ⟨⟨by decide +kernel, by decide +kernel⟩, List.mem_of_getElem? (i := 2305) (by decide +kernel), List.mem_of_getElem? (i := 3583) (by decide +kernel), List.mem_of_getElem? (i := 3584) (by decide +kernel)⟩
theorem lw_p271 : lw_okq (⟨"BoardMillModel$SchematicTextModel", "writeAll", "()V"⟩, 31) := ⟨⟨by decide +kernel, by decide +kernel⟩, List.mem_of_getElem? (i := 2312) (by decide +kernel), List.mem_of_getElem? (i := 3607) (by decide +kernel), List.mem_of_getElem? (i := 3608) (by decide +kernel)⟩
def lw_privs_17 : List (MethodName × Nat) := [(⟨"BoardMillModel$NetJoinsModel", "goesThrough", "(IJJ)Z"⟩, 33), (⟨"BoardMillModel$NetJoinsModel", "join", "(II)V"⟩, 33), (⟨"BoardMillModel$NetJoinsModel", "leade\x72", "(I)I"⟩, 33), (⟨"BoardMillModel$NetJoinsModel", "joinPlace", "(IIIJJ)V"⟩, 33), (⟨"BoardMillModel$NetJoinsModel", "nameNode", "(II)I"⟩, 33), (⟨"BoardMillModel$NetJoinsModel", "joinBuses", "(IIII)V"⟩, 33), (⟨"BoardMillModel$NetJoinsModel", "members", "(I)I"⟩, 33), (⟨"BoardMillModel$NetJoinsModel", "membe\x72", "(II)I"⟩, 33), (⟨"BoardMillModel$NetJoinsModel", "numbe\x72", "()V"⟩, 33), (⟨"BoardMillModel$NetJoinsModel", "wasThere", "(I)Z"⟩, 33), (⟨"BoardMillModel", "wire", "(LBoardMillModel$SchematicTextModel;II)V"⟩, 51), (⟨"BoardMillModel$NetJoinsModel", "refusal", "(IZ)I"⟩, 33), (⟨"BoardMillModel", "note", "(LBoardMillModel$SchematicTextModel;II)V"⟩, 51), (⟨"BoardMillModel", "terminal", "(LBoardMillModel$SchematicTextModel;I)V"⟩, 51), (⟨"BoardMillModel", "done", "(I)I"⟩, 51), (⟨"BoardMillModel$SchematicTextModel", "writeAll", "()V"⟩, 31)]
theorem lw_r17 : ∀ q ∈ lw_privs_17, lw_okq q := List.forall_mem_cons.mpr ⟨lw_p256, List.forall_mem_cons.mpr ⟨lw_p257, List.forall_mem_cons.mpr ⟨lw_p258, List.forall_mem_cons.mpr ⟨lw_p259, List.forall_mem_cons.mpr ⟨lw_p260, List.forall_mem_cons.mpr ⟨lw_p261, List.forall_mem_cons.mpr ⟨lw_p262, List.forall_mem_cons.mpr ⟨lw_p263, List.forall_mem_cons.mpr ⟨lw_p264, List.forall_mem_cons.mpr ⟨lw_p265, List.forall_mem_cons.mpr ⟨lw_p266, List.forall_mem_cons.mpr ⟨lw_p267, List.forall_mem_cons.mpr ⟨lw_p268, List.forall_mem_cons.mpr ⟨lw_p269, List.forall_mem_cons.mpr ⟨lw_p270, List.forall_mem_cons.mpr ⟨lw_p271, fun _ h => absurd h List.not_mem_nil⟩⟩⟩⟩⟩⟩⟩⟩⟩⟩⟩⟩⟩⟩⟩⟩
theorem lw_p272 : lw_okq (⟨"BoardMillModel$SchematicTextModel", "sayOwn", "(I)V"⟩, 31) := ⟨⟨by decide +kernel, by decide +kernel⟩, List.mem_of_getElem? (i := 2312) (by decide +kernel), List.mem_of_getElem? (i := 3611) (by decide +kernel), List.mem_of_getElem? (i := 3612) (by decide +kernel)⟩
theorem lw_p273 : lw_okq (⟨"BoardMillModel$SchematicTextModel", "say", "(I)V"⟩, 31) := ⟨⟨by decide +kernel, by decide +kernel⟩, List.mem_of_getElem? (i := 2312) (by decide +kernel), List.mem_of_getElem? (i := 3615) (by decide +kernel), List.mem_of_getElem? (i := 3616) (by decide +kernel)⟩
theorem lw_p274 : lw_okq (⟨"BoardMillModel$SchematicTextModel", "sayName", "(I)V"⟩, 31) := ⟨⟨by decide +kernel, by decide +kernel⟩, List.mem_of_getElem? (i := 2312) (by decide +kernel), List.mem_of_getElem? (i := 3619) (by decide +kernel), List.mem_of_getElem? (i := 3620) (by decide +kernel)⟩
theorem lw_p275 : lw_okq (⟨"BoardMillModel$SchematicTextModel", "sayText", "(II)V"⟩, 31) := ⟨⟨by decide +kernel, by decide +kernel⟩, List.mem_of_getElem? (i := 2312) (by decide +kernel), List.mem_of_getElem? (i := 3623) (by decide +kernel), List.mem_of_getElem? (i := 3624) (by decide +kernel)⟩
theorem lw_p276 : lw_okq (⟨"BoardMillModel$SchematicTextModel", "sayLength", "(J)V"⟩, 31) := ⟨⟨by decide +kernel, by decide +kernel⟩, List.mem_of_getElem? (i := 2312) (by decide +kernel), List.mem_of_getElem? (i := 3627) (by decide +kernel), List.mem_of_getElem? (i := 3628) (by decide +kernel)⟩
theorem lw_p277 : lw_okq (⟨"BoardMillModel$SchematicTextModel", "sayWhole", "(J)V"⟩, 31) := ⟨⟨by decide +kernel, by decide +kernel⟩, List.mem_of_getElem? (i := 2312) (by decide +kernel), List.mem_of_getElem? (i := 3631) (by decide +kernel), List.mem_of_getElem? (i := 3632) (by decide +kernel)⟩
theorem lw_p278 : lw_okq (⟨"BoardMillModel$SchematicTextModel", "childFrom", "(II)I"⟩, 31) := ⟨⟨by decide +kernel, by decide +kernel⟩, List.mem_of_getElem? (i := 2312) (by decide +kernel), List.mem_of_getElem? (i := 3636) (by decide +kernel), List.mem_of_getElem? (i := 3637) (by decide +kernel)⟩
theorem lw_p279 : lw_okq (⟨"BoardMillModel$SchematicTextModel", "sayAhead", "(I)V"⟩, 31) := ⟨⟨by decide +kernel, by decide +kernel⟩, List.mem_of_getElem? (i := 2312) (by decide +kernel), List.mem_of_getElem? (i := 3640) (by decide +kernel), List.mem_of_getElem? (i := 3641) (by decide +kernel)⟩
theorem lw_p280 : lw_okq (⟨"BoardMillModel$NetJoinsModel", "copySheet", "(II)I"⟩, 33) := ⟨⟨by decide +kernel, by decide +kernel⟩, List.mem_of_getElem? (i := 3317) (by decide +kernel), List.mem_of_getElem? (i := 3660) (by decide +kernel), List.mem_of_getElem? (i := 3661) (by decide +kernel)⟩
theorem lw_p281 : lw_okq (⟨"BoardMillModel$NetJoinsModel", "nameOf", "(I)I"⟩, 33) := ⟨⟨by decide +kernel, by decide +kernel⟩, List.mem_of_getElem? (i := 3317) (by decide +kernel), List.mem_of_getElem? (i := 3676) (by decide +kernel), List.mem_of_getElem? (i := 3677) (by decide +kernel)⟩
theorem lw_p282 : lw_okq (⟨"BoardMillModel$NetJoinsModel", "hasName", "(II)Z"⟩, 33) := ⟨⟨by decide +kernel, by decide +kernel⟩, List.mem_of_getElem? (i := 3317) (by decide +kernel), List.mem_of_getElem? (i := 3680) (by decide +kernel), List.mem_of_getElem? (i := 3681) (by decide +kernel)⟩
theorem lw_p283 : lw_okq (⟨"BoardMillModel$NetJoinsModel", "isBare", "(I)Z"⟩, 33) := ⟨⟨by decide +kernel, by decide +kernel⟩, List.mem_of_getElem? (i := 3317) (by decide +kernel), List.mem_of_getElem? (i := 3692) (by decide +kernel), List.mem_of_getElem? (i := 3693) (by decide +kernel)⟩
theorem lw_p284 : lw_okq (⟨"BoardMillModel$NetJoinsModel", "isJoined", "(I)Z"⟩, 33) := ⟨⟨by decide +kernel, by decide +kernel⟩, List.mem_of_getElem? (i := 3317) (by decide +kernel), List.mem_of_getElem? (i := 3697) (by decide +kernel), List.mem_of_getElem? (i := 3698) (by decide +kernel)⟩
theorem lw_p285 : lw_okq (⟨"BoardMillModel$GridRipUpModel", "cell", "(III)I"⟩, 25) := ⟨⟨by decide +kernel, by decide +kernel⟩, List.mem_of_getElem? (i := 3706) (by decide +kernel), List.mem_of_getElem? (i := 3797) (by decide +kernel), List.mem_of_getElem? (i := 3798) (by decide +kernel)⟩
theorem lw_p286 : lw_okq (⟨"BoardMillModel", "hasPad", "(II)Z"⟩, 51) := ⟨⟨by decide +kernel, by decide +kernel⟩, List.mem_of_getElem? (i := 2305) (by decide +kernel), List.mem_of_getElem? (i := 3801) (by decide +kernel), List.mem_of_getElem? (i := 3802) (by decide +kernel)⟩
theorem lw_p287 : lw_okq (⟨"BoardMillModel", "routeOf", "(I)I"⟩, 51) := ⟨⟨by decide +kernel, by decide +kernel⟩, List.mem_of_getElem? (i := 2305) (by decide +kernel), List.mem_of_getElem? (i := 3805) (by decide +kernel), List.mem_of_getElem? (i := 3806) (by decide +kernel)⟩
def lw_privs_18 : List (MethodName × Nat) := [(⟨"BoardMillModel$SchematicTextModel", "sayOwn", "(I)V"⟩, 31), (⟨"BoardMillModel$SchematicTextModel", "say", "(I)V"⟩, 31), (⟨"BoardMillModel$SchematicTextModel", "sayName", "(I)V"⟩, 31), (⟨"BoardMillModel$SchematicTextModel", "sayText", "(II)V"⟩, 31), (⟨"BoardMillModel$SchematicTextModel", "sayLength", "(J)V"⟩, 31), (⟨"BoardMillModel$SchematicTextModel", "sayWhole", "(J)V"⟩, 31), (⟨"BoardMillModel$SchematicTextModel", "childFrom", "(II)I"⟩, 31), (⟨"BoardMillModel$SchematicTextModel", "sayAhead", "(I)V"⟩, 31), (⟨"BoardMillModel$NetJoinsModel", "copySheet", "(II)I"⟩, 33), (⟨"BoardMillModel$NetJoinsModel", "nameOf", "(I)I"⟩, 33), (⟨"BoardMillModel$NetJoinsModel", "hasName", "(II)Z"⟩, 33), (⟨"BoardMillModel$NetJoinsModel", "isBare", "(I)Z"⟩, 33), (⟨"BoardMillModel$NetJoinsModel", "isJoined", "(I)Z"⟩, 33), (⟨"BoardMillModel$GridRipUpModel", "cell", "(III)I"⟩, 25), (⟨"BoardMillModel", "hasPad", "(II)Z"⟩, 51), (⟨"BoardMillModel", "routeOf", "(I)I"⟩, 51)]
theorem lw_r18 : ∀ q ∈ lw_privs_18, lw_okq q := List.forall_mem_cons.mpr ⟨lw_p272, List.forall_mem_cons.mpr ⟨lw_p273, List.forall_mem_cons.mpr ⟨lw_p274, List.forall_mem_cons.mpr ⟨lw_p275, List.forall_mem_cons.mpr ⟨lw_p276, List.forall_mem_cons.mpr ⟨lw_p277, List.forall_mem_cons.mpr ⟨lw_p278, List.forall_mem_cons.mpr ⟨lw_p279, List.forall_mem_cons.mpr ⟨lw_p280, List.forall_mem_cons.mpr ⟨lw_p281, List.forall_mem_cons.mpr ⟨lw_p282, List.forall_mem_cons.mpr ⟨lw_p283, List.forall_mem_cons.mpr ⟨lw_p284, List.forall_mem_cons.mpr ⟨lw_p285, List.forall_mem_cons.mpr ⟨lw_p286, List.forall_mem_cons.mpr ⟨lw_p287, fun _ h => absurd h List.not_mem_nil⟩⟩⟩⟩⟩⟩⟩⟩⟩⟩⟩⟩⟩⟩⟩⟩
theorem lw_p288 : lw_okq (⟨"BoardMillModel$GridRipUpModel", "isNet", "(I)Z"⟩, 25) := ⟨⟨by decide +kernel, by decide +kernel⟩, List.mem_of_getElem? (i := 3706) (by decide +kernel), List.mem_of_getElem? (i := 3818) (by decide +kernel), List.mem_of_getElem? (i := 3819) (by decide +kernel)⟩
theorem lw_p289 : lw_okq (⟨"BoardMillModel$GridRipUpModel", "loosen", "(I)V"⟩, 25) := ⟨⟨by decide +kernel, by decide +kernel⟩, List.mem_of_getElem? (i := 3706) (by decide +kernel), List.mem_of_getElem? (i := 3822) (by decide +kernel), List.mem_of_getElem? (i := 3823) (by decide +kernel)⟩
theorem lw_p290 : lw_okq (⟨"BoardMillModel$GridRipUpModel", "openCount", "()I"⟩, 25) := ⟨⟨by decide +kernel, by decide +kernel⟩, List.mem_of_getElem? (i := 3706) (by decide +kernel), List.mem_of_getElem? (i := 3857) (by decide +kernel), List.mem_of_getElem? (i := 3858) (by decide +kernel)⟩
theorem lw_p291 : lw_okq (⟨"BoardMillModel$GridRipUpModel", "isOpen", "(I)Z"⟩, 25) := ⟨⟨by decide +kernel, by decide +kernel⟩, List.mem_of_getElem? (i := 3706) (by decide +kernel), List.mem_of_getElem? (i := 3861) (by decide +kernel), List.mem_of_getElem? (i := 3862) (by decide +kernel)⟩
theorem lw_p292 : lw_okq (⟨"BoardMillModel$GridRipUpModel", "turn", "()V"⟩, 25) := ⟨⟨by decide +kernel, by decide +kernel⟩, List.mem_of_getElem? (i := 3706) (by decide +kernel), List.mem_of_getElem? (i := 3865) (by decide +kernel), List.mem_of_getElem? (i := 3866) (by decide +kernel)⟩
theorem lw_p293 : lw_okq (⟨"BoardMillModel$GridRipUpModel", "draw", "()J"⟩, 25) := ⟨⟨by decide +kernel, by decide +kernel⟩, List.mem_of_getElem? (i := 3706) (by decide +kernel), List.mem_of_getElem? (i := 3869) (by decide +kernel), List.mem_of_getElem? (i := 3870) (by decide +kernel)⟩
theorem lw_p294 : lw_okq (⟨"BoardMillModel$GridRipUpModel", "lead", "(I)V"⟩, 25) := ⟨⟨by decide +kernel, by decide +kernel⟩, List.mem_of_getElem? (i := 3706) (by decide +kernel), List.mem_of_getElem? (i := 3875) (by decide +kernel), List.mem_of_getElem? (i := 3876) (by decide +kernel)⟩
theorem lw_p295 : lw_okq (⟨"BoardMillModel$GridRipUpModel", "comes", "(II)V"⟩, 25) := ⟨⟨by decide +kernel, by decide +kernel⟩, List.mem_of_getElem? (i := 3706) (by decide +kernel), List.mem_of_getElem? (i := 3879) (by decide +kernel), List.mem_of_getElem? (i := 3880) (by decide +kernel)⟩
theorem lw_p296 : lw_okq (⟨"BoardMillModel$GridRipUpModel", "hasAll", "(I)Z"⟩, 25) := ⟨⟨by decide +kernel, by decide +kernel⟩, List.mem_of_getElem? (i := 3706) (by decide +kernel), List.mem_of_getElem? (i := 3883) (by decide +kernel), List.mem_of_getElem? (i := 3884) (by decide +kernel)⟩
theorem lw_p297 : lw_okq (⟨"BoardMillModel$GridRipUpModel", "search", "(IZ)V"⟩, 25) := ⟨⟨by decide +kernel, by decide +kernel⟩, List.mem_of_getElem? (i := 3706) (by decide +kernel), List.mem_of_getElem? (i := 3887) (by decide +kernel), List.mem_of_getElem? (i := 3888) (by decide +kernel)⟩
theorem lw_p298 : lw_okq (⟨"BoardMillModel$GridRipUpModel", "neighbou\x72", "(II)I"⟩, 25) := ⟨⟨by decide +kernel, by decide +kernel⟩, List.mem_of_getElem? (i := 3706) (by decide +kernel), List.mem_of_getElem? (i := 3892) (by decide +kernel), List.mem_of_getElem? (i := 3893) (by decide +kernel)⟩
theorem lw_p299 : lw_okq (⟨"BoardMillModel$GridRipUpModel", "layerOf", "(I)I"⟩, 25) := ⟨⟨by decide +kernel, by decide +kernel⟩, List.mem_of_getElem? (i := 3706) (by decide +kernel), List.mem_of_getElem? (i := 3896) (by decide +kernel), List.mem_of_getElem? (i := 3897) (by decide +kernel)⟩
theorem lw_p300 : lw_okq (⟨"BoardMillModel$GridRipUpModel", "rowOf", "(I)I"⟩, 25) := ⟨⟨by decide +kernel, by decide +kernel⟩, List.mem_of_getElem? (i := 3706) (by decide +kernel), List.mem_of_getElem? (i := 3900) (by decide +kernel), List.mem_of_getElem? (i := 3901) (by decide +kernel)⟩
theorem lw_p301 : lw_okq (⟨"BoardMillModel$GridRipUpModel", "canCome", "(IIZ)Z"⟩, 25) := ⟨⟨by decide +kernel, by decide +kernel⟩, List.mem_of_getElem? (i := 3706) (by decide +kernel), List.mem_of_getElem? (i := 3904) (by decide +kernel), List.mem_of_getElem? (i := 3905) (by decide +kernel)⟩
theorem lw_p302 : lw_okq (⟨"BoardMillModel$GridRipUpModel", "step", "(IIIIZ)J"⟩, 25) := ⟨⟨by decide +kernel, by decide +kernel⟩, List.mem_of_getElem? (i := 3706) (by decide +kernel), List.mem_of_getElem? (i := 3908) (by decide +kernel), List.mem_of_getElem? (i := 3909) (by decide +kernel)⟩
theorem lw_p303 : lw_okq (⟨"BoardMillModel$GridRipUpModel", "nextPin", "(I)I"⟩, 25) := ⟨⟨by decide +kernel, by decide +kernel⟩, List.mem_of_getElem? (i := 3706) (by decide +kernel), List.mem_of_getElem? (i := 3914) (by decide +kernel), List.mem_of_getElem? (i := 3915) (by decide +kernel)⟩
def lw_privs_19 : List (MethodName × Nat) := [(⟨"BoardMillModel$GridRipUpModel", "isNet", "(I)Z"⟩, 25), (⟨"BoardMillModel$GridRipUpModel", "loosen", "(I)V"⟩, 25), (⟨"BoardMillModel$GridRipUpModel", "openCount", "()I"⟩, 25), (⟨"BoardMillModel$GridRipUpModel", "isOpen", "(I)Z"⟩, 25), (⟨"BoardMillModel$GridRipUpModel", "turn", "()V"⟩, 25), (⟨"BoardMillModel$GridRipUpModel", "draw", "()J"⟩, 25), (⟨"BoardMillModel$GridRipUpModel", "lead", "(I)V"⟩, 25), (⟨"BoardMillModel$GridRipUpModel", "comes", "(II)V"⟩, 25), (⟨"BoardMillModel$GridRipUpModel", "hasAll", "(I)Z"⟩, 25), (⟨"BoardMillModel$GridRipUpModel", "search", "(IZ)V"⟩, 25), (⟨"BoardMillModel$GridRipUpModel", "neighbou\x72", "(II)I"⟩, 25), (⟨"BoardMillModel$GridRipUpModel", "layerOf", "(I)I"⟩, 25), (⟨"BoardMillModel$GridRipUpModel", "rowOf", "(I)I"⟩, 25), (⟨"BoardMillModel$GridRipUpModel", "canCome", "(IIZ)Z"⟩, 25), (⟨"BoardMillModel$GridRipUpModel", "step", "(IIIIZ)J"⟩, 25), (⟨"BoardMillModel$GridRipUpModel", "nextPin", "(I)I"⟩, 25)]
theorem lw_r19 : ∀ q ∈ lw_privs_19, lw_okq q := List.forall_mem_cons.mpr ⟨lw_p288, List.forall_mem_cons.mpr ⟨lw_p289, List.forall_mem_cons.mpr ⟨lw_p290, List.forall_mem_cons.mpr ⟨lw_p291, List.forall_mem_cons.mpr ⟨lw_p292, List.forall_mem_cons.mpr ⟨lw_p293, List.forall_mem_cons.mpr ⟨lw_p294, List.forall_mem_cons.mpr ⟨lw_p295, List.forall_mem_cons.mpr ⟨lw_p296, List.forall_mem_cons.mpr ⟨lw_p297, List.forall_mem_cons.mpr ⟨lw_p298, List.forall_mem_cons.mpr ⟨lw_p299, List.forall_mem_cons.mpr ⟨lw_p300, List.forall_mem_cons.mpr ⟨lw_p301, List.forall_mem_cons.mpr ⟨lw_p302, List.forall_mem_cons.mpr ⟨lw_p303, fun _ h => absurd h List.not_mem_nil⟩⟩⟩⟩⟩⟩⟩⟩⟩⟩⟩⟩⟩⟩⟩⟩
theorem lw_p304 : lw_okq (⟨"BoardMillModel$GridRipUpModel", "findBlocks", "(I)V"⟩, 25) := ⟨⟨by decide +kernel, by decide +kernel⟩, List.mem_of_getElem? (i := 3706) (by decide +kernel), List.mem_of_getElem? (i := 3918) (by decide +kernel), List.mem_of_getElem? (i := 3919) (by decide +kernel)⟩
theorem lw_p305 : lw_okq (⟨"BoardMillModel$GridRipUpModel", "join", "(IIZ)V"⟩, 25) := ⟨⟨by decide +kernel, by decide +kernel⟩, List.mem_of_getElem? (i := 3706) (by decide +kernel), List.mem_of_getElem? (i := 3922) (by decide +kernel), List.mem_of_getElem? (i := 3923) (by decide +kernel)⟩
theorem lw_p306 : lw_okq (⟨"BoardMillModel$GridRipUpModel", "back", "(IIZ)I"⟩, 25) := ⟨⟨by decide +kernel, by decide +kernel⟩, List.mem_of_getElem? (i := 3706) (by decide +kernel), List.mem_of_getElem? (i := 3926) (by decide +kernel), List.mem_of_getElem? (i := 3927) (by decide +kernel)⟩
theorem lw_p307 : lw_okq (⟨"BoardMillModel$GridRipUpModel", "opposite", "(I)I"⟩, 25) := ⟨⟨by decide +kernel, by decide +kernel⟩, List.mem_of_getElem? (i := 3706) (by decide +kernel), List.mem_of_getElem? (i := 3930) (by decide +kernel), List.mem_of_getElem? (i := 3931) (by decide +kernel)⟩
theorem lw_p308 : lw_okq (⟨"BoardMillModel", "go", "(Z)V"⟩, 51) := ⟨⟨by decide +kernel, by decide +kernel⟩, List.mem_of_getElem? (i := 2305) (by decide +kernel), List.mem_of_getElem? (i := 3968) (by decide +kernel), List.mem_of_getElem? (i := 3969) (by decide +kernel)⟩
theorem lw_p309 : lw_okq (⟨"BoardMillModel", "shape", "(IIIIIIIII)V"⟩, 51) := ⟨⟨by decide +kernel, by decide +kernel⟩, List.mem_of_getElem? (i := 2305) (by decide +kernel), List.mem_of_getElem? (i := 3972) (by decide +kernel), List.mem_of_getElem? (i := 3973) (by decide +kernel)⟩
theorem lw_p310 : lw_okq (⟨"BoardMillModel$CleanChecksModel", "isShape", "(I)Z"⟩, 25) := ⟨⟨by decide +kernel, by decide +kernel⟩, List.mem_of_getElem? (i := 3987) (by decide +kernel), List.mem_of_getElem? (i := 3985) (by decide +kernel), List.mem_of_getElem? (i := 3986) (by decide +kernel)⟩
theorem lw_p311 : lw_okq (⟨"BoardMillModel$CopperNetsModel", "isLaye\x72", "(I)Z"⟩, 19) := ⟨⟨by decide +kernel, by decide +kernel⟩, List.mem_of_getElem? (i := 4014) (by decide +kernel), List.mem_of_getElem? (i := 4012) (by decide +kernel), List.mem_of_getElem? (i := 4013) (by decide +kernel)⟩
theorem lw_p312 : lw_okq (⟨"BoardMillModel$CopperNetsModel", "add", "(IIJJJJJI)I"⟩, 19) := ⟨⟨by decide +kernel, by decide +kernel⟩, List.mem_of_getElem? (i := 4014) (by decide +kernel), List.mem_of_getElem? (i := 4025) (by decide +kernel), List.mem_of_getElem? (i := 4026) (by decide +kernel)⟩
theorem lw_p313 : lw_okq (⟨"BoardMillModel", "runs", "(IIZ)V"⟩, 51) := ⟨⟨by decide +kernel, by decide +kernel⟩, List.mem_of_getElem? (i := 2305) (by decide +kernel), List.mem_of_getElem? (i := 4036) (by decide +kernel), List.mem_of_getElem? (i := 4037) (by decide +kernel)⟩
theorem lw_p314 : lw_okq (⟨"BoardMillModel", "holds", "(IIII)Z"⟩, 51) := ⟨⟨by decide +kernel, by decide +kernel⟩, List.mem_of_getElem? (i := 2305) (by decide +kernel), List.mem_of_getElem? (i := 4040) (by decide +kernel), List.mem_of_getElem? (i := 4041) (by decide +kernel)⟩
theorem lw_p315 : lw_okq (⟨"BoardMillModel", "row", "(IIIIII)V"⟩, 51) := ⟨⟨by decide +kernel, by decide +kernel⟩, List.mem_of_getElem? (i := 2305) (by decide +kernel), List.mem_of_getElem? (i := 4044) (by decide +kernel), List.mem_of_getElem? (i := 4045) (by decide +kernel)⟩
theorem lw_p316 : lw_okq (⟨"BoardMillModel", "holesOf", "(II)V"⟩, 51) := ⟨⟨by decide +kernel, by decide +kernel⟩, List.mem_of_getElem? (i := 2305) (by decide +kernel), List.mem_of_getElem? (i := 4054) (by decide +kernel), List.mem_of_getElem? (i := 4055) (by decide +kernel)⟩
theorem lw_p317 : lw_okq (⟨"BoardMillModel", "hole", "(IIII)V"⟩, 51) := ⟨⟨by decide +kernel, by decide +kernel⟩, List.mem_of_getElem? (i := 2305) (by decide +kernel), List.mem_of_getElem? (i := 4058) (by decide +kernel), List.mem_of_getElem? (i := 4059) (by decide +kernel)⟩
theorem lw_p318 : lw_okq (⟨"BoardMillModel$DrillArchiveModel", "isTool", "(I)Z"⟩, 39) := ⟨⟨by decide +kernel, by decide +kernel⟩, List.mem_of_getElem? (i := 2413) (by decide +kernel), List.mem_of_getElem? (i := 4071) (by decide +kernel), List.mem_of_getElem? (i := 4072) (by decide +kernel)⟩
theorem lw_p319 : lw_okq (⟨"BoardMillModel$DrillArchiveModel", "addHit", "(IIJJJJIIZ)I"⟩, 39) := ⟨⟨by decide +kernel, by decide +kernel⟩, List.mem_of_getElem? (i := 2413) (by decide +kernel), List.mem_of_getElem? (i := 4084) (by decide +kernel), List.mem_of_getElem? (i := 4085) (by decide +kernel)⟩
def lw_privs_20 : List (MethodName × Nat) := [(⟨"BoardMillModel$GridRipUpModel", "findBlocks", "(I)V"⟩, 25), (⟨"BoardMillModel$GridRipUpModel", "join", "(IIZ)V"⟩, 25), (⟨"BoardMillModel$GridRipUpModel", "back", "(IIZ)I"⟩, 25), (⟨"BoardMillModel$GridRipUpModel", "opposite", "(I)I"⟩, 25), (⟨"BoardMillModel", "go", "(Z)V"⟩, 51), (⟨"BoardMillModel", "shape", "(IIIIIIIII)V"⟩, 51), (⟨"BoardMillModel$CleanChecksModel", "isShape", "(I)Z"⟩, 25), (⟨"BoardMillModel$CopperNetsModel", "isLaye\x72", "(I)Z"⟩, 19), (⟨"BoardMillModel$CopperNetsModel", "add", "(IIJJJJJI)I"⟩, 19), (⟨"BoardMillModel", "runs", "(IIZ)V"⟩, 51), (⟨"BoardMillModel", "holds", "(IIII)Z"⟩, 51), (⟨"BoardMillModel", "row", "(IIIIII)V"⟩, 51), (⟨"BoardMillModel", "holesOf", "(II)V"⟩, 51), (⟨"BoardMillModel", "hole", "(IIII)V"⟩, 51), (⟨"BoardMillModel$DrillArchiveModel", "isTool", "(I)Z"⟩, 39), (⟨"BoardMillModel$DrillArchiveModel", "addHit", "(IIJJJJIIZ)I"⟩, 39)]
theorem lw_r20 : ∀ q ∈ lw_privs_20, lw_okq q := List.forall_mem_cons.mpr ⟨lw_p304, List.forall_mem_cons.mpr ⟨lw_p305, List.forall_mem_cons.mpr ⟨lw_p306, List.forall_mem_cons.mpr ⟨lw_p307, List.forall_mem_cons.mpr ⟨lw_p308, List.forall_mem_cons.mpr ⟨lw_p309, List.forall_mem_cons.mpr ⟨lw_p310, List.forall_mem_cons.mpr ⟨lw_p311, List.forall_mem_cons.mpr ⟨lw_p312, List.forall_mem_cons.mpr ⟨lw_p313, List.forall_mem_cons.mpr ⟨lw_p314, List.forall_mem_cons.mpr ⟨lw_p315, List.forall_mem_cons.mpr ⟨lw_p316, List.forall_mem_cons.mpr ⟨lw_p317, List.forall_mem_cons.mpr ⟨lw_p318, List.forall_mem_cons.mpr ⟨lw_p319, fun _ h => absurd h List.not_mem_nil⟩⟩⟩⟩⟩⟩⟩⟩⟩⟩⟩⟩⟩⟩⟩⟩
theorem lw_p320 : lw_okq (⟨"BoardMillModel$DrillArchiveModel", "addTool", "(IJZ)I"⟩, 39) := ⟨⟨by decide +kernel, by decide +kernel⟩, List.mem_of_getElem? (i := 2413) (by decide +kernel), List.mem_of_getElem? (i := 4240) (by decide +kernel), List.mem_of_getElem? (i := 4241) (by decide +kernel)⟩
theorem lw_p321 : lw_okq (⟨"BoardMillModel$DrillArchiveModel", "findOrde\x72", "(I)V"⟩, 39) := ⟨⟨by decide +kernel, by decide +kernel⟩, List.mem_of_getElem? (i := 2413) (by decide +kernel), List.mem_of_getElem? (i := 4248) (by decide +kernel), List.mem_of_getElem? (i := 4249) (by decide +kernel)⟩
theorem lw_p322 : lw_okq (⟨"BoardMillModel$DrillArchiveModel", "collect", "(I)V"⟩, 39) := ⟨⟨by decide +kernel, by decide +kernel⟩, List.mem_of_getElem? (i := 2413) (by decide +kernel), List.mem_of_getElem? (i := 4252) (by decide +kernel), List.mem_of_getElem? (i := 4253) (by decide +kernel)⟩
theorem lw_p323 : lw_okq (⟨"BoardMillModel$DrillArchiveModel", "orderNearest", "()V"⟩, 39) := ⟨⟨by decide +kernel, by decide +kernel⟩, List.mem_of_getElem? (i := 2413) (by decide +kernel), List.mem_of_getElem? (i := 4256) (by decide +kernel), List.mem_of_getElem? (i := 4257) (by decide +kernel)⟩
theorem lw_p324 : lw_okq (⟨"BoardMillModel$DrillArchiveModel", "way", "(II)J"⟩, 39) := ⟨⟨by decide +kernel, by decide +kernel⟩, List.mem_of_getElem? (i := 2413) (by decide +kernel), List.mem_of_getElem? (i := 4260) (by decide +kernel), List.mem_of_getElem? (i := 4261) (by decide +kernel)⟩
theorem lw_p325 : lw_okq (⟨"BoardMillModel$DrillArchiveModel", "orderExactly", "()V"⟩, 39) := ⟨⟨by decide +kernel, by decide +kernel⟩, List.mem_of_getElem? (i := 2413) (by decide +kernel), List.mem_of_getElem? (i := 4270) (by decide +kernel), List.mem_of_getElem? (i := 4271) (by decide +kernel)⟩
theorem lw_p326 : lw_okq (⟨"BoardMillModel$CleanChecksModel", "find", "()V"⟩, 25) := ⟨⟨by decide +kernel, by decide +kernel⟩, List.mem_of_getElem? (i := 3987) (by decide +kernel), List.mem_of_getElem? (i := 4286) (by decide +kernel), List.mem_of_getElem? (i := 4287) (by decide +kernel)⟩
theorem lw_p327 : lw_okq (⟨"BoardMillModel$CleanChecksModel", "breaks", "(II)Z"⟩, 25) := ⟨⟨by decide +kernel, by decide +kernel⟩, List.mem_of_getElem? (i := 3987) (by decide +kernel), List.mem_of_getElem? (i := 4290) (by decide +kernel), List.mem_of_getElem? (i := 4291) (by decide +kernel)⟩
theorem lw_p328 : lw_okq (⟨"BoardMillModel$CleanChecksModel", "isCoppe\x72", "(I)Z"⟩, 25) := ⟨⟨by decide +kernel, by decide +kernel⟩, List.mem_of_getElem? (i := 3987) (by decide +kernel), List.mem_of_getElem? (i := 4294) (by decide +kernel), List.mem_of_getElem? (i := 4295) (by decide +kernel)⟩
theorem lw_p329 : lw_okq (⟨"BoardMillModel$CleanChecksModel", "ruleFo\x72", "(III)I"⟩, 25) := ⟨⟨by decide +kernel, by decide +kernel⟩, List.mem_of_getElem? (i := 3987) (by decide +kernel), List.mem_of_getElem? (i := 4298) (by decide +kernel), List.mem_of_getElem? (i := 4299) (by decide +kernel)⟩
theorem lw_p330 : lw_okq (⟨"BoardMillModel$CleanChecksModel", "isRinged", "(IJ)Z"⟩, 25) := ⟨⟨by decide +kernel, by decide +kernel⟩, List.mem_of_getElem? (i := 3987) (by decide +kernel), List.mem_of_getElem? (i := 4306) (by decide +kernel), List.mem_of_getElem? (i := 4307) (by decide +kernel)⟩
theorem lw_p331 : lw_okq (⟨"BoardMillModel$CleanChecksModel", "haveOneNet", "(II)Z"⟩, 25) := ⟨⟨by decide +kernel, by decide +kernel⟩, List.mem_of_getElem? (i := 3987) (by decide +kernel), List.mem_of_getElem? (i := 4310) (by decide +kernel), List.mem_of_getElem? (i := 4311) (by decide +kernel)⟩
theorem lw_p332 : lw_okq (⟨"BoardMillModel$CleanChecksModel", "placeFromLine", "(JJIJ)I"⟩, 25) := ⟨⟨by decide +kernel, by decide +kernel⟩, List.mem_of_getElem? (i := 3987) (by decide +kernel), List.mem_of_getElem? (i := 4314) (by decide +kernel), List.mem_of_getElem? (i := 4315) (by decide +kernel)⟩
theorem lw_p333 : lw_okq (⟨"BoardMillModel$CleanChecksModel", "pieces", "(I)I"⟩, 25) := ⟨⟨by decide +kernel, by decide +kernel⟩, List.mem_of_getElem? (i := 3987) (by decide +kernel), List.mem_of_getElem? (i := 4318) (by decide +kernel), List.mem_of_getElem? (i := 4319) (by decide +kernel)⟩
theorem lw_p334 : lw_okq (⟨"BoardMillModel$CleanChecksModel", "endOf", "(II)I"⟩, 25) := ⟨⟨by decide +kernel, by decide +kernel⟩, List.mem_of_getElem? (i := 3987) (by decide +kernel), List.mem_of_getElem? (i := 4322) (by decide +kernel), List.mem_of_getElem? (i := 4323) (by decide +kernel)⟩
theorem lw_p335 : lw_okq (⟨"BoardMillModel$CleanChecksModel", "isHeld", "(II)Z"⟩, 25) := ⟨⟨by decide +kernel, by decide +kernel⟩, List.mem_of_getElem? (i := 3987) (by decide +kernel), List.mem_of_getElem? (i := 4340) (by decide +kernel), List.mem_of_getElem? (i := 4341) (by decide +kernel)⟩
def lw_privs_21 : List (MethodName × Nat) := [(⟨"BoardMillModel$DrillArchiveModel", "addTool", "(IJZ)I"⟩, 39), (⟨"BoardMillModel$DrillArchiveModel", "findOrde\x72", "(I)V"⟩, 39), (⟨"BoardMillModel$DrillArchiveModel", "collect", "(I)V"⟩, 39), (⟨"BoardMillModel$DrillArchiveModel", "orderNearest", "()V"⟩, 39), (⟨"BoardMillModel$DrillArchiveModel", "way", "(II)J"⟩, 39), (⟨"BoardMillModel$DrillArchiveModel", "orderExactly", "()V"⟩, 39), (⟨"BoardMillModel$CleanChecksModel", "find", "()V"⟩, 25), (⟨"BoardMillModel$CleanChecksModel", "breaks", "(II)Z"⟩, 25), (⟨"BoardMillModel$CleanChecksModel", "isCoppe\x72", "(I)Z"⟩, 25), (⟨"BoardMillModel$CleanChecksModel", "ruleFo\x72", "(III)I"⟩, 25), (⟨"BoardMillModel$CleanChecksModel", "isRinged", "(IJ)Z"⟩, 25), (⟨"BoardMillModel$CleanChecksModel", "haveOneNet", "(II)Z"⟩, 25), (⟨"BoardMillModel$CleanChecksModel", "placeFromLine", "(JJIJ)I"⟩, 25), (⟨"BoardMillModel$CleanChecksModel", "pieces", "(I)I"⟩, 25), (⟨"BoardMillModel$CleanChecksModel", "endOf", "(II)I"⟩, 25), (⟨"BoardMillModel$CleanChecksModel", "isHeld", "(II)Z"⟩, 25)]
theorem lw_r21 : ∀ q ∈ lw_privs_21, lw_okq q := List.forall_mem_cons.mpr ⟨lw_p320, List.forall_mem_cons.mpr ⟨lw_p321, List.forall_mem_cons.mpr ⟨lw_p322, List.forall_mem_cons.mpr ⟨lw_p323, List.forall_mem_cons.mpr ⟨lw_p324, List.forall_mem_cons.mpr ⟨lw_p325, List.forall_mem_cons.mpr ⟨lw_p326, List.forall_mem_cons.mpr ⟨lw_p327, List.forall_mem_cons.mpr ⟨lw_p328, List.forall_mem_cons.mpr ⟨lw_p329, List.forall_mem_cons.mpr ⟨lw_p330, List.forall_mem_cons.mpr ⟨lw_p331, List.forall_mem_cons.mpr ⟨lw_p332, List.forall_mem_cons.mpr ⟨lw_p333, List.forall_mem_cons.mpr ⟨lw_p334, List.forall_mem_cons.mpr ⟨lw_p335, fun _ h => absurd h List.not_mem_nil⟩⟩⟩⟩⟩⟩⟩⟩⟩⟩⟩⟩⟩⟩⟩⟩
theorem lw_p336 : lw_okq (⟨"BoardMillModel$CleanChecksModel", "isAcute", "(I)Z"⟩, 25) := ⟨⟨by decide +kernel, by decide +kernel⟩, List.mem_of_getElem? (i := 3987) (by decide +kernel), List.mem_of_getElem? (i := 4344) (by decide +kernel), List.mem_of_getElem? (i := 4345) (by decide +kernel)⟩
theorem lw_p337 : lw_okq (⟨"BoardMillModel$CleanChecksModel", "put", "(III)V"⟩, 25) := ⟨⟨by decide +kernel, by decide +kernel⟩, List.mem_of_getElem? (i := 3987) (by decide +kernel), List.mem_of_getElem? (i := 4348) (by decide +kernel), List.mem_of_getElem? (i := 4349) (by decide +kernel)⟩
theorem lw_p338 : lw_okq (⟨"BoardMillModel$CleanChecksModel", "isBehind", "(IIII)Z"⟩, 25) := ⟨⟨by decide +kernel, by decide +kernel⟩, List.mem_of_getElem? (i := 3987) (by decide +kernel), List.mem_of_getElem? (i := 4352) (by decide +kernel), List.mem_of_getElem? (i := 4353) (by decide +kernel)⟩
theorem lw_p339 : lw_okq (⟨"BoardMillModel$CleanChecksModel", "isFo\x72", "(III)Z"⟩, 25) := ⟨⟨by decide +kernel, by decide +kernel⟩, List.mem_of_getElem? (i := 3987) (by decide +kernel), List.mem_of_getElem? (i := 4360) (by decide +kernel), List.mem_of_getElem? (i := 4361) (by decide +kernel)⟩
theorem lw_p340 : lw_okq (⟨"BoardMillModel$CleanChecksModel", "isApart", "(IIJ)Z"⟩, 25) := ⟨⟨by decide +kernel, by decide +kernel⟩, List.mem_of_getElem? (i := 3987) (by decide +kernel), List.mem_of_getElem? (i := 4364) (by decide +kernel), List.mem_of_getElem? (i := 4365) (by decide +kernel)⟩
theorem lw_p341 : lw_okq (⟨"BoardMillModel$CleanChecksModel", "linesCross", "(II)Z"⟩, 25) := ⟨⟨by decide +kernel, by decide +kernel⟩, List.mem_of_getElem? (i := 3987) (by decide +kernel), List.mem_of_getElem? (i := 4368) (by decide +kernel), List.mem_of_getElem? (i := 4369) (by decide +kernel)⟩
theorem lw_p342 : lw_okq (⟨"BoardMillModel$CleanChecksModel", "isWaived", "(I)Z"⟩, 25) := ⟨⟨by decide +kernel, by decide +kernel⟩, List.mem_of_getElem? (i := 3987) (by decide +kernel), List.mem_of_getElem? (i := 4375) (by decide +kernel), List.mem_of_getElem? (i := 4376) (by decide +kernel)⟩
theorem lw_p343 : lw_okq (⟨"BoardMillModel$CopperNetsModel", "countShorts", "()I"⟩, 19) := ⟨⟨by decide +kernel, by decide +kernel⟩, List.mem_of_getElem? (i := 4014) (by decide +kernel), List.mem_of_getElem? (i := 4387) (by decide +kernel), List.mem_of_getElem? (i := 4388) (by decide +kernel)⟩
theorem lw_p344 : lw_okq (⟨"BoardMillModel$CopperNetsModel", "findNets", "()I"⟩, 19) := ⟨⟨by decide +kernel, by decide +kernel⟩, List.mem_of_getElem? (i := 4014) (by decide +kernel), List.mem_of_getElem? (i := 4391) (by decide +kernel), List.mem_of_getElem? (i := 4392) (by decide +kernel)⟩
theorem lw_p345 : lw_okq (⟨"BoardMillModel$CopperNetsModel", "findLabels", "()V"⟩, 19) := ⟨⟨by decide +kernel, by decide +kernel⟩, List.mem_of_getElem? (i := 4014) (by decide +kernel), List.mem_of_getElem? (i := 4395) (by decide +kernel), List.mem_of_getElem? (i := 4396) (by decide +kernel)⟩
theorem lw_p346 : lw_okq (⟨"BoardMillModel$CopperNetsModel", "touch", "(II)Z"⟩, 19) := ⟨⟨by decide +kernel, by decide +kernel⟩, List.mem_of_getElem? (i := 4014) (by decide +kernel), List.mem_of_getElem? (i := 4399) (by decide +kernel), List.mem_of_getElem? (i := 4400) (by decide +kernel)⟩
theorem lw_p347 : lw_okq (⟨"BoardMillModel$CopperNetsModel", "netsOf", "(I)I"⟩, 19) := ⟨⟨by decide +kernel, by decide +kernel⟩, List.mem_of_getElem? (i := 4014) (by decide +kernel), List.mem_of_getElem? (i := 4406) (by decide +kernel), List.mem_of_getElem? (i := 4407) (by decide +kernel)⟩
theorem lw_p348 : lw_okq (⟨"BoardMillModel$CopperNetsModel", "planOf", "(I)I"⟩, 19) := ⟨⟨by decide +kernel, by decide +kernel⟩, List.mem_of_getElem? (i := 4014) (by decide +kernel), List.mem_of_getElem? (i := 4410) (by decide +kernel), List.mem_of_getElem? (i := 4411) (by decide +kernel)⟩
theorem lw_p349 : lw_okq (⟨"BoardMillModel$CopperNetsModel", "countOpens", "(I)I"⟩, 19) := ⟨⟨by decide +kernel, by decide +kernel⟩, List.mem_of_getElem? (i := 4014) (by decide +kernel), List.mem_of_getElem? (i := 4421) (by decide +kernel), List.mem_of_getElem? (i := 4422) (by decide +kernel)⟩
theorem lw_p350 : lw_okq (⟨"BoardMillModel$CopperNetsModel", "nextAirline", "(I)Z"⟩, 19) := ⟨⟨by decide +kernel, by decide +kernel⟩, List.mem_of_getElem? (i := 4014) (by decide +kernel), List.mem_of_getElem? (i := 4425) (by decide +kernel), List.mem_of_getElem? (i := 4426) (by decide +kernel)⟩
theorem lw_p351 : lw_okq (⟨"BoardMillModel$CleanChecksModel", "isViolation", "(I)Z"⟩, 25) := ⟨⟨by decide +kernel, by decide +kernel⟩, List.mem_of_getElem? (i := 3987) (by decide +kernel), List.mem_of_getElem? (i := 4441) (by decide +kernel), List.mem_of_getElem? (i := 4442) (by decide +kernel)⟩
def lw_privs_22 : List (MethodName × Nat) := [(⟨"BoardMillModel$CleanChecksModel", "isAcute", "(I)Z"⟩, 25), (⟨"BoardMillModel$CleanChecksModel", "put", "(III)V"⟩, 25), (⟨"BoardMillModel$CleanChecksModel", "isBehind", "(IIII)Z"⟩, 25), (⟨"BoardMillModel$CleanChecksModel", "isFo\x72", "(III)Z"⟩, 25), (⟨"BoardMillModel$CleanChecksModel", "isApart", "(IIJ)Z"⟩, 25), (⟨"BoardMillModel$CleanChecksModel", "linesCross", "(II)Z"⟩, 25), (⟨"BoardMillModel$CleanChecksModel", "isWaived", "(I)Z"⟩, 25), (⟨"BoardMillModel$CopperNetsModel", "countShorts", "()I"⟩, 19), (⟨"BoardMillModel$CopperNetsModel", "findNets", "()I"⟩, 19), (⟨"BoardMillModel$CopperNetsModel", "findLabels", "()V"⟩, 19), (⟨"BoardMillModel$CopperNetsModel", "touch", "(II)Z"⟩, 19), (⟨"BoardMillModel$CopperNetsModel", "netsOf", "(I)I"⟩, 19), (⟨"BoardMillModel$CopperNetsModel", "planOf", "(I)I"⟩, 19), (⟨"BoardMillModel$CopperNetsModel", "countOpens", "(I)I"⟩, 19), (⟨"BoardMillModel$CopperNetsModel", "nextAirline", "(I)Z"⟩, 19), (⟨"BoardMillModel$CleanChecksModel", "isViolation", "(I)Z"⟩, 25)]
theorem lw_r22 : ∀ q ∈ lw_privs_22, lw_okq q := List.forall_mem_cons.mpr ⟨lw_p336, List.forall_mem_cons.mpr ⟨lw_p337, List.forall_mem_cons.mpr ⟨lw_p338, List.forall_mem_cons.mpr ⟨lw_p339, List.forall_mem_cons.mpr ⟨lw_p340, List.forall_mem_cons.mpr ⟨lw_p341, List.forall_mem_cons.mpr ⟨lw_p342, List.forall_mem_cons.mpr ⟨lw_p343, List.forall_mem_cons.mpr ⟨lw_p344, List.forall_mem_cons.mpr ⟨lw_p345, List.forall_mem_cons.mpr ⟨lw_p346, List.forall_mem_cons.mpr ⟨lw_p347, List.forall_mem_cons.mpr ⟨lw_p348, List.forall_mem_cons.mpr ⟨lw_p349, List.forall_mem_cons.mpr ⟨lw_p350, List.forall_mem_cons.mpr ⟨lw_p351, fun _ h => absurd h List.not_mem_nil⟩⟩⟩⟩⟩⟩⟩⟩⟩⟩⟩⟩⟩⟩⟩⟩
theorem lw_p352 : lw_okq (⟨"BoardMillModel$CopperNetsModel", "isPiece", "(I)Z"⟩, 19) := ⟨⟨by decide +kernel, by decide +kernel⟩, List.mem_of_getElem? (i := 4014) (by decide +kernel), List.mem_of_getElem? (i := 4453) (by decide +kernel), List.mem_of_getElem? (i := 4454) (by decide +kernel)⟩
theorem lw_p353 : lw_okq (⟨"BoardMillModel$CopperNetsModel", "findAirline", "(II)Z"⟩, 19) := ⟨⟨by decide +kernel, by decide +kernel⟩, List.mem_of_getElem? (i := 4014) (by decide +kernel), List.mem_of_getElem? (i := 4469) (by decide +kernel), List.mem_of_getElem? (i := 4470) (by decide +kernel)⟩
theorem lw_p354 : lw_okq (⟨"BoardMillModel", "sayDrill", "(I)V"⟩, 51) := ⟨⟨by decide +kernel, by decide +kernel⟩, List.mem_of_getElem? (i := 2305) (by decide +kernel), List.mem_of_getElem? (i := 4485) (by decide +kernel), List.mem_of_getElem? (i := 4486) (by decide +kernel)⟩
theorem lw_p355 : lw_okq (⟨"BoardMillModel", "say", "(I)V"⟩, 51) := ⟨⟨by decide +kernel, by decide +kernel⟩, List.mem_of_getElem? (i := 2305) (by decide +kernel), List.mem_of_getElem? (i := 4489) (by decide +kernel), List.mem_of_getElem? (i := 4490) (by decide +kernel)⟩
theorem lw_p356 : lw_okq (⟨"BoardMillModel", "sayNumbe\x72", "(I)V"⟩, 51) := ⟨⟨by decide +kernel, by decide +kernel⟩, List.mem_of_getElem? (i := 2305) (by decide +kernel), List.mem_of_getElem? (i := 4493) (by decide +kernel), List.mem_of_getElem? (i := 4494) (by decide +kernel)⟩
theorem lw_p357 : lw_okq (⟨"BoardMillModel", "sayTool", "()V"⟩, 51) := ⟨⟨by decide +kernel, by decide +kernel⟩, List.mem_of_getElem? (i := 2305) (by decide +kernel), List.mem_of_getElem? (i := 4497) (by decide +kernel), List.mem_of_getElem? (i := 4498) (by decide +kernel)⟩
theorem lw_p358 : lw_okq (⟨"BoardMillModel$DrillArchiveModel", "readLine", "()V"⟩, 39) := ⟨⟨by decide +kernel, by decide +kernel⟩, List.mem_of_getElem? (i := 2413) (by decide +kernel), List.mem_of_getElem? (i := 4518) (by decide +kernel), List.mem_of_getElem? (i := 4519) (by decide +kernel)⟩
theorem lw_p359 : lw_okq (⟨"BoardMillModel$DrillArchiveModel", "expect", "(I)V"⟩, 39) := ⟨⟨by decide +kernel, by decide +kernel⟩, List.mem_of_getElem? (i := 2413) (by decide +kernel), List.mem_of_getElem? (i := 4522) (by decide +kernel), List.mem_of_getElem? (i := 4523) (by decide +kernel)⟩
theorem lw_p360 : lw_okq (⟨"BoardMillModel$DrillArchiveModel", "now", "()I"⟩, 39) := ⟨⟨by decide +kernel, by decide +kernel⟩, List.mem_of_getElem? (i := 2413) (by decide +kernel), List.mem_of_getElem? (i := 4526) (by decide +kernel), List.mem_of_getElem? (i := 4527) (by decide +kernel)⟩
theorem lw_p361 : lw_okq (⟨"BoardMillModel$DrillArchiveModel", "endLine", "()Z"⟩, 39) := ⟨⟨by decide +kernel, by decide +kernel⟩, List.mem_of_getElem? (i := 2413) (by decide +kernel), List.mem_of_getElem? (i := 4530) (by decide +kernel), List.mem_of_getElem? (i := 4531) (by decide +kernel)⟩
theorem lw_p362 : lw_okq (⟨"BoardMillModel$DrillArchiveModel", "readFirst", "()V"⟩, 39) := ⟨⟨by decide +kernel, by decide +kernel⟩, List.mem_of_getElem? (i := 2413) (by decide +kernel), List.mem_of_getElem? (i := 4534) (by decide +kernel), List.mem_of_getElem? (i := 4535) (by decide +kernel)⟩
theorem lw_p363 : lw_okq (⟨"BoardMillModel$DrillArchiveModel", "readLayers", "()V"⟩, 39) := ⟨⟨by decide +kernel, by decide +kernel⟩, List.mem_of_getElem? (i := 2413) (by decide +kernel), List.mem_of_getElem? (i := 4538) (by decide +kernel), List.mem_of_getElem? (i := 4539) (by decide +kernel)⟩
theorem lw_p364 : lw_okq (⟨"BoardMillModel$DrillArchiveModel", "whole", "()J"⟩, 39) := ⟨⟨by decide +kernel, by decide +kernel⟩, List.mem_of_getElem? (i := 2413) (by decide +kernel), List.mem_of_getElem? (i := 4542) (by decide +kernel), List.mem_of_getElem? (i := 4543) (by decide +kernel)⟩
theorem lw_p365 : lw_okq (⟨"BoardMillModel$DrillArchiveModel", "isDigit", "()Z"⟩, 39) := ⟨⟨by decide +kernel, by decide +kernel⟩, List.mem_of_getElem? (i := 2413) (by decide +kernel), List.mem_of_getElem? (i := 4546) (by decide +kernel), List.mem_of_getElem? (i := 4547) (by decide +kernel)⟩
theorem lw_p366 : lw_okq (⟨"BoardMillModel$DrillArchiveModel", "must", "(Z)V"⟩, 39) := ⟨⟨by decide +kernel, by decide +kernel⟩, List.mem_of_getElem? (i := 2413) (by decide +kernel), List.mem_of_getElem? (i := 4552) (by decide +kernel), List.mem_of_getElem? (i := 4553) (by decide +kernel)⟩
theorem lw_p367 : lw_okq (⟨"BoardMillModel$DrillArchiveModel", "readTool", "()V"⟩, 39) := ⟨⟨by decide +kernel, by decide +kernel⟩, List.mem_of_getElem? (i := 2413) (by decide +kernel), List.mem_of_getElem? (i := 4556) (by decide +kernel), List.mem_of_getElem? (i := 4557) (by decide +kernel)⟩
def lw_privs_23 : List (MethodName × Nat) := [(⟨"BoardMillModel$CopperNetsModel", "isPiece", "(I)Z"⟩, 19), (⟨"BoardMillModel$CopperNetsModel", "findAirline", "(II)Z"⟩, 19), (⟨"BoardMillModel", "sayDrill", "(I)V"⟩, 51), (⟨"BoardMillModel", "say", "(I)V"⟩, 51), (⟨"BoardMillModel", "sayNumbe\x72", "(I)V"⟩, 51), (⟨"BoardMillModel", "sayTool", "()V"⟩, 51), (⟨"BoardMillModel$DrillArchiveModel", "readLine", "()V"⟩, 39), (⟨"BoardMillModel$DrillArchiveModel", "expect", "(I)V"⟩, 39), (⟨"BoardMillModel$DrillArchiveModel", "now", "()I"⟩, 39), (⟨"BoardMillModel$DrillArchiveModel", "endLine", "()Z"⟩, 39), (⟨"BoardMillModel$DrillArchiveModel", "readFirst", "()V"⟩, 39), (⟨"BoardMillModel$DrillArchiveModel", "readLayers", "()V"⟩, 39), (⟨"BoardMillModel$DrillArchiveModel", "whole", "()J"⟩, 39), (⟨"BoardMillModel$DrillArchiveModel", "isDigit", "()Z"⟩, 39), (⟨"BoardMillModel$DrillArchiveModel", "must", "(Z)V"⟩, 39), (⟨"BoardMillModel$DrillArchiveModel", "readTool", "()V"⟩, 39)]
theorem lw_r23 : ∀ q ∈ lw_privs_23, lw_okq q := List.forall_mem_cons.mpr ⟨lw_p352, List.forall_mem_cons.mpr ⟨lw_p353, List.forall_mem_cons.mpr ⟨lw_p354, List.forall_mem_cons.mpr ⟨lw_p355, List.forall_mem_cons.mpr ⟨lw_p356, List.forall_mem_cons.mpr ⟨lw_p357, List.forall_mem_cons.mpr ⟨lw_p358, List.forall_mem_cons.mpr ⟨lw_p359, List.forall_mem_cons.mpr ⟨lw_p360, List.forall_mem_cons.mpr ⟨lw_p361, List.forall_mem_cons.mpr ⟨lw_p362, List.forall_mem_cons.mpr ⟨lw_p363, List.forall_mem_cons.mpr ⟨lw_p364, List.forall_mem_cons.mpr ⟨lw_p365, List.forall_mem_cons.mpr ⟨lw_p366, List.forall_mem_cons.mpr ⟨lw_p367, fun _ h => absurd h List.not_mem_nil⟩⟩⟩⟩⟩⟩⟩⟩⟩⟩⟩⟩⟩⟩⟩⟩
theorem lw_p368 : lw_okq (⟨"BoardMillModel$DrillArchiveModel", "readSecond", "()V"⟩, 39) := ⟨⟨by decide +kernel, by decide +kernel⟩, List.mem_of_getElem? (i := 2413) (by decide +kernel), List.mem_of_getElem? (i := 4560) (by decide +kernel), List.mem_of_getElem? (i := 4561) (by decide +kernel)⟩
theorem lw_p369 : lw_okq (⟨"BoardMillModel$DrillArchiveModel", "readHit", "()V"⟩, 39) := ⟨⟨by decide +kernel, by decide +kernel⟩, List.mem_of_getElem? (i := 2413) (by decide +kernel), List.mem_of_getElem? (i := 4564) (by decide +kernel), List.mem_of_getElem? (i := 4565) (by decide +kernel)⟩
theorem lw_p370 : lw_okq (⟨"BoardMillModel$DrillArchiveModel", "numbe\x72", "()J"⟩, 39) := ⟨⟨by decide +kernel, by decide +kernel⟩, List.mem_of_getElem? (i := 2413) (by decide +kernel), List.mem_of_getElem? (i := 4568) (by decide +kernel), List.mem_of_getElem? (i := 4569) (by decide +kernel)⟩
theorem lw_p371 : lw_okq (⟨"BoardMillModel$BoardScriptModel", "peek", "()I"⟩, 67) := ⟨⟨by decide +kernel, by decide +kernel⟩, List.mem_of_getElem? (i := 2533) (by decide +kernel), List.mem_of_getElem? (i := 4588) (by decide +kernel), List.mem_of_getElem? (i := 4589) (by decide +kernel)⟩
theorem lw_p372 : lw_okq (⟨"BoardMillModel$BoardScriptModel", "isEndHere", "()Z"⟩, 67) := ⟨⟨by decide +kernel, by decide +kernel⟩, List.mem_of_getElem? (i := 2533) (by decide +kernel), List.mem_of_getElem? (i := 4592) (by decide +kernel), List.mem_of_getElem? (i := 4593) (by decide +kernel)⟩
theorem lw_p373 : lw_okq (⟨"BoardMillModel$BoardScriptModel", "close", "()V"⟩, 67) := ⟨⟨by decide +kernel, by decide +kernel⟩, List.mem_of_getElem? (i := 2533) (by decide +kernel), List.mem_of_getElem? (i := 4596) (by decide +kernel), List.mem_of_getElem? (i := 4597) (by decide +kernel)⟩
theorem lw_p374 : lw_okq (⟨"BoardMillModel$BoardScriptModel", "orde\x72", "(II)I"⟩, 67) := ⟨⟨by decide +kernel, by decide +kernel⟩, List.mem_of_getElem? (i := 2533) (by decide +kernel), List.mem_of_getElem? (i := 4600) (by decide +kernel), List.mem_of_getElem? (i := 4601) (by decide +kernel)⟩
theorem lw_p375 : lw_okq (⟨"BoardMillModel$BoardScriptModel", "aim", "(I)V"⟩, 67) := ⟨⟨by decide +kernel, by decide +kernel⟩, List.mem_of_getElem? (i := 2533) (by decide +kernel), List.mem_of_getElem? (i := 4604) (by decide +kernel), List.mem_of_getElem? (i := 4605) (by decide +kernel)⟩
theorem lw_p376 : lw_okq (⟨"BoardMillModel$BoardScriptModel", "open", "(III)V"⟩, 67) := ⟨⟨by decide +kernel, by decide +kernel⟩, List.mem_of_getElem? (i := 2533) (by decide +kernel), List.mem_of_getElem? (i := 4608) (by decide +kernel), List.mem_of_getElem? (i := 4609) (by decide +kernel)⟩
theorem lw_p377 : lw_okq (⟨"BoardMillModel$BoardScriptModel", "readStatement", "()V"⟩, 67) := ⟨⟨by decide +kernel, by decide +kernel⟩, List.mem_of_getElem? (i := 2533) (by decide +kernel), List.mem_of_getElem? (i := 4612) (by decide +kernel), List.mem_of_getElem? (i := 4613) (by decide +kernel)⟩
theorem lw_p378 : lw_okq (⟨"BoardMillModel$BoardScriptModel", "readSet", "(I)V"⟩, 67) := ⟨⟨by decide +kernel, by decide +kernel⟩, List.mem_of_getElem? (i := 2533) (by decide +kernel), List.mem_of_getElem? (i := 4619) (by decide +kernel), List.mem_of_getElem? (i := 4620) (by decide +kernel)⟩
theorem lw_p379 : lw_okq (⟨"BoardMillModel$BoardScriptModel", "readCodes", "(Z)I"⟩, 67) := ⟨⟨by decide +kernel, by decide +kernel⟩, List.mem_of_getElem? (i := 2533) (by decide +kernel), List.mem_of_getElem? (i := 4623) (by decide +kernel), List.mem_of_getElem? (i := 4624) (by decide +kernel)⟩
theorem lw_p380 : lw_okq (⟨"BoardMillModel$BoardScriptModel", "nest", "(I)V"⟩, 67) := ⟨⟨by decide +kernel, by decide +kernel⟩, List.mem_of_getElem? (i := 2533) (by decide +kernel), List.mem_of_getElem? (i := 4630) (by decide +kernel), List.mem_of_getElem? (i := 4631) (by decide +kernel)⟩
theorem lw_p381 : lw_okq (⟨"BoardMillModel$BoardScriptModel", "readPlain", "()V"⟩, 67) := ⟨⟨by decide +kernel, by decide +kernel⟩, List.mem_of_getElem? (i := 2533) (by decide +kernel), List.mem_of_getElem? (i := 4634) (by decide +kernel), List.mem_of_getElem? (i := 4635) (by decide +kernel)⟩
theorem lw_p382 : lw_okq (⟨"BoardMillModel$BoardScriptModel", "code", "(II)V"⟩, 67) := ⟨⟨by decide +kernel, by decide +kernel⟩, List.mem_of_getElem? (i := 2533) (by decide +kernel), List.mem_of_getElem? (i := 4641) (by decide +kernel), List.mem_of_getElem? (i := 4642) (by decide +kernel)⟩
theorem lw_p383 : lw_okq (⟨"BoardMillModel$BoardScriptModel", "complete", "()V"⟩, 67) := ⟨⟨by decide +kernel, by decide +kernel⟩, List.mem_of_getElem? (i := 2533) (by decide +kernel), List.mem_of_getElem? (i := 4645) (by decide +kernel), List.mem_of_getElem? (i := 4646) (by decide +kernel)⟩
def lw_privs_24 : List (MethodName × Nat) := [(⟨"BoardMillModel$DrillArchiveModel", "readSecond", "()V"⟩, 39), (⟨"BoardMillModel$DrillArchiveModel", "readHit", "()V"⟩, 39), (⟨"BoardMillModel$DrillArchiveModel", "numbe\x72", "()J"⟩, 39), (⟨"BoardMillModel$BoardScriptModel", "peek", "()I"⟩, 67), (⟨"BoardMillModel$BoardScriptModel", "isEndHere", "()Z"⟩, 67), (⟨"BoardMillModel$BoardScriptModel", "close", "()V"⟩, 67), (⟨"BoardMillModel$BoardScriptModel", "orde\x72", "(II)I"⟩, 67), (⟨"BoardMillModel$BoardScriptModel", "aim", "(I)V"⟩, 67), (⟨"BoardMillModel$BoardScriptModel", "open", "(III)V"⟩, 67), (⟨"BoardMillModel$BoardScriptModel", "readStatement", "()V"⟩, 67), (⟨"BoardMillModel$BoardScriptModel", "readSet", "(I)V"⟩, 67), (⟨"BoardMillModel$BoardScriptModel", "readCodes", "(Z)I"⟩, 67), (⟨"BoardMillModel$BoardScriptModel", "nest", "(I)V"⟩, 67), (⟨"BoardMillModel$BoardScriptModel", "readPlain", "()V"⟩, 67), (⟨"BoardMillModel$BoardScriptModel", "code", "(II)V"⟩, 67), (⟨"BoardMillModel$BoardScriptModel", "complete", "()V"⟩, 67)]
theorem lw_r24 : ∀ q ∈ lw_privs_24, lw_okq q := List.forall_mem_cons.mpr ⟨lw_p368, List.forall_mem_cons.mpr ⟨lw_p369, List.forall_mem_cons.mpr ⟨lw_p370, List.forall_mem_cons.mpr ⟨lw_p371, List.forall_mem_cons.mpr ⟨lw_p372, List.forall_mem_cons.mpr ⟨lw_p373, List.forall_mem_cons.mpr ⟨lw_p374, List.forall_mem_cons.mpr ⟨lw_p375, List.forall_mem_cons.mpr ⟨lw_p376, List.forall_mem_cons.mpr ⟨lw_p377, List.forall_mem_cons.mpr ⟨lw_p378, List.forall_mem_cons.mpr ⟨lw_p379, List.forall_mem_cons.mpr ⟨lw_p380, List.forall_mem_cons.mpr ⟨lw_p381, List.forall_mem_cons.mpr ⟨lw_p382, List.forall_mem_cons.mpr ⟨lw_p383, fun _ h => absurd h List.not_mem_nil⟩⟩⟩⟩⟩⟩⟩⟩⟩⟩⟩⟩⟩⟩⟩⟩
theorem lw_p384 : lw_okq (⟨"BoardMillModel$BoardScriptModel", "expect", "(I)V"⟩, 67) := ⟨⟨by decide +kernel, by decide +kernel⟩, List.mem_of_getElem? (i := 2533) (by decide +kernel), List.mem_of_getElem? (i := 4649) (by decide +kernel), List.mem_of_getElem? (i := 4650) (by decide +kernel)⟩
theorem lw_p385 : lw_okq (⟨"BoardMillModel$BoardScriptModel", "hasCompare", "()Z"⟩, 67) := ⟨⟨by decide +kernel, by decide +kernel⟩, List.mem_of_getElem? (i := 2533) (by decide +kernel), List.mem_of_getElem? (i := 4656) (by decide +kernel), List.mem_of_getElem? (i := 4657) (by decide +kernel)⟩
theorem lw_p386 : lw_okq (⟨"BoardMillModel$BoardScriptModel", "drain", "(I)V"⟩, 67) := ⟨⟨by decide +kernel, by decide +kernel⟩, List.mem_of_getElem? (i := 2533) (by decide +kernel), List.mem_of_getElem? (i := 4660) (by decide +kernel), List.mem_of_getElem? (i := 4661) (by decide +kernel)⟩
theorem lw_p387 : lw_okq (⟨"BoardMillModel$BoardScriptModel", "hasParen", "()Z"⟩, 67) := ⟨⟨by decide +kernel, by decide +kernel⟩, List.mem_of_getElem? (i := 2533) (by decide +kernel), List.mem_of_getElem? (i := 4664) (by decide +kernel), List.mem_of_getElem? (i := 4665) (by decide +kernel)⟩
theorem lw_p388 : lw_okq (⟨"BoardMillModel$BoardScriptModel", "readSimple", "(II)I"⟩, 67) := ⟨⟨by decide +kernel, by decide +kernel⟩, List.mem_of_getElem? (i := 2533) (by decide +kernel), List.mem_of_getElem? (i := 4671) (by decide +kernel), List.mem_of_getElem? (i := 4672) (by decide +kernel)⟩
theorem lw_p389 : lw_okq (⟨"BoardMillModel$BoardScriptModel", "readBlockWith", "(III)V"⟩, 67) := ⟨⟨by decide +kernel, by decide +kernel⟩, List.mem_of_getElem? (i := 2533) (by decide +kernel), List.mem_of_getElem? (i := 4675) (by decide +kernel), List.mem_of_getElem? (i := 4676) (by decide +kernel)⟩
theorem lw_p390 : lw_okq (⟨"BoardMillModel$BoardScriptModel", "readFunction", "(I)V"⟩, 67) := ⟨⟨by decide +kernel, by decide +kernel⟩, List.mem_of_getElem? (i := 2533) (by decide +kernel), List.mem_of_getElem? (i := 4679) (by decide +kernel), List.mem_of_getElem? (i := 4680) (by decide +kernel)⟩
theorem lw_p391 : lw_okq (⟨"BoardMillModel$BoardScriptModel", "addObject", "(J)I"⟩, 67) := ⟨⟨by decide +kernel, by decide +kernel⟩, List.mem_of_getElem? (i := 2533) (by decide +kernel), List.mem_of_getElem? (i := 4694) (by decide +kernel), List.mem_of_getElem? (i := 4695) (by decide +kernel)⟩
theorem lw_p392 : lw_okq (⟨"BoardMillModel", "fact", "(II)J"⟩, 51) := ⟨⟨by decide +kernel, by decide +kernel⟩, List.mem_of_getElem? (i := 2305) (by decide +kernel), List.mem_of_getElem? (i := 4698) (by decide +kernel), List.mem_of_getElem? (i := 4699) (by decide +kernel)⟩
theorem lw_p393 : lw_okq (⟨"BoardMillModel", "padsOf", "(I)I"⟩, 51) := ⟨⟨by decide +kernel, by decide +kernel⟩, List.mem_of_getElem? (i := 2305) (by decide +kernel), List.mem_of_getElem? (i := 4702) (by decide +kernel), List.mem_of_getElem? (i := 4703) (by decide +kernel)⟩
theorem lw_p394 : lw_okq (⟨"BoardMillModel$BoardScriptModel", "isField", "(II)Z"⟩, 67) := ⟨⟨by decide +kernel, by decide +kernel⟩, List.mem_of_getElem? (i := 2533) (by decide +kernel), List.mem_of_getElem? (i := 4714) (by decide +kernel), List.mem_of_getElem? (i := 4715) (by decide +kernel)⟩
theorem lw_p395 : lw_okq (⟨"BoardMillModel$BoardScriptModel", "isObject", "(J)Z"⟩, 67) := ⟨⟨by decide +kernel, by decide +kernel⟩, List.mem_of_getElem? (i := 2533) (by decide +kernel), List.mem_of_getElem? (i := 4718) (by decide +kernel), List.mem_of_getElem? (i := 4719) (by decide +kernel)⟩
theorem lw_p396 : lw_okq (⟨"BoardMillModel$BoardScriptModel", "walk", "()V"⟩, 67) := ⟨⟨by decide +kernel, by decide +kernel⟩, List.mem_of_getElem? (i := 2533) (by decide +kernel), List.mem_of_getElem? (i := 4731) (by decide +kernel), List.mem_of_getElem? (i := 4732) (by decide +kernel)⟩
theorem lw_p397 : lw_okq (⟨"BoardMillModel$BoardScriptModel", "endAct", "(I)V"⟩, 67) := ⟨⟨by decide +kernel, by decide +kernel⟩, List.mem_of_getElem? (i := 2533) (by decide +kernel), List.mem_of_getElem? (i := 4735) (by decide +kernel), List.mem_of_getElem? (i := 4736) (by decide +kernel)⟩
theorem lw_p398 : lw_okq (⟨"BoardMillModel$BoardScriptModel", "raise", "(III)V"⟩, 67) := ⟨⟨by decide +kernel, by decide +kernel⟩, List.mem_of_getElem? (i := 2533) (by decide +kernel), List.mem_of_getElem? (i := 4739) (by decide +kernel), List.mem_of_getElem? (i := 4740) (by decide +kernel)⟩
theorem lw_p399 : lw_okq (⟨"BoardMillModel$BoardScriptModel", "putBack", "(I)V"⟩, 67) := ⟨⟨by decide +kernel, by decide +kernel⟩, List.mem_of_getElem? (i := 2533) (by decide +kernel), List.mem_of_getElem? (i := 4743) (by decide +kernel), List.mem_of_getElem? (i := 4744) (by decide +kernel)⟩
def lw_privs_25 : List (MethodName × Nat) := [(⟨"BoardMillModel$BoardScriptModel", "expect", "(I)V"⟩, 67), (⟨"BoardMillModel$BoardScriptModel", "hasCompare", "()Z"⟩, 67), (⟨"BoardMillModel$BoardScriptModel", "drain", "(I)V"⟩, 67), (⟨"BoardMillModel$BoardScriptModel", "hasParen", "()Z"⟩, 67), (⟨"BoardMillModel$BoardScriptModel", "readSimple", "(II)I"⟩, 67), (⟨"BoardMillModel$BoardScriptModel", "readBlockWith", "(III)V"⟩, 67), (⟨"BoardMillModel$BoardScriptModel", "readFunction", "(I)V"⟩, 67), (⟨"BoardMillModel$BoardScriptModel", "addObject", "(J)I"⟩, 67), (⟨"BoardMillModel", "fact", "(II)J"⟩, 51), (⟨"BoardMillModel", "padsOf", "(I)I"⟩, 51), (⟨"BoardMillModel$BoardScriptModel", "isField", "(II)Z"⟩, 67), (⟨"BoardMillModel$BoardScriptModel", "isObject", "(J)Z"⟩, 67), (⟨"BoardMillModel$BoardScriptModel", "walk", "()V"⟩, 67), (⟨"BoardMillModel$BoardScriptModel", "endAct", "(I)V"⟩, 67), (⟨"BoardMillModel$BoardScriptModel", "raise", "(III)V"⟩, 67), (⟨"BoardMillModel$BoardScriptModel", "putBack", "(I)V"⟩, 67)]
theorem lw_r25 : ∀ q ∈ lw_privs_25, lw_okq q := List.forall_mem_cons.mpr ⟨lw_p384, List.forall_mem_cons.mpr ⟨lw_p385, List.forall_mem_cons.mpr ⟨lw_p386, List.forall_mem_cons.mpr ⟨lw_p387, List.forall_mem_cons.mpr ⟨lw_p388, List.forall_mem_cons.mpr ⟨lw_p389, List.forall_mem_cons.mpr ⟨lw_p390, List.forall_mem_cons.mpr ⟨lw_p391, List.forall_mem_cons.mpr ⟨lw_p392, List.forall_mem_cons.mpr ⟨lw_p393, List.forall_mem_cons.mpr ⟨lw_p394, List.forall_mem_cons.mpr ⟨lw_p395, List.forall_mem_cons.mpr ⟨lw_p396, List.forall_mem_cons.mpr ⟨lw_p397, List.forall_mem_cons.mpr ⟨lw_p398, List.forall_mem_cons.mpr ⟨lw_p399, fun _ h => absurd h List.not_mem_nil⟩⟩⟩⟩⟩⟩⟩⟩⟩⟩⟩⟩⟩⟩⟩⟩
theorem lw_p400 : lw_okq (⟨"BoardMillModel$BoardScriptModel", "beginClosing", "(I)V"⟩, 67) := ⟨⟨by decide +kernel, by decide +kernel⟩, List.mem_of_getElem? (i := 2533) (by decide +kernel), List.mem_of_getElem? (i := 4747) (by decide +kernel), List.mem_of_getElem? (i := 4748) (by decide +kernel)⟩
theorem lw_p401 : lw_okq (⟨"BoardMillModel$BoardScriptModel", "closeEnd", "()V"⟩, 67) := ⟨⟨by decide +kernel, by decide +kernel⟩, List.mem_of_getElem? (i := 2533) (by decide +kernel), List.mem_of_getElem? (i := 4751) (by decide +kernel), List.mem_of_getElem? (i := 4752) (by decide +kernel)⟩
theorem lw_p402 : lw_okq (⟨"BoardMillModel$BoardScriptModel", "step", "(I)Z"⟩, 67) := ⟨⟨by decide +kernel, by decide +kernel⟩, List.mem_of_getElem? (i := 2533) (by decide +kernel), List.mem_of_getElem? (i := 4755) (by decide +kernel), List.mem_of_getElem? (i := 4756) (by decide +kernel)⟩
theorem lw_p403 : lw_okq (⟨"BoardMillModel$BoardScriptModel", "store", "(II)V"⟩, 67) := ⟨⟨by decide +kernel, by decide +kernel⟩, List.mem_of_getElem? (i := 2533) (by decide +kernel), List.mem_of_getElem? (i := 4759) (by decide +kernel), List.mem_of_getElem? (i := 4760) (by decide +kernel)⟩
theorem lw_p404 : lw_okq (⟨"BoardMillModel$BoardScriptModel", "ask", "(I)Z"⟩, 67) := ⟨⟨by decide +kernel, by decide +kernel⟩, List.mem_of_getElem? (i := 2533) (by decide +kernel), List.mem_of_getElem? (i := 4763) (by decide +kernel), List.mem_of_getElem? (i := 4764) (by decide +kernel)⟩
theorem lw_p405 : lw_okq (⟨"BoardMillModel$BoardScriptModel", "handle", "(II)V"⟩, 67) := ⟨⟨by decide +kernel, by decide +kernel⟩, List.mem_of_getElem? (i := 2533) (by decide +kernel), List.mem_of_getElem? (i := 4770) (by decide +kernel), List.mem_of_getElem? (i := 4771) (by decide +kernel)⟩
theorem lw_p406 : lw_okq (⟨"BoardMillModel$BoardScriptModel", "call", "(I)V"⟩, 67) := ⟨⟨by decide +kernel, by decide +kernel⟩, List.mem_of_getElem? (i := 2533) (by decide +kernel), List.mem_of_getElem? (i := 4774) (by decide +kernel), List.mem_of_getElem? (i := 4775) (by decide +kernel)⟩
theorem lw_p407 : lw_okq (⟨"BoardMillModel$BoardScriptModel", "act", "(II)V"⟩, 67) := ⟨⟨by decide +kernel, by decide +kernel⟩, List.mem_of_getElem? (i := 2533) (by decide +kernel), List.mem_of_getElem? (i := 4778) (by decide +kernel), List.mem_of_getElem? (i := 4779) (by decide +kernel)⟩
theorem lw_p408 : lw_okq (⟨"BoardMillModel$BoardScriptModel", "askObjects", "(I)V"⟩, 67) := ⟨⟨by decide +kernel, by decide +kernel⟩, List.mem_of_getElem? (i := 2533) (by decide +kernel), List.mem_of_getElem? (i := 4782) (by decide +kernel), List.mem_of_getElem? (i := 4783) (by decide +kernel)⟩
theorem lw_p409 : lw_okq (⟨"BoardMillModel$BoardScriptModel", "makeList", "(J)Z"⟩, 67) := ⟨⟨by decide +kernel, by decide +kernel⟩, List.mem_of_getElem? (i := 2533) (by decide +kernel), List.mem_of_getElem? (i := 4786) (by decide +kernel), List.mem_of_getElem? (i := 4787) (by decide +kernel)⟩
theorem lw_p410 : lw_okq (⟨"BoardMillModel", "hasRoom", "()Z"⟩, 51) := ⟨⟨by decide +kernel, by decide +kernel⟩, List.mem_of_getElem? (i := 2305) (by decide +kernel), List.mem_of_getElem? (i := 4824) (by decide +kernel), List.mem_of_getElem? (i := 4825) (by decide +kernel)⟩
theorem lw_p411 : lw_okq (⟨"BoardMillModel$BoardStoreModel", "walk", "()V"⟩, 21) := ⟨⟨by decide +kernel, by decide +kernel⟩, List.mem_of_getElem? (i := 2750) (by decide +kernel), List.mem_of_getElem? (i := 4828) (by decide +kernel), List.mem_of_getElem? (i := 4829) (by decide +kernel)⟩
theorem lw_p412 : lw_okq (⟨"BoardMillModel$BoardStoreModel", "sizeOf", "(I)I"⟩, 21) := ⟨⟨by decide +kernel, by decide +kernel⟩, List.mem_of_getElem? (i := 2750) (by decide +kernel), List.mem_of_getElem? (i := 4832) (by decide +kernel), List.mem_of_getElem? (i := 4833) (by decide +kernel)⟩
theorem lw_p413 : lw_okq (⟨"BoardMillModel$BoardStoreModel", "act", "(I)V"⟩, 21) := ⟨⟨by decide +kernel, by decide +kernel⟩, List.mem_of_getElem? (i := 2750) (by decide +kernel), List.mem_of_getElem? (i := 4836) (by decide +kernel), List.mem_of_getElem? (i := 4837) (by decide +kernel)⟩
theorem lw_p414 : lw_okq (⟨"BoardMillModel$BoardStoreModel", "append", "(I)V"⟩, 21) := ⟨⟨by decide +kernel, by decide +kernel⟩, List.mem_of_getElem? (i := 2750) (by decide +kernel), List.mem_of_getElem? (i := 4840) (by decide +kernel), List.mem_of_getElem? (i := 4841) (by decide +kernel)⟩
theorem lw_p415 : lw_okq (⟨"BoardMillModel$BoardStoreModel", "sweepAll", "()V"⟩, 21) := ⟨⟨by decide +kernel, by decide +kernel⟩, List.mem_of_getElem? (i := 2750) (by decide +kernel), List.mem_of_getElem? (i := 4844) (by decide +kernel), List.mem_of_getElem? (i := 4845) (by decide +kernel)⟩
def lw_privs_26 : List (MethodName × Nat) := [(⟨"BoardMillModel$BoardScriptModel", "beginClosing", "(I)V"⟩, 67), (⟨"BoardMillModel$BoardScriptModel", "closeEnd", "()V"⟩, 67), (⟨"BoardMillModel$BoardScriptModel", "step", "(I)Z"⟩, 67), (⟨"BoardMillModel$BoardScriptModel", "store", "(II)V"⟩, 67), (⟨"BoardMillModel$BoardScriptModel", "ask", "(I)Z"⟩, 67), (⟨"BoardMillModel$BoardScriptModel", "handle", "(II)V"⟩, 67), (⟨"BoardMillModel$BoardScriptModel", "call", "(I)V"⟩, 67), (⟨"BoardMillModel$BoardScriptModel", "act", "(II)V"⟩, 67), (⟨"BoardMillModel$BoardScriptModel", "askObjects", "(I)V"⟩, 67), (⟨"BoardMillModel$BoardScriptModel", "makeList", "(J)Z"⟩, 67), (⟨"BoardMillModel", "hasRoom", "()Z"⟩, 51), (⟨"BoardMillModel$BoardStoreModel", "walk", "()V"⟩, 21), (⟨"BoardMillModel$BoardStoreModel", "sizeOf", "(I)I"⟩, 21), (⟨"BoardMillModel$BoardStoreModel", "act", "(I)V"⟩, 21), (⟨"BoardMillModel$BoardStoreModel", "append", "(I)V"⟩, 21), (⟨"BoardMillModel$BoardStoreModel", "sweepAll", "()V"⟩, 21)]
theorem lw_r26 : ∀ q ∈ lw_privs_26, lw_okq q := List.forall_mem_cons.mpr ⟨lw_p400, List.forall_mem_cons.mpr ⟨lw_p401, List.forall_mem_cons.mpr ⟨lw_p402, List.forall_mem_cons.mpr ⟨lw_p403, List.forall_mem_cons.mpr ⟨lw_p404, List.forall_mem_cons.mpr ⟨lw_p405, List.forall_mem_cons.mpr ⟨lw_p406, List.forall_mem_cons.mpr ⟨lw_p407, List.forall_mem_cons.mpr ⟨lw_p408, List.forall_mem_cons.mpr ⟨lw_p409, List.forall_mem_cons.mpr ⟨lw_p410, List.forall_mem_cons.mpr ⟨lw_p411, List.forall_mem_cons.mpr ⟨lw_p412, List.forall_mem_cons.mpr ⟨lw_p413, List.forall_mem_cons.mpr ⟨lw_p414, List.forall_mem_cons.mpr ⟨lw_p415, fun _ h => absurd h List.not_mem_nil⟩⟩⟩⟩⟩⟩⟩⟩⟩⟩⟩⟩⟩⟩⟩⟩
theorem lw_p416 : lw_okq (⟨"BoardMillModel$BoardStoreModel", "isHeld", "(I)Z"⟩, 21) := ⟨⟨by decide +kernel, by decide +kernel⟩, List.mem_of_getElem? (i := 2750) (by decide +kernel), List.mem_of_getElem? (i := 4848) (by decide +kernel), List.mem_of_getElem? (i := 4849) (by decide +kernel)⟩
theorem lw_p417 : lw_okq (⟨"BoardMillModel", "feedNet", "(I)V"⟩, 51) := ⟨⟨by decide +kernel, by decide +kernel⟩, List.mem_of_getElem? (i := 2305) (by decide +kernel), List.mem_of_getElem? (i := 4852) (by decide +kernel), List.mem_of_getElem? (i := 4853) (by decide +kernel)⟩
theorem lw_p418 : lw_okq (⟨"BoardMillModel$BoardStoreModel", "isFood", "(I)Z"⟩, 21) := ⟨⟨by decide +kernel, by decide +kernel⟩, List.mem_of_getElem? (i := 2750) (by decide +kernel), List.mem_of_getElem? (i := 4856) (by decide +kernel), List.mem_of_getElem? (i := 4857) (by decide +kernel)⟩
theorem lw_p419 : lw_okq (⟨"BoardMillModel$BoardStoreModel", "isReady", "(I)Z"⟩, 21) := ⟨⟨by decide +kernel, by decide +kernel⟩, List.mem_of_getElem? (i := 2750) (by decide +kernel), List.mem_of_getElem? (i := 4864) (by decide +kernel), List.mem_of_getElem? (i := 4865) (by decide +kernel)⟩
theorem lw_p420 : lw_okq (⟨"BoardMillModel$BoardStoreModel", "write", "(I)V"⟩, 21) := ⟨⟨by decide +kernel, by decide +kernel⟩, List.mem_of_getElem? (i := 2750) (by decide +kernel), List.mem_of_getElem? (i := 4870) (by decide +kernel), List.mem_of_getElem? (i := 4871) (by decide +kernel)⟩
theorem lw_p421 : lw_okq (⟨"BoardMillModel$BoardStoreModel", "isVersion", "(I)Z"⟩, 21) := ⟨⟨by decide +kernel, by decide +kernel⟩, List.mem_of_getElem? (i := 2750) (by decide +kernel), List.mem_of_getElem? (i := 4882) (by decide +kernel), List.mem_of_getElem? (i := 4883) (by decide +kernel)⟩
theorem lw_p422 : lw_okq (⟨"BoardMillModel", "isDue", "()Z"⟩, 51) := ⟨⟨by decide +kernel, by decide +kernel⟩, List.mem_of_getElem? (i := 2305) (by decide +kernel), List.mem_of_getElem? (i := 4941) (by decide +kernel), List.mem_of_getElem? (i := 4942) (by decide +kernel)⟩
theorem lw_p423 : lw_okq (⟨"BoardMillModel$ReleaseLeavesModel", "fileWith", "(II)I"⟩, 32) := ⟨⟨by decide +kernel, by decide +kernel⟩, List.mem_of_getElem? (i := 2828) (by decide +kernel), List.mem_of_getElem? (i := 4951) (by decide +kernel), List.mem_of_getElem? (i := 4952) (by decide +kernel)⟩
theorem lw_p424 : lw_okq (⟨"BoardMillModel$ReleaseLeavesModel", "nextFile", "(I)I"⟩, 32) := ⟨⟨by decide +kernel, by decide +kernel⟩, List.mem_of_getElem? (i := 2828) (by decide +kernel), List.mem_of_getElem? (i := 4966) (by decide +kernel), List.mem_of_getElem? (i := 4967) (by decide +kernel)⟩
theorem lw_p425 : lw_okq (⟨"BoardMillModel$ReleaseLeavesModel", "digestLeaf", "(I)V"⟩, 32) := ⟨⟨by decide +kernel, by decide +kernel⟩, List.mem_of_getElem? (i := 2828) (by decide +kernel), List.mem_of_getElem? (i := 4970) (by decide +kernel), List.mem_of_getElem? (i := 4971) (by decide +kernel)⟩
theorem lw_p426 : lw_okq (⟨"BoardMillModel$ReleaseLeavesModel", "put", "(I)V"⟩, 32) := ⟨⟨by decide +kernel, by decide +kernel⟩, List.mem_of_getElem? (i := 2828) (by decide +kernel), List.mem_of_getElem? (i := 4974) (by decide +kernel), List.mem_of_getElem? (i := 4975) (by decide +kernel)⟩
theorem lw_p427 : lw_okq (⟨"BoardMillModel$ReleaseLeavesModel", "digestInput", "()V"⟩, 32) := ⟨⟨by decide +kernel, by decide +kernel⟩, List.mem_of_getElem? (i := 2828) (by decide +kernel), List.mem_of_getElem? (i := 4978) (by decide +kernel), List.mem_of_getElem? (i := 4979) (by decide +kernel)⟩
theorem lw_p428 : lw_okq (⟨"BoardMillModel$ReleaseLeavesModel", "block", "(I)V"⟩, 32) := ⟨⟨by decide +kernel, by decide +kernel⟩, List.mem_of_getElem? (i := 2828) (by decide +kernel), List.mem_of_getElem? (i := 4990) (by decide +kernel), List.mem_of_getElem? (i := 4991) (by decide +kernel)⟩
theorem lw_p429 : lw_okq (⟨"BoardMillModel$ReleaseLeavesModel", "layRow", "(I)V"⟩, 32) := ⟨⟨by decide +kernel, by decide +kernel⟩, List.mem_of_getElem? (i := 2828) (by decide +kernel), List.mem_of_getElem? (i := 4997) (by decide +kernel), List.mem_of_getElem? (i := 4998) (by decide +kernel)⟩
theorem lw_p430 : lw_okq (⟨"BoardMillModel$ReleaseLeavesModel", "goUp", "()V"⟩, 32) := ⟨⟨by decide +kernel, by decide +kernel⟩, List.mem_of_getElem? (i := 2828) (by decide +kernel), List.mem_of_getElem? (i := 5001) (by decide +kernel), List.mem_of_getElem? (i := 5002) (by decide +kernel)⟩
theorem lw_p431 : lw_okq (⟨"BoardMillModel$ReleaseLeavesModel", "putDigest", "([II)V"⟩, 32) := ⟨⟨by decide +kernel, by decide +kernel⟩, List.mem_of_getElem? (i := 2828) (by decide +kernel), List.mem_of_getElem? (i := 5005) (by decide +kernel), List.mem_of_getElem? (i := 5006) (by decide +kernel)⟩
def lw_privs_27 : List (MethodName × Nat) := [(⟨"BoardMillModel$BoardStoreModel", "isHeld", "(I)Z"⟩, 21), (⟨"BoardMillModel", "feedNet", "(I)V"⟩, 51), (⟨"BoardMillModel$BoardStoreModel", "isFood", "(I)Z"⟩, 21), (⟨"BoardMillModel$BoardStoreModel", "isReady", "(I)Z"⟩, 21), (⟨"BoardMillModel$BoardStoreModel", "write", "(I)V"⟩, 21), (⟨"BoardMillModel$BoardStoreModel", "isVersion", "(I)Z"⟩, 21), (⟨"BoardMillModel", "isDue", "()Z"⟩, 51), (⟨"BoardMillModel$ReleaseLeavesModel", "fileWith", "(II)I"⟩, 32), (⟨"BoardMillModel$ReleaseLeavesModel", "nextFile", "(I)I"⟩, 32), (⟨"BoardMillModel$ReleaseLeavesModel", "digestLeaf", "(I)V"⟩, 32), (⟨"BoardMillModel$ReleaseLeavesModel", "put", "(I)V"⟩, 32), (⟨"BoardMillModel$ReleaseLeavesModel", "digestInput", "()V"⟩, 32), (⟨"BoardMillModel$ReleaseLeavesModel", "block", "(I)V"⟩, 32), (⟨"BoardMillModel$ReleaseLeavesModel", "layRow", "(I)V"⟩, 32), (⟨"BoardMillModel$ReleaseLeavesModel", "goUp", "()V"⟩, 32), (⟨"BoardMillModel$ReleaseLeavesModel", "putDigest", "([II)V"⟩, 32)]
theorem lw_r27 : ∀ q ∈ lw_privs_27, lw_okq q := List.forall_mem_cons.mpr ⟨lw_p416, List.forall_mem_cons.mpr ⟨lw_p417, List.forall_mem_cons.mpr ⟨lw_p418, List.forall_mem_cons.mpr ⟨lw_p419, List.forall_mem_cons.mpr ⟨lw_p420, List.forall_mem_cons.mpr ⟨lw_p421, List.forall_mem_cons.mpr ⟨lw_p422, List.forall_mem_cons.mpr ⟨lw_p423, List.forall_mem_cons.mpr ⟨lw_p424, List.forall_mem_cons.mpr ⟨lw_p425, List.forall_mem_cons.mpr ⟨lw_p426, List.forall_mem_cons.mpr ⟨lw_p427, List.forall_mem_cons.mpr ⟨lw_p428, List.forall_mem_cons.mpr ⟨lw_p429, List.forall_mem_cons.mpr ⟨lw_p430, List.forall_mem_cons.mpr ⟨lw_p431, fun _ h => absurd h List.not_mem_nil⟩⟩⟩⟩⟩⟩⟩⟩⟩⟩⟩⟩⟩⟩⟩⟩
theorem lw_p432 : lw_okq (⟨"BoardMillModel$ReleaseLeavesModel", "isRelease", "(I)Z"⟩, 32) := ⟨⟨by decide +kernel, by decide +kernel⟩, List.mem_of_getElem? (i := 2828) (by decide +kernel), List.mem_of_getElem? (i := 5017) (by decide +kernel), List.mem_of_getElem? (i := 5018) (by decide +kernel)⟩
theorem lw_p433 : lw_okq (⟨"BoardMillModel$ReleaseLeavesModel", "note", "(IIII)V"⟩, 32) := ⟨⟨by decide +kernel, by decide +kernel⟩, List.mem_of_getElem? (i := 2828) (by decide +kernel), List.mem_of_getElem? (i := 5021) (by decide +kernel), List.mem_of_getElem? (i := 5022) (by decide +kernel)⟩
theorem lw_p434 : lw_okq (⟨"BoardMillModel$ReleaseLeavesModel", "isApproved", "(I)Z"⟩, 32) := ⟨⟨by decide +kernel, by decide +kernel⟩, List.mem_of_getElem? (i := 2828) (by decide +kernel), List.mem_of_getElem? (i := 5025) (by decide +kernel), List.mem_of_getElem? (i := 5026) (by decide +kernel)⟩
theorem lw_p435 : lw_okq (⟨"BoardMillModel$ReleaseLeavesModel", "isLeaf", "(II)Z"⟩, 32) := ⟨⟨by decide +kernel, by decide +kernel⟩, List.mem_of_getElem? (i := 2828) (by decide +kernel), List.mem_of_getElem? (i := 5066) (by decide +kernel), List.mem_of_getElem? (i := 5067) (by decide +kernel)⟩
theorem lw_p436 : lw_okq (⟨"BoardMillModel$ReleaseLeavesModel", "begin", "(I)V"⟩, 32) := ⟨⟨by decide +kernel, by decide +kernel⟩, List.mem_of_getElem? (i := 2828) (by decide +kernel), List.mem_of_getElem? (i := 5070) (by decide +kernel), List.mem_of_getElem? (i := 5071) (by decide +kernel)⟩
theorem lw_p437 : lw_okq (⟨"BoardMillModel$ReleaseLeavesModel", "say", "(I)V"⟩, 32) := ⟨⟨by decide +kernel, by decide +kernel⟩, List.mem_of_getElem? (i := 2828) (by decide +kernel), List.mem_of_getElem? (i := 5077) (by decide +kernel), List.mem_of_getElem? (i := 5078) (by decide +kernel)⟩
theorem lw_p438 : lw_okq (⟨"BoardMillModel$ReleaseLeavesModel", "holds", "()Z"⟩, 32) := ⟨⟨by decide +kernel, by decide +kernel⟩, List.mem_of_getElem? (i := 2828) (by decide +kernel), List.mem_of_getElem? (i := 5102) (by decide +kernel), List.mem_of_getElem? (i := 5103) (by decide +kernel)⟩
def lw_privs_28 : List (MethodName × Nat) := [(⟨"BoardMillModel$ReleaseLeavesModel", "isRelease", "(I)Z"⟩, 32), (⟨"BoardMillModel$ReleaseLeavesModel", "note", "(IIII)V"⟩, 32), (⟨"BoardMillModel$ReleaseLeavesModel", "isApproved", "(I)Z"⟩, 32), (⟨"BoardMillModel$ReleaseLeavesModel", "isLeaf", "(II)Z"⟩, 32), (⟨"BoardMillModel$ReleaseLeavesModel", "begin", "(I)V"⟩, 32), (⟨"BoardMillModel$ReleaseLeavesModel", "say", "(I)V"⟩, 32), (⟨"BoardMillModel$ReleaseLeavesModel", "holds", "()Z"⟩, 32)]
theorem lw_r28 : ∀ q ∈ lw_privs_28, lw_okq q := List.forall_mem_cons.mpr ⟨lw_p432, List.forall_mem_cons.mpr ⟨lw_p433, List.forall_mem_cons.mpr ⟨lw_p434, List.forall_mem_cons.mpr ⟨lw_p435, List.forall_mem_cons.mpr ⟨lw_p436, List.forall_mem_cons.mpr ⟨lw_p437, List.forall_mem_cons.mpr ⟨lw_p438, fun _ h => absurd h List.not_mem_nil⟩⟩⟩⟩⟩⟩⟩
def lw_privs : List (MethodName × Nat) := lw_privs_1 ++ (lw_privs_2 ++ (lw_privs_3 ++ (lw_privs_4 ++ (lw_privs_5 ++ (lw_privs_6 ++ (lw_privs_7 ++ (lw_privs_8 ++ (lw_privs_9 ++ (lw_privs_10 ++ (lw_privs_11 ++ (lw_privs_12 ++ (lw_privs_13 ++ (lw_privs_14 ++ (lw_privs_15 ++ (lw_privs_16 ++ (lw_privs_17 ++ (lw_privs_18 ++ (lw_privs_19 ++ (lw_privs_20 ++ (lw_privs_21 ++ (lw_privs_22 ++ (lw_privs_23 ++ (lw_privs_24 ++ (lw_privs_25 ++ (lw_privs_26 ++ (lw_privs_27 ++ (lw_privs_28)))))))))))))))))))))))))))
def lw_tbl : List Cond := k2_sels lw_privs ++ tables_1
theorem lw_privs_ok : ∀ q ∈ lw_privs, lw_okq q := by
  show ∀ q ∈ lw_privs_1 ++ (lw_privs_2 ++ (lw_privs_3 ++ (lw_privs_4 ++ (lw_privs_5 ++ (lw_privs_6 ++ (lw_privs_7 ++ (lw_privs_8 ++ (lw_privs_9 ++ (lw_privs_10 ++ (lw_privs_11 ++ (lw_privs_12 ++ (lw_privs_13 ++ (lw_privs_14 ++ (lw_privs_15 ++ (lw_privs_16 ++ (lw_privs_17 ++ (lw_privs_18 ++ (lw_privs_19 ++ (lw_privs_20 ++ (lw_privs_21 ++ (lw_privs_22 ++ (lw_privs_23 ++ (lw_privs_24 ++ (lw_privs_25 ++ (lw_privs_26 ++ (lw_privs_27 ++ (lw_privs_28))))))))))))))))))))))))))), lw_okq q
  exact List.forall_mem_append.mpr ⟨lw_r1, List.forall_mem_append.mpr ⟨lw_r2, List.forall_mem_append.mpr ⟨lw_r3, List.forall_mem_append.mpr ⟨lw_r4, List.forall_mem_append.mpr ⟨lw_r5, List.forall_mem_append.mpr ⟨lw_r6, List.forall_mem_append.mpr ⟨lw_r7, List.forall_mem_append.mpr ⟨lw_r8, List.forall_mem_append.mpr ⟨lw_r9, List.forall_mem_append.mpr ⟨lw_r10, List.forall_mem_append.mpr ⟨lw_r11, List.forall_mem_append.mpr ⟨lw_r12, List.forall_mem_append.mpr ⟨lw_r13, List.forall_mem_append.mpr ⟨lw_r14, List.forall_mem_append.mpr ⟨lw_r15, List.forall_mem_append.mpr ⟨lw_r16, List.forall_mem_append.mpr ⟨lw_r17, List.forall_mem_append.mpr ⟨lw_r18, List.forall_mem_append.mpr ⟨lw_r19, List.forall_mem_append.mpr ⟨lw_r20, List.forall_mem_append.mpr ⟨lw_r21, List.forall_mem_append.mpr ⟨lw_r22, List.forall_mem_append.mpr ⟨lw_r23, List.forall_mem_append.mpr ⟨lw_r24, List.forall_mem_append.mpr ⟨lw_r25, List.forall_mem_append.mpr ⟨lw_r26, List.forall_mem_append.mpr ⟨lw_r27, lw_r28⟩⟩⟩⟩⟩⟩⟩⟩⟩⟩⟩⟩⟩⟩⟩⟩⟩⟩⟩⟩⟩⟩⟩⟩⟩⟩⟩

def RX0 : String := "BoardMill$Board"
def TX0 : u_T := fun k => match k with
  | 0 => ("BoardMill$Board", "numbe\x72", "I", false)
  | 1 => ("BoardMill$Board", "width", "I", false)
  | 2 => ("BoardMill$Board", "height", "I", false)
  | 3 => ("BoardMill$Board", "layers", "I", false)
  | 4 => ("BoardMill$Board", "seed", "J", false)
  | 5 => ("BoardMill$Board", "neighbours", "[I", true)
  | 6 => ("BoardMill$Board", "barred", "[Z", true)
  | 7 => ("BoardMill$Board", "history", "[I", true)
  | 8 => ("BoardMill$Board", "holders", "[I", true)
  | 9 => ("BoardMill$Board", "padAt", "[I", true)
  | 10 => ("BoardMill$Board", "pads", "LBoardMill$Rows;", true)
  | 11 => ("BoardMill$Board", "nets", "LBoardMill$Rows;", true)
  | 12 => ("BoardMill$Board", "ways", "[I", true)
  | 13 => ("BoardMill$Board", "wayLengths", "[I", true)
  | 14 => ("BoardMill$Board", "across", "[I", true)
  | 15 => ("BoardMill$Board", "via", "[I", true)
  | 16 => ("BoardMill$Board", "nea\x72", "[I", true)
  | _ => ("BoardMill$Board", "netOfNode", "[I", true)
def tyX0 : Nat → FieldType := fun k => match k with
  | 0 => .int
  | 1 => .int
  | 2 => .int
  | 3 => .int
  | 4 => .long
  | 5 => .array .int
  | 6 => .array .boolean
  | 7 => .array .int
  | 8 => .array .int
  | 9 => .array .int
  | 10 => .object "BoardMill$Rows"
  | 11 => .object "BoardMill$Rows"
  | 12 => .array .int
  | 13 => .array .int
  | 14 => .array .int
  | 15 => .array .int
  | 16 => .array .int
  | _ => .array .int
abbrev wsX00 : List Cond := u_ws RX0 TX0 18
theorem nmX0 : ∀ a, a < 18 → ∀ b, b < 18 → a ≠ b → (TX0 a).2.1 ≠ (TX0 b).2.1 := by decide +kernel
theorem tyX0_ok : ∀ k, k < 18 → parseFieldDescriptor (TX0 k).2.2.1 = some (tyX0 k) := by decide +kernel
def RX1 : String := "BoardMill$Cut"
def TX1 : u_T := fun k => match k with
  | 0 => ("BoardMill$Cut", "boardNumbe\x72", "I", false)
  | 1 => ("BoardMill$Cut", "shapes", "LBoardMill$Rows;", true)
  | 2 => ("BoardMill$Cut", "spilled", "Z", false)
  | 3 => ("BoardMill$Cut", "allLed", "Z", false)
  | 4 => ("BoardMill$Cut", "padCount", "I", false)
  | 5 => ("BoardMill$Cut", "pieceShapes", "[I", true)
  | 6 => ("BoardMill$Cut", "pieceCount", "I", false)
  | 7 => ("BoardMill$Cut", "copperNets", "[I", true)
  | 8 => ("BoardMill$Cut", "airlines", "LBoardMill$Rows;", true)
  | 9 => ("BoardMill$Cut", "shortCount", "I", false)
  | 10 => ("BoardMill$Cut", "faults", "[I", true)
  | 11 => ("BoardMill$Cut", "faultCount", "I", false)
  | 12 => ("BoardMill$Cut", "holes", "[I", true)
  | 13 => ("BoardMill$Cut", "holeCount", "I", false)
  | 14 => ("BoardMill$Cut", "orde\x72", "[I", true)
  | 15 => ("BoardMill$Cut", "travels", "[I", true)
  | 16 => ("BoardMill$Cut", "drillText", "[C", true)
  | 17 => ("BoardMill$Cut", "drillLength", "I", false)
  | _ => ("BoardMill$Cut", "readAt", "I", false)
def tyX1 : Nat → FieldType := fun k => match k with
  | 0 => .int
  | 1 => .object "BoardMill$Rows"
  | 2 => .boolean
  | 3 => .boolean
  | 4 => .int
  | 5 => .array .int
  | 6 => .int
  | 7 => .array .int
  | 8 => .object "BoardMill$Rows"
  | 9 => .int
  | 10 => .array .int
  | 11 => .int
  | 12 => .array .int
  | 13 => .int
  | 14 => .array .int
  | 15 => .array .int
  | 16 => .array .char
  | 17 => .int
  | _ => .int
abbrev wsX10 : List Cond := u_ws RX1 TX1 19
theorem nmX1 : ∀ a, a < 19 → ∀ b, b < 19 → a ≠ b → (TX1 a).2.1 ≠ (TX1 b).2.1 := by decide +kernel
theorem tyX1_ok : ∀ k, k < 19 → parseFieldDescriptor (TX1 k).2.2.1 = some (tyX1 k) := by decide +kernel
def RX2 : String := "BoardMill$DesignObjects"
def TX2 : u_T := fun k => match k with
  | 0 => ("BoardMill$DesignObjects", "count", "I", false)
  | 1 => ("BoardMill$DesignObjects", "form", "I", false)
  | 2 => ("BoardMill$DesignObjects", "keptCount", "I", false)
  | 3 => ("BoardMill$DesignObjects", "kinds", "[I", true)
  | 4 => ("BoardMill$DesignObjects", "parents", "[I", true)
  | 5 => ("BoardMill$DesignObjects", "depths", "[I", true)
  | 6 => ("BoardMill$DesignObjects", "numbers", "[J", true)
  | 7 => ("BoardMill$DesignObjects", "textStarts", "[I", true)
  | 8 => ("BoardMill$DesignObjects", "textLengths", "[I", true)
  | 9 => ("BoardMill$DesignObjects", "chars", "[C", true)
  | 10 => ("BoardMill$DesignObjects", "charCount", "I", false)
  | 11 => ("BoardMill$DesignObjects", "page", "[C", true)
  | _ => ("BoardMill$DesignObjects", "pageLength", "I", false)
def tyX2 : Nat → FieldType := fun k => match k with
  | 0 => .int
  | 1 => .int
  | 2 => .int
  | 3 => .array .int
  | 4 => .array .int
  | 5 => .array .int
  | 6 => .array .long
  | 7 => .array .int
  | 8 => .array .int
  | 9 => .array .char
  | 10 => .int
  | 11 => .array .char
  | _ => .int
abbrev wsX20 : List Cond := u_ws RX2 TX2 13
theorem nmX2 : ∀ a, a < 13 → ∀ b, b < 13 → a ≠ b → (TX2 a).2.1 ≠ (TX2 b).2.1 := by decide +kernel
theorem tyX2_ok : ∀ k, k < 13 → parseFieldDescriptor (TX2 k).2.2.1 = some (tyX2 k) := by decide +kernel
def RX3 : String := "BoardMill$Drawing"
def TX3 : u_T := fun k => match k with
  | 0 => ("BoardMill$Drawing", "objects", "LBoardMill$DesignObjects;", false)
  | 1 => ("BoardMill$Drawing", "sheetOfObject", "[I", true)
  | 2 => ("BoardMill$Drawing", "sheetRows", "LBoardMill$Rows;", true)
  | 3 => ("BoardMill$Drawing", "copySheets", "[I", true)
  | 4 => ("BoardMill$Drawing", "wires", "LBoardMill$Rows;", true)
  | 5 => ("BoardMill$Drawing", "junctions", "LBoardMill$Rows;", true)
  | 6 => ("BoardMill$Drawing", "labels", "LBoardMill$Rows;", true)
  | 7 => ("BoardMill$Drawing", "ports", "LBoardMill$Rows;", true)
  | 8 => ("BoardMill$Drawing", "terminals", "LBoardMill$Rows;", true)
  | 9 => ("BoardMill$Drawing", "chain", "[I", true)
  | 10 => ("BoardMill$Drawing", "netOfNode", "[I", true)
  | 11 => ("BoardMill$Drawing", "namesOfNets", "[I", true)
  | 12 => ("BoardMill$Drawing", "remarks", "[I", true)
  | 13 => ("BoardMill$Drawing", "remarkCount", "I", false)
  | 14 => ("BoardMill$Drawing", "netCount", "I", false)
  | _ => ("BoardMill$Drawing", "timesDrawn", "I", false)
def tyX3 : Nat → FieldType := fun k => match k with
  | 0 => .object "BoardMill$DesignObjects"
  | 1 => .array .int
  | 2 => .object "BoardMill$Rows"
  | 3 => .array .int
  | 4 => .object "BoardMill$Rows"
  | 5 => .object "BoardMill$Rows"
  | 6 => .object "BoardMill$Rows"
  | 7 => .object "BoardMill$Rows"
  | 8 => .object "BoardMill$Rows"
  | 9 => .array .int
  | 10 => .array .int
  | 11 => .array .int
  | 12 => .array .int
  | 13 => .int
  | 14 => .int
  | _ => .int
abbrev wsX30 : List Cond := u_ws RX3 TX3 16
theorem nmX3 : ∀ a, a < 16 → ∀ b, b < 16 → a ≠ b → (TX3 a).2.1 ≠ (TX3 b).2.1 := by decide +kernel
theorem tyX3_ok : ∀ k, k < 16 → parseFieldDescriptor (TX3 k).2.2.1 = some (tyX3 k) := by decide +kernel
def RX4 : String := "BoardMill$Machine"
def TX4 : u_T := fun k => match k with
  | 0 => ("BoardMill$Machine", "script", "LBoardMill$Script;", false)
  | 1 => ("BoardMill$Machine", "variables", "[J", true)
  | 2 => ("BoardMill$Machine", "facts", "[J", true)
  | 3 => ("BoardMill$Machine", "factCount", "I", false)
  | 4 => ("BoardMill$Machine", "keptFacts", "[J", true)
  | 5 => ("BoardMill$Machine", "list", "[J", true)
  | 6 => ("BoardMill$Machine", "listLength", "I", false)
  | 7 => ("BoardMill$Machine", "outputs", "[J", true)
  | 8 => ("BoardMill$Machine", "outputCount", "I", false)
  | 9 => ("BoardMill$Machine", "demands", "[I", true)
  | 10 => ("BoardMill$Machine", "demandCount", "I", false)
  | 11 => ("BoardMill$Machine", "stepsLeft", "I", false)
  | 12 => ("BoardMill$Machine", "stopped", "Z", false)
  | 13 => ("BoardMill$Machine", "errorKind", "I", false)
  | 14 => ("BoardMill$Machine", "errorPlace", "I", false)
  | 15 => ("BoardMill$Machine", "errorValue", "I", false)
  | 16 => ("BoardMill$Machine", "curso\x72", "I", false)
  | _ => ("BoardMill$Machine", "raised", "I", false)
def tyX4 : Nat → FieldType := fun k => match k with
  | 0 => .object "BoardMill$Script"
  | 1 => .array .long
  | 2 => .array .long
  | 3 => .int
  | 4 => .array .long
  | 5 => .array .long
  | 6 => .int
  | 7 => .array .long
  | 8 => .int
  | 9 => .array .int
  | 10 => .int
  | 11 => .int
  | 12 => .boolean
  | 13 => .int
  | 14 => .int
  | 15 => .int
  | 16 => .int
  | _ => .int
abbrev wsX40 : List Cond := u_ws RX4 TX4 18
theorem nmX4 : ∀ a, a < 18 → ∀ b, b < 18 → a ≠ b → (TX4 a).2.1 ≠ (TX4 b).2.1 := by decide +kernel
theorem tyX4_ok : ∀ k, k < 18 → parseFieldDescriptor (TX4 k).2.2.1 = some (tyX4 k) := by decide +kernel
def RX5 : String := "BoardMill$Releases"
def TX5 : u_T := fun k => match k with
  | 0 => ("BoardMill$Releases", "count", "I", false)
  | 1 => ("BoardMill$Releases", "texts", "[C", true)
  | 2 => ("BoardMill$Releases", "lengths", "[I", true)
  | 3 => ("BoardMill$Releases", "trees", "[I", true)
  | 4 => ("BoardMill$Releases", "roles", "[I", true)
  | 5 => ("BoardMill$Releases", "withdrawn", "[Z", true)
  | 6 => ("BoardMill$Releases", "serials", "I", false)
  | 7 => ("BoardMill$Releases", "message", "[I", true)
  | 8 => ("BoardMill$Releases", "messageLength", "I", false)
  | 9 => ("BoardMill$Releases", "state", "[I", true)
  | 10 => ("BoardMill$Releases", "words", "[I", true)
  | 11 => ("BoardMill$Releases", "digest", "[I", true)
  | 12 => ("BoardMill$Releases", "bytes", "[I", true)
  | _ => ("BoardMill$Releases", "byteCount", "I", false)
def tyX5 : Nat → FieldType := fun k => match k with
  | 0 => .int
  | 1 => .array .char
  | 2 => .array .int
  | 3 => .array .int
  | 4 => .array .int
  | 5 => .array .boolean
  | 6 => .int
  | 7 => .array .int
  | 8 => .int
  | 9 => .array .int
  | 10 => .array .int
  | 11 => .array .int
  | 12 => .array .int
  | _ => .int
abbrev wsX50 : List Cond := u_ws RX5 TX5 14
theorem nmX5 : ∀ a, a < 14 → ∀ b, b < 14 → a ≠ b → (TX5 a).2.1 ≠ (TX5 b).2.1 := by decide +kernel
theorem tyX5_ok : ∀ k, k < 14 → parseFieldDescriptor (TX5 k).2.2.1 = some (tyX5 k) := by decide +kernel
def RX6 : String := "BoardMill$Route\x72"
def TX6 : u_T := fun k => match k with
  | 0 => ("BoardMill$Route\x72", "board", "LBoardMill$Board;", true)
  | 1 => ("BoardMill$Route\x72", "distances", "[I", true)
  | 2 => ("BoardMill$Route\x72", "tolls", "[I", true)
  | 3 => ("BoardMill$Route\x72", "inTree", "[Z", true)
  | 4 => ("BoardMill$Route\x72", "heap", "[J", true)
  | 5 => ("BoardMill$Route\x72", "heapSize", "I", false)
  | _ => ("BoardMill$Route\x72", "orde\x72", "[I", true)
def tyX6 : Nat → FieldType := fun k => match k with
  | 0 => .object "BoardMill$Board"
  | 1 => .array .int
  | 2 => .array .int
  | 3 => .array .boolean
  | 4 => .array .long
  | 5 => .int
  | _ => .array .int
abbrev wsX60 : List Cond := u_ws RX6 TX6 7
theorem nmX6 : ∀ a, a < 7 → ∀ b, b < 7 → a ≠ b → (TX6 a).2.1 ≠ (TX6 b).2.1 := by decide +kernel
theorem tyX6_ok : ∀ k, k < 7 → parseFieldDescriptor (TX6 k).2.2.1 = some (tyX6 k) := by decide +kernel
def RX7 : String := "BoardMill$Rows"
def TX7 : u_T := fun k => match k with
  | 0 => ("BoardMill$Rows", "cells", "[I", true)
  | 1 => ("BoardMill$Rows", "room", "I", true)
  | _ => ("BoardMill$Rows", "count", "I", false)
def tyX7 : Nat → FieldType := fun k => match k with
  | 0 => .array .int
  | 1 => .int
  | _ => .int
abbrev wsX70 : List Cond := u_ws RX7 TX7 3
theorem nmX7 : ∀ a, a < 3 → ∀ b, b < 3 → a ≠ b → (TX7 a).2.1 ≠ (TX7 b).2.1 := by decide +kernel
theorem tyX7_ok : ∀ k, k < 3 → parseFieldDescriptor (TX7 k).2.2.1 = some (tyX7 k) := by decide +kernel
def RX8 : String := "BoardMill$Script"
def TX8 : u_T := fun k => match k with
  | 0 => ("BoardMill$Script", "text", "[C", true)
  | 1 => ("BoardMill$Script", "length", "I", false)
  | 2 => ("BoardMill$Script", "place", "I", false)
  | 3 => ("BoardMill$Script", "fault", "I", false)
  | 4 => ("BoardMill$Script", "statements", "I", false)
  | 5 => ("BoardMill$Script", "closings", "[I", true)
  | _ => ("BoardMill$Script", "functions", "[I", true)
def tyX8 : Nat → FieldType := fun k => match k with
  | 0 => .array .char
  | 1 => .int
  | 2 => .int
  | 3 => .int
  | 4 => .int
  | 5 => .array .int
  | _ => .array .int
abbrev wsX80 : List Cond := u_ws RX8 TX8 7
theorem nmX8 : ∀ a, a < 7 → ∀ b, b < 7 → a ≠ b → (TX8 a).2.1 ≠ (TX8 b).2.1 := by decide +kernel
theorem tyX8_ok : ∀ k, k < 7 → parseFieldDescriptor (TX8 k).2.2.1 = some (tyX8 k) := by decide +kernel
def RX9 : String := "BoardMill$SheetReade\x72"
def TX9 : u_T := fun k => match k with
  | 0 => ("BoardMill$SheetReade\x72", "text", "[C", false)
  | 1 => ("BoardMill$SheetReade\x72", "length", "I", false)
  | 2 => ("BoardMill$SheetReade\x72", "place", "I", false)
  | 3 => ("BoardMill$SheetReade\x72", "fault", "I", false)
  | 4 => ("BoardMill$SheetReade\x72", "open", "I", false)
  | 5 => ("BoardMill$SheetReade\x72", "version", "I", false)
  | 6 => ("BoardMill$SheetReade\x72", "nested", "Z", false)
  | _ => ("BoardMill$SheetReade\x72", "objects", "LBoardMill$DesignObjects;", false)
def tyX9 : Nat → FieldType := fun k => match k with
  | 0 => .array .char
  | 1 => .int
  | 2 => .int
  | 3 => .int
  | 4 => .int
  | 5 => .int
  | 6 => .boolean
  | _ => .object "BoardMill$DesignObjects"
abbrev wsX90 : List Cond := u_ws RX9 TX9 8
theorem nmX9 : ∀ a, a < 8 → ∀ b, b < 8 → a ≠ b → (TX9 a).2.1 ≠ (TX9 b).2.1 := by decide +kernel
theorem tyX9_ok : ∀ k, k < 8 → parseFieldDescriptor (TX9 k).2.2.1 = some (tyX9 k) := by decide +kernel
def RX10 : String := "BoardMill$Store"
def TX10 : u_T := fun k => match k with
  | 0 => ("BoardMill$Store", "log", "[I", true)
  | 1 => ("BoardMill$Store", "logLength", "I", false)
  | 2 => ("BoardMill$Store", "blockBytes", "[I", true)
  | 3 => ("BoardMill$Store", "blockLengths", "[I", true)
  | 4 => ("BoardMill$Store", "there", "[Z", true)
  | 5 => ("BoardMill$Store", "blockCount", "I", false)
  | 6 => ("BoardMill$Store", "rows", "[I", true)
  | 7 => ("BoardMill$Store", "rowLengths", "[I", true)
  | 8 => ("BoardMill$Store", "dropped", "[Z", true)
  | 9 => ("BoardMill$Store", "editionCount", "I", false)
  | 10 => ("BoardMill$Store", "crashed", "Z", false)
  | 11 => ("BoardMill$Store", "crashes", "I", false)
  | _ => ("BoardMill$Store", "bytes", "[I", true)
def tyX10 : Nat → FieldType := fun k => match k with
  | 0 => .array .int
  | 1 => .int
  | 2 => .array .int
  | 3 => .array .int
  | 4 => .array .boolean
  | 5 => .int
  | 6 => .array .int
  | 7 => .array .int
  | 8 => .array .boolean
  | 9 => .int
  | 10 => .boolean
  | 11 => .int
  | _ => .array .int
abbrev wsX100 : List Cond := u_ws RX10 TX10 13
theorem nmX10 : ∀ a, a < 13 → ∀ b, b < 13 → a ≠ b → (TX10 a).2.1 ≠ (TX10 b).2.1 := by decide +kernel
theorem tyX10_ok : ∀ k, k < 13 → parseFieldDescriptor (TX10 k).2.2.1 = some (tyX10 k) := by decide +kernel
def RX11 : String := "BoardMill"
def TX11 : u_T := fun k => match k with
  | 0 => ("BoardMill", "tape", "[B", true)
  | 1 => ("BoardMill", "tapeLength", "I", false)
  | 2 => ("BoardMill", "text", "[C", true)
  | 3 => ("BoardMill", "said", "I", false)
  | 4 => ("BoardMill", "objects", "LBoardMill$DesignObjects;", false)
  | 5 => ("BoardMill", "spareObjects", "LBoardMill$DesignObjects;", false)
  | 6 => ("BoardMill", "reade\x72", "LBoardMill$SheetReader;", true)
  | 7 => ("BoardMill", "textsRead", "I", false)
  | 8 => ("BoardMill", "drawing", "LBoardMill$Drawing;", true)
  | 9 => ("BoardMill", "grid", "LBoardMill$Board;", true)
  | 10 => ("BoardMill", "route\x72", "LBoardMill$Router;", true)
  | 11 => ("BoardMill", "rules", "LBoardMill$Rows;", true)
  | 12 => ("BoardMill", "latestCut", "LBoardMill$Cut;", false)
  | 13 => ("BoardMill", "spareCut", "LBoardMill$Cut;", false)
  | 14 => ("BoardMill", "cutsMade", "I", false)
  | 15 => ("BoardMill", "script", "LBoardMill$Script;", false)
  | 16 => ("BoardMill", "spareScript", "LBoardMill$Script;", false)
  | 17 => ("BoardMill", "machine", "LBoardMill$Machine;", true)
  | 18 => ("BoardMill", "store", "LBoardMill$Store;", true)
  | _ => ("BoardMill", "releases", "LBoardMill$Releases;", true)
def tyX11 : Nat → FieldType := fun k => match k with
  | 0 => .array .byte
  | 1 => .int
  | 2 => .array .char
  | 3 => .int
  | 4 => .object "BoardMill$DesignObjects"
  | 5 => .object "BoardMill$DesignObjects"
  | 6 => .object "BoardMill$SheetReade\x72"
  | 7 => .int
  | 8 => .object "BoardMill$Drawing"
  | 9 => .object "BoardMill$Board"
  | 10 => .object "BoardMill$Route\x72"
  | 11 => .object "BoardMill$Rows"
  | 12 => .object "BoardMill$Cut"
  | 13 => .object "BoardMill$Cut"
  | 14 => .int
  | 15 => .object "BoardMill$Script"
  | 16 => .object "BoardMill$Script"
  | 17 => .object "BoardMill$Machine"
  | 18 => .object "BoardMill$Store"
  | _ => .object "BoardMill$Releases"
abbrev wsX110 : List Cond := u_ws RX11 TX11 20
theorem nmX11 : ∀ a, a < 20 → ∀ b, b < 20 → a ≠ b → (TX11 a).2.1 ≠ (TX11 b).2.1 := by decide +kernel
theorem tyX11_ok : ∀ k, k < 20 → parseFieldDescriptor (TX11 k).2.2.1 = some (tyX11 k) := by decide +kernel
def RX12 : String := "BoardMillModel$BoardScriptModel"
def TX12 : u_T := fun k => match k with
  | 0 => ("BoardMillModel$BoardScriptModel", "thrown", "I", false)
  | 1 => ("BoardMillModel$BoardScriptModel", "units", "I", false)
  | 2 => ("BoardMillModel$BoardScriptModel", "text", "[I", true)
  | 3 => ("BoardMillModel$BoardScriptModel", "now", "I", false)
  | 4 => ("BoardMillModel$BoardScriptModel", "sizes", "[I", true)
  | 5 => ("BoardMillModel$BoardScriptModel", "scripts", "[I", true)
  | 6 => ("BoardMillModel$BoardScriptModel", "orders", "[I", true)
  | 7 => ("BoardMillModel$BoardScriptModel", "places", "[I", true)
  | 8 => ("BoardMillModel$BoardScriptModel", "given", "[I", true)
  | 9 => ("BoardMillModel$BoardScriptModel", "first", "[I", true)
  | 10 => ("BoardMillModel$BoardScriptModel", "second", "[I", true)
  | 11 => ("BoardMillModel$BoardScriptModel", "target", "[I", true)
  | 12 => ("BoardMillModel$BoardScriptModel", "functions", "[I", true)
  | 13 => ("BoardMillModel$BoardScriptModel", "codes", "[I", true)
  | 14 => ("BoardMillModel$BoardScriptModel", "values", "[I", true)
  | 15 => ("BoardMillModel$BoardScriptModel", "set", "I", false)
  | 16 => ("BoardMillModel$BoardScriptModel", "at", "I", false)
  | 17 => ("BoardMillModel$BoardScriptModel", "wrong", "I", false)
  | 18 => ("BoardMillModel$BoardScriptModel", "told", "I", false)
  | 19 => ("BoardMillModel$BoardScriptModel", "coded", "I", false)
  | 20 => ("BoardMillModel$BoardScriptModel", "statements", "I", false)
  | 21 => ("BoardMillModel$BoardScriptModel", "depth", "I", false)
  | 22 => ("BoardMillModel$BoardScriptModel", "openKind", "[I", true)
  | 23 => ("BoardMillModel$BoardScriptModel", "openOrde\x72", "[I", true)
  | 24 => ("BoardMillModel$BoardScriptModel", "openMore", "[I", true)
  | 25 => ("BoardMillModel$BoardScriptModel", "signs", "I", false)
  | 26 => ("BoardMillModel$BoardScriptModel", "sign", "[I", true)
  | 27 => ("BoardMillModel$BoardScriptModel", "within", "I", false)
  | 28 => ("BoardMillModel$BoardScriptModel", "objects", "I", false)
  | 29 => ("BoardMillModel$BoardScriptModel", "fields", "[J", true)
  | 30 => ("BoardMillModel$BoardScriptModel", "length", "I", false)
  | 31 => ("BoardMillModel$BoardScriptModel", "list", "[J", true)
  | 32 => ("BoardMillModel$BoardScriptModel", "failing", "I", false)
  | 33 => ("BoardMillModel$BoardScriptModel", "variables", "[J", true)
  | 34 => ("BoardMillModel$BoardScriptModel", "limit", "J", false)
  | 35 => ("BoardMillModel$BoardScriptModel", "taken", "J", false)
  | 36 => ("BoardMillModel$BoardScriptModel", "outputs", "I", false)
  | 37 => ("BoardMillModel$BoardScriptModel", "output", "[I", true)
  | 38 => ("BoardMillModel$BoardScriptModel", "rules", "I", false)
  | 39 => ("BoardMillModel$BoardScriptModel", "rule", "[I", true)
  | 40 => ("BoardMillModel$BoardScriptModel", "found", "I", false)
  | 41 => ("BoardMillModel$BoardScriptModel", "query", "[I", true)
  | 42 => ("BoardMillModel$BoardScriptModel", "closings", "I", false)
  | 43 => ("BoardMillModel$BoardScriptModel", "closing", "[I", true)
  | 44 => ("BoardMillModel$BoardScriptModel", "restored", "Z", false)
  | 45 => ("BoardMillModel$BoardScriptModel", "acts", "I", false)
  | 46 => ("BoardMillModel$BoardScriptModel", "errorKind", "I", false)
  | 47 => ("BoardMillModel$BoardScriptModel", "errorPlace", "I", false)
  | 48 => ("BoardMillModel$BoardScriptModel", "errorValue", "I", false)
  | 49 => ("BoardMillModel$BoardScriptModel", "done", "Z", false)
  | 50 => ("BoardMillModel$BoardScriptModel", "result", "I", false)
  | 51 => ("BoardMillModel$BoardScriptModel", "place", "I", false)
  | 52 => ("BoardMillModel$BoardScriptModel", "next", "I", false)
  | 53 => ("BoardMillModel$BoardScriptModel", "calls", "I", false)
  | 54 => ("BoardMillModel$BoardScriptModel", "back", "[I", true)
  | 55 => ("BoardMillModel$BoardScriptModel", "handlers", "I", false)
  | 56 => ("BoardMillModel$BoardScriptModel", "handlerKind", "[I", true)
  | 57 => ("BoardMillModel$BoardScriptModel", "handlerCalls", "[I", true)
  | 58 => ("BoardMillModel$BoardScriptModel", "handlerTarget", "[I", true)
  | 59 => ("BoardMillModel$BoardScriptModel", "pendingKind", "[I", true)
  | 60 => ("BoardMillModel$BoardScriptModel", "pendingPlace", "[I", true)
  | 61 => ("BoardMillModel$BoardScriptModel", "pendingValue", "[I", true)
  | 62 => ("BoardMillModel$BoardScriptModel", "saved", "[J", true)
  | 63 => ("BoardMillModel$BoardScriptModel", "savedCount", "[I", true)
  | 64 => ("BoardMillModel$BoardScriptModel", "stack", "[J", true)
  | 65 => ("BoardMillModel$BoardScriptModel", "value", "J", false)
  | _ => ("BoardMillModel$BoardScriptModel", "fault", "I", false)
def tyX12 : Nat → FieldType := fun k => match k with
  | 0 => .int
  | 1 => .int
  | 2 => .array .int
  | 3 => .int
  | 4 => .array .int
  | 5 => .array .int
  | 6 => .array .int
  | 7 => .array .int
  | 8 => .array .int
  | 9 => .array .int
  | 10 => .array .int
  | 11 => .array .int
  | 12 => .array .int
  | 13 => .array .int
  | 14 => .array .int
  | 15 => .int
  | 16 => .int
  | 17 => .int
  | 18 => .int
  | 19 => .int
  | 20 => .int
  | 21 => .int
  | 22 => .array .int
  | 23 => .array .int
  | 24 => .array .int
  | 25 => .int
  | 26 => .array .int
  | 27 => .int
  | 28 => .int
  | 29 => .array .long
  | 30 => .int
  | 31 => .array .long
  | 32 => .int
  | 33 => .array .long
  | 34 => .long
  | 35 => .long
  | 36 => .int
  | 37 => .array .int
  | 38 => .int
  | 39 => .array .int
  | 40 => .int
  | 41 => .array .int
  | 42 => .int
  | 43 => .array .int
  | 44 => .boolean
  | 45 => .int
  | 46 => .int
  | 47 => .int
  | 48 => .int
  | 49 => .boolean
  | 50 => .int
  | 51 => .int
  | 52 => .int
  | 53 => .int
  | 54 => .array .int
  | 55 => .int
  | 56 => .array .int
  | 57 => .array .int
  | 58 => .array .int
  | 59 => .array .int
  | 60 => .array .int
  | 61 => .array .int
  | 62 => .array .long
  | 63 => .array .int
  | 64 => .array .long
  | 65 => .long
  | _ => .int
abbrev wsX120 : List Cond := u_ws RX12 TX12 67
theorem nmX12 : ∀ a, a < 67 → ∀ b, b < 67 → a ≠ b → (TX12 a).2.1 ≠ (TX12 b).2.1 := by decide +kernel
theorem tyX12_ok : ∀ k, k < 67 → parseFieldDescriptor (TX12 k).2.2.1 = some (tyX12 k) := by decide +kernel
def RX13 : String := "BoardMillModel$BoardStoreModel"
def TX13 : u_T := fun k => match k with
  | 0 => ("BoardMillModel$BoardStoreModel", "thrown", "I", false)
  | 1 => ("BoardMillModel$BoardStoreModel", "mostPacks", "I", true)
  | 2 => ("BoardMillModel$BoardStoreModel", "crashed", "Z", false)
  | 3 => ("BoardMillModel$BoardStoreModel", "fed", "I", false)
  | 4 => ("BoardMillModel$BoardStoreModel", "food", "[I", true)
  | 5 => ("BoardMillModel$BoardStoreModel", "size", "I", false)
  | 6 => ("BoardMillModel$BoardStoreModel", "log", "[I", true)
  | 7 => ("BoardMillModel$BoardStoreModel", "packs", "I", false)
  | 8 => ("BoardMillModel$BoardStoreModel", "packSize", "[I", true)
  | 9 => ("BoardMillModel$BoardStoreModel", "packBytes", "[I", true)
  | 10 => ("BoardMillModel$BoardStoreModel", "isPacked", "[Z", true)
  | 11 => ("BoardMillModel$BoardStoreModel", "blocks", "I", false)
  | 12 => ("BoardMillModel$BoardStoreModel", "from", "[I", true)
  | 13 => ("BoardMillModel$BoardStoreModel", "lengths", "[I", true)
  | 14 => ("BoardMillModel$BoardStoreModel", "there", "[Z", true)
  | 15 => ("BoardMillModel$BoardStoreModel", "versions", "I", false)
  | 16 => ("BoardMillModel$BoardStoreModel", "counts", "[I", true)
  | 17 => ("BoardMillModel$BoardStoreModel", "rows", "[I", true)
  | 18 => ("BoardMillModel$BoardStoreModel", "dropped", "[Z", true)
  | 19 => ("BoardMillModel$BoardStoreModel", "end", "I", false)
  | _ => ("BoardMillModel$BoardStoreModel", "swept", "I", false)
def tyX13 : Nat → FieldType := fun k => match k with
  | 0 => .int
  | 1 => .int
  | 2 => .boolean
  | 3 => .int
  | 4 => .array .int
  | 5 => .int
  | 6 => .array .int
  | 7 => .int
  | 8 => .array .int
  | 9 => .array .int
  | 10 => .array .boolean
  | 11 => .int
  | 12 => .array .int
  | 13 => .array .int
  | 14 => .array .boolean
  | 15 => .int
  | 16 => .array .int
  | 17 => .array .int
  | 18 => .array .boolean
  | 19 => .int
  | _ => .int
abbrev wsX130 : List Cond := u_ws RX13 TX13 21
theorem nmX13 : ∀ a, a < 21 → ∀ b, b < 21 → a ≠ b → (TX13 a).2.1 ≠ (TX13 b).2.1 := by decide +kernel
theorem tyX13_ok : ∀ k, k < 21 → parseFieldDescriptor (TX13 k).2.2.1 = some (tyX13 k) := by decide +kernel
def RX14 : String := "BoardMillModel$CleanChecksModel"
def TX14 : u_T := fun k => match k with
  | 0 => ("BoardMillModel$CleanChecksModel", "thrown", "I", false)
  | 1 => ("BoardMillModel$CleanChecksModel", "layers", "I", true)
  | 2 => ("BoardMillModel$CleanChecksModel", "shapes", "I", false)
  | 3 => ("BoardMillModel$CleanChecksModel", "nets", "[I", true)
  | 4 => ("BoardMillModel$CleanChecksModel", "layerOf", "[I", true)
  | 5 => ("BoardMillModel$CleanChecksModel", "kinds", "[I", true)
  | 6 => ("BoardMillModel$CleanChecksModel", "classes", "[I", true)
  | 7 => ("BoardMillModel$CleanChecksModel", "corners", "[I", true)
  | 8 => ("BoardMillModel$CleanChecksModel", "x", "[J", true)
  | 9 => ("BoardMillModel$CleanChecksModel", "y", "[J", true)
  | 10 => ("BoardMillModel$CleanChecksModel", "radius", "[J", true)
  | 11 => ("BoardMillModel$CleanChecksModel", "rules", "I", false)
  | 12 => ("BoardMillModel$CleanChecksModel", "ruleKind", "[I", true)
  | 13 => ("BoardMillModel$CleanChecksModel", "ruleA", "[I", true)
  | 14 => ("BoardMillModel$CleanChecksModel", "ruleB", "[I", true)
  | 15 => ("BoardMillModel$CleanChecksModel", "ruleValue", "[J", true)
  | 16 => ("BoardMillModel$CleanChecksModel", "strips", "I", false)
  | 17 => ("BoardMillModel$CleanChecksModel", "foundCount", "I", false)
  | 18 => ("BoardMillModel$CleanChecksModel", "found", "[I", true)
  | 19 => ("BoardMillModel$CleanChecksModel", "count", "I", false)
  | 20 => ("BoardMillModel$CleanChecksModel", "row", "[I", true)
  | 21 => ("BoardMillModel$CleanChecksModel", "placeX", "[J", true)
  | 22 => ("BoardMillModel$CleanChecksModel", "placeY", "[J", true)
  | 23 => ("BoardMillModel$CleanChecksModel", "waived", "I", false)
  | _ => ("BoardMillModel$CleanChecksModel", "waivers", "[I", true)
def tyX14 : Nat → FieldType := fun k => match k with
  | 0 => .int
  | 1 => .int
  | 2 => .int
  | 3 => .array .int
  | 4 => .array .int
  | 5 => .array .int
  | 6 => .array .int
  | 7 => .array .int
  | 8 => .array .long
  | 9 => .array .long
  | 10 => .array .long
  | 11 => .int
  | 12 => .array .int
  | 13 => .array .int
  | 14 => .array .int
  | 15 => .array .long
  | 16 => .int
  | 17 => .int
  | 18 => .array .int
  | 19 => .int
  | 20 => .array .int
  | 21 => .array .long
  | 22 => .array .long
  | 23 => .int
  | _ => .array .int
abbrev wsX140 : List Cond := u_ws RX14 TX14 25
theorem nmX14 : ∀ a, a < 25 → ∀ b, b < 25 → a ≠ b → (TX14 a).2.1 ≠ (TX14 b).2.1 := by decide +kernel
theorem tyX14_ok : ∀ k, k < 25 → parseFieldDescriptor (TX14 k).2.2.1 = some (tyX14 k) := by decide +kernel
def RX15 : String := "BoardMillModel$CopperNetsModel"
def TX15 : u_T := fun k => match k with
  | 0 => ("BoardMillModel$CopperNetsModel", "thrown", "I", false)
  | 1 => ("BoardMillModel$CopperNetsModel", "layers", "I", true)
  | 2 => ("BoardMillModel$CopperNetsModel", "pieces", "I", false)
  | 3 => ("BoardMillModel$CopperNetsModel", "there", "[Z", true)
  | 4 => ("BoardMillModel$CopperNetsModel", "low", "[I", true)
  | 5 => ("BoardMillModel$CopperNetsModel", "high", "[I", true)
  | 6 => ("BoardMillModel$CopperNetsModel", "x", "[J", true)
  | 7 => ("BoardMillModel$CopperNetsModel", "y", "[J", true)
  | 8 => ("BoardMillModel$CopperNetsModel", "w", "[J", true)
  | 9 => ("BoardMillModel$CopperNetsModel", "h", "[J", true)
  | 10 => ("BoardMillModel$CopperNetsModel", "\x72", "[J", true)
  | 11 => ("BoardMillModel$CopperNetsModel", "pinOf", "[I", true)
  | 12 => ("BoardMillModel$CopperNetsModel", "netOfPin", "[I", true)
  | 13 => ("BoardMillModel$CopperNetsModel", "label", "[I", true)
  | 14 => ("BoardMillModel$CopperNetsModel", "numbe\x72", "[I", true)
  | 15 => ("BoardMillModel$CopperNetsModel", "group", "[I", true)
  | 16 => ("BoardMillModel$CopperNetsModel", "airSquare", "J", false)
  | 17 => ("BoardMillModel$CopperNetsModel", "airLow", "I", false)
  | _ => ("BoardMillModel$CopperNetsModel", "airHigh", "I", false)
def tyX15 : Nat → FieldType := fun k => match k with
  | 0 => .int
  | 1 => .int
  | 2 => .int
  | 3 => .array .boolean
  | 4 => .array .int
  | 5 => .array .int
  | 6 => .array .long
  | 7 => .array .long
  | 8 => .array .long
  | 9 => .array .long
  | 10 => .array .long
  | 11 => .array .int
  | 12 => .array .int
  | 13 => .array .int
  | 14 => .array .int
  | 15 => .array .int
  | 16 => .long
  | 17 => .int
  | _ => .int
abbrev wsX150 : List Cond := u_ws RX15 TX15 19
theorem nmX15 : ∀ a, a < 19 → ∀ b, b < 19 → a ≠ b → (TX15 a).2.1 ≠ (TX15 b).2.1 := by decide +kernel
theorem tyX15_ok : ∀ k, k < 19 → parseFieldDescriptor (TX15 k).2.2.1 = some (tyX15 k) := by decide +kernel
def RX16 : String := "BoardMillModel$DrillArchiveModel"
def TX16 : u_T := fun k => match k with
  | 0 => ("BoardMillModel$DrillArchiveModel", "thrown", "I", false)
  | 1 => ("BoardMillModel$DrillArchiveModel", "tools", "[I", true)
  | 2 => ("BoardMillModel$DrillArchiveModel", "diameters", "[J", true)
  | 3 => ("BoardMillModel$DrillArchiveModel", "plated", "[Z", true)
  | 4 => ("BoardMillModel$DrillArchiveModel", "hits", "[I", true)
  | 5 => ("BoardMillModel$DrillArchiveModel", "toolOf", "[I", true)
  | 6 => ("BoardMillModel$DrillArchiveModel", "x", "[J", true)
  | 7 => ("BoardMillModel$DrillArchiveModel", "y", "[J", true)
  | 8 => ("BoardMillModel$DrillArchiveModel", "endX", "[J", true)
  | 9 => ("BoardMillModel$DrillArchiveModel", "endY", "[J", true)
  | 10 => ("BoardMillModel$DrillArchiveModel", "from", "[I", true)
  | 11 => ("BoardMillModel$DrillArchiveModel", "to", "[I", true)
  | 12 => ("BoardMillModel$DrillArchiveModel", "isSlot", "[Z", true)
  | 13 => ("BoardMillModel$DrillArchiveModel", "many", "I", false)
  | 14 => ("BoardMillModel$DrillArchiveModel", "row", "[I", true)
  | 15 => ("BoardMillModel$DrillArchiveModel", "orde\x72", "[I", true)
  | 16 => ("BoardMillModel$DrillArchiveModel", "least", "[J", true)
  | 17 => ("BoardMillModel$DrillArchiveModel", "laid", "I", false)
  | 18 => ("BoardMillModel$DrillArchiveModel", "page", "[I", true)
  | 19 => ("BoardMillModel$DrillArchiveModel", "length", "I", false)
  | 20 => ("BoardMillModel$DrillArchiveModel", "text", "[I", true)
  | 21 => ("BoardMillModel$DrillArchiveModel", "at", "I", false)
  | 22 => ("BoardMillModel$DrillArchiveModel", "began", "I", false)
  | 23 => ("BoardMillModel$DrillArchiveModel", "wrong", "I", false)
  | 24 => ("BoardMillModel$DrillArchiveModel", "means", "Z", false)
  | 25 => ("BoardMillModel$DrillArchiveModel", "files", "I", false)
  | 26 => ("BoardMillModel$DrillArchiveModel", "roles", "[I", true)
  | 27 => ("BoardMillModel$DrillArchiveModel", "sizes", "[I", true)
  | 28 => ("BoardMillModel$DrillArchiveModel", "bytes", "[I", true)
  | 29 => ("BoardMillModel$DrillArchiveModel", "fed", "I", false)
  | 30 => ("BoardMillModel$DrillArchiveModel", "feed", "[I", true)
  | 31 => ("BoardMillModel$DrillArchiveModel", "wanted", "I", false)
  | 32 => ("BoardMillModel$DrillArchiveModel", "written", "I", false)
  | 33 => ("BoardMillModel$DrillArchiveModel", "found", "I", false)
  | 34 => ("BoardMillModel$DrillArchiveModel", "stage", "I", false)
  | 35 => ("BoardMillModel$DrillArchiveModel", "hasLayers", "Z", false)
  | 36 => ("BoardMillModel$DrillArchiveModel", "readFrom", "I", false)
  | 37 => ("BoardMillModel$DrillArchiveModel", "readTo", "I", false)
  | _ => ("BoardMillModel$DrillArchiveModel", "current", "I", false)
def tyX16 : Nat → FieldType := fun k => match k with
  | 0 => .int
  | 1 => .array .int
  | 2 => .array .long
  | 3 => .array .boolean
  | 4 => .array .int
  | 5 => .array .int
  | 6 => .array .long
  | 7 => .array .long
  | 8 => .array .long
  | 9 => .array .long
  | 10 => .array .int
  | 11 => .array .int
  | 12 => .array .boolean
  | 13 => .int
  | 14 => .array .int
  | 15 => .array .int
  | 16 => .array .long
  | 17 => .int
  | 18 => .array .int
  | 19 => .int
  | 20 => .array .int
  | 21 => .int
  | 22 => .int
  | 23 => .int
  | 24 => .boolean
  | 25 => .int
  | 26 => .array .int
  | 27 => .array .int
  | 28 => .array .int
  | 29 => .int
  | 30 => .array .int
  | 31 => .int
  | 32 => .int
  | 33 => .int
  | 34 => .int
  | 35 => .boolean
  | 36 => .int
  | 37 => .int
  | _ => .int
abbrev wsX160 : List Cond := u_ws RX16 TX16 39
theorem nmX16 : ∀ a, a < 39 → ∀ b, b < 39 → a ≠ b → (TX16 a).2.1 ≠ (TX16 b).2.1 := by decide +kernel
theorem tyX16_ok : ∀ k, k < 39 → parseFieldDescriptor (TX16 k).2.2.1 = some (tyX16 k) := by decide +kernel
def RX17 : String := "BoardMillModel$GridRipUpModel"
def TX17 : u_T := fun k => match k with
  | 0 => ("BoardMillModel$GridRipUpModel", "thrown", "I", false)
  | 1 => ("BoardMillModel$GridRipUpModel", "wide", "I", true)
  | 2 => ("BoardMillModel$GridRipUpModel", "high", "I", true)
  | 3 => ("BoardMillModel$GridRipUpModel", "deep", "I", true)
  | 4 => ("BoardMillModel$GridRipUpModel", "s", "J", false)
  | 5 => ("BoardMillModel$GridRipUpModel", "nets", "I", false)
  | 6 => ("BoardMillModel$GridRipUpModel", "pinCount", "[I", true)
  | 7 => ("BoardMillModel$GridRipUpModel", "pins", "[I", true)
  | 8 => ("BoardMillModel$GridRipUpModel", "holde\x72", "[I", true)
  | 9 => ("BoardMillModel$GridRipUpModel", "isPin", "[Z", true)
  | 10 => ("BoardMillModel$GridRipUpModel", "barred", "[Z", true)
  | 11 => ("BoardMillModel$GridRipUpModel", "history", "[J", true)
  | 12 => ("BoardMillModel$GridRipUpModel", "across", "[I", true)
  | 13 => ("BoardMillModel$GridRipUpModel", "vias", "[I", true)
  | 14 => ("BoardMillModel$GridRipUpModel", "nea\x72", "[I", true)
  | 15 => ("BoardMillModel$GridRipUpModel", "led", "[Z", true)
  | 16 => ("BoardMillModel$GridRipUpModel", "treeSize", "[I", true)
  | 17 => ("BoardMillModel$GridRipUpModel", "tree", "[I", true)
  | 18 => ("BoardMillModel$GridRipUpModel", "costs", "[J", true)
  | 19 => ("BoardMillModel$GridRipUpModel", "rips", "[I", true)
  | 20 => ("BoardMillModel$GridRipUpModel", "blocks", "[I", true)
  | 21 => ("BoardMillModel$GridRipUpModel", "rounds", "I", false)
  | 22 => ("BoardMillModel$GridRipUpModel", "distance", "[J", true)
  | 23 => ("BoardMillModel$GridRipUpModel", "inTree", "[Z", true)
  | _ => ("BoardMillModel$GridRipUpModel", "orde\x72", "[I", true)
def tyX17 : Nat → FieldType := fun k => match k with
  | 0 => .int
  | 1 => .int
  | 2 => .int
  | 3 => .int
  | 4 => .long
  | 5 => .int
  | 6 => .array .int
  | 7 => .array .int
  | 8 => .array .int
  | 9 => .array .boolean
  | 10 => .array .boolean
  | 11 => .array .long
  | 12 => .array .int
  | 13 => .array .int
  | 14 => .array .int
  | 15 => .array .boolean
  | 16 => .array .int
  | 17 => .array .int
  | 18 => .array .long
  | 19 => .array .int
  | 20 => .array .int
  | 21 => .int
  | 22 => .array .long
  | 23 => .array .boolean
  | _ => .array .int
abbrev wsX170 : List Cond := u_ws RX17 TX17 25
theorem nmX17 : ∀ a, a < 25 → ∀ b, b < 25 → a ≠ b → (TX17 a).2.1 ≠ (TX17 b).2.1 := by decide +kernel
theorem tyX17_ok : ∀ k, k < 25 → parseFieldDescriptor (TX17 k).2.2.1 = some (tyX17 k) := by decide +kernel
def RX18 : String := "BoardMillModel$NetJoinsModel"
def TX18 : u_T := fun k => match k with
  | 0 => ("BoardMillModel$NetJoinsModel", "thrown", "I", false)
  | 1 => ("BoardMillModel$NetJoinsModel", "sheets", "I", false)
  | 2 => ("BoardMillModel$NetJoinsModel", "parents", "[I", true)
  | 3 => ("BoardMillModel$NetJoinsModel", "bases", "[I", true)
  | 4 => ("BoardMillModel$NetJoinsModel", "wires", "I", false)
  | 5 => ("BoardMillModel$NetJoinsModel", "wireSheet", "[I", true)
  | 6 => ("BoardMillModel$NetJoinsModel", "wireAt", "[J", true)
  | 7 => ("BoardMillModel$NetJoinsModel", "dropped", "[Z", true)
  | 8 => ("BoardMillModel$NetJoinsModel", "junctions", "I", false)
  | 9 => ("BoardMillModel$NetJoinsModel", "junctionSheet", "[I", true)
  | 10 => ("BoardMillModel$NetJoinsModel", "junctionAt", "[J", true)
  | 11 => ("BoardMillModel$NetJoinsModel", "labels", "I", false)
  | 12 => ("BoardMillModel$NetJoinsModel", "labelSheet", "[I", true)
  | 13 => ("BoardMillModel$NetJoinsModel", "labelName", "[I", true)
  | 14 => ("BoardMillModel$NetJoinsModel", "labelAt", "[J", true)
  | 15 => ("BoardMillModel$NetJoinsModel", "pins", "I", false)
  | 16 => ("BoardMillModel$NetJoinsModel", "pinSheet", "[I", true)
  | 17 => ("BoardMillModel$NetJoinsModel", "pinPart", "[I", true)
  | 18 => ("BoardMillModel$NetJoinsModel", "pinAt", "[J", true)
  | 19 => ("BoardMillModel$NetJoinsModel", "opens", "[Z", true)
  | 20 => ("BoardMillModel$NetJoinsModel", "ports", "I", false)
  | 21 => ("BoardMillModel$NetJoinsModel", "port", "[I", true)
  | 22 => ("BoardMillModel$NetJoinsModel", "buses", "I", false)
  | 23 => ("BoardMillModel$NetJoinsModel", "bus", "[I", true)
  | 24 => ("BoardMillModel$NetJoinsModel", "ranks", "[I", true)
  | 25 => ("BoardMillModel$NetJoinsModel", "nea\x72", "[I", true)
  | 26 => ("BoardMillModel$NetJoinsModel", "netAt", "[I", true)
  | 27 => ("BoardMillModel$NetJoinsModel", "net", "[I", true)
  | 28 => ("BoardMillModel$NetJoinsModel", "netBefore", "[I", true)
  | 29 => ("BoardMillModel$NetJoinsModel", "netCount", "I", false)
  | 30 => ("BoardMillModel$NetJoinsModel", "isChanged", "[Z", true)
  | 31 => ("BoardMillModel$NetJoinsModel", "changes", "I", false)
  | _ => ("BoardMillModel$NetJoinsModel", "hasNets", "Z", false)
def tyX18 : Nat → FieldType := fun k => match k with
  | 0 => .int
  | 1 => .int
  | 2 => .array .int
  | 3 => .array .int
  | 4 => .int
  | 5 => .array .int
  | 6 => .array .long
  | 7 => .array .boolean
  | 8 => .int
  | 9 => .array .int
  | 10 => .array .long
  | 11 => .int
  | 12 => .array .int
  | 13 => .array .int
  | 14 => .array .long
  | 15 => .int
  | 16 => .array .int
  | 17 => .array .int
  | 18 => .array .long
  | 19 => .array .boolean
  | 20 => .int
  | 21 => .array .int
  | 22 => .int
  | 23 => .array .int
  | 24 => .array .int
  | 25 => .array .int
  | 26 => .array .int
  | 27 => .array .int
  | 28 => .array .int
  | 29 => .int
  | 30 => .array .boolean
  | 31 => .int
  | _ => .boolean
abbrev wsX180 : List Cond := u_ws RX18 TX18 33
theorem nmX18 : ∀ a, a < 33 → ∀ b, b < 33 → a ≠ b → (TX18 a).2.1 ≠ (TX18 b).2.1 := by decide +kernel
theorem tyX18_ok : ∀ k, k < 33 → parseFieldDescriptor (TX18 k).2.2.1 = some (tyX18 k) := by decide +kernel
def RX19 : String := "BoardMillModel$ReleaseLeavesModel"
def TX19 : u_T := fun k => match k with
  | 0 => ("BoardMillModel$ReleaseLeavesModel", "thrown", "I", false)
  | 1 => ("BoardMillModel$ReleaseLeavesModel", "constants", "[I", true)
  | 2 => ("BoardMillModel$ReleaseLeavesModel", "size", "I", false)
  | 3 => ("BoardMillModel$ReleaseLeavesModel", "input", "[I", true)
  | 4 => ("BoardMillModel$ReleaseLeavesModel", "words", "[I", true)
  | 5 => ("BoardMillModel$ReleaseLeavesModel", "state", "[I", true)
  | 6 => ("BoardMillModel$ReleaseLeavesModel", "work", "[I", true)
  | 7 => ("BoardMillModel$ReleaseLeavesModel", "output", "[I", true)
  | 8 => ("BoardMillModel$ReleaseLeavesModel", "releases", "I", false)
  | 9 => ("BoardMillModel$ReleaseLeavesModel", "counts", "[I", true)
  | 10 => ("BoardMillModel$ReleaseLeavesModel", "names", "[I", true)
  | 11 => ("BoardMillModel$ReleaseLeavesModel", "lengths", "[I", true)
  | 12 => ("BoardMillModel$ReleaseLeavesModel", "bytes", "[I", true)
  | 13 => ("BoardMillModel$ReleaseLeavesModel", "leafDigests", "[I", true)
  | 14 => ("BoardMillModel$ReleaseLeavesModel", "roots", "[I", true)
  | 15 => ("BoardMillModel$ReleaseLeavesModel", "width", "I", false)
  | 16 => ("BoardMillModel$ReleaseLeavesModel", "row", "[I", true)
  | 17 => ("BoardMillModel$ReleaseLeavesModel", "checkSize", "I", false)
  | 18 => ("BoardMillModel$ReleaseLeavesModel", "check", "[I", true)
  | 19 => ("BoardMillModel$ReleaseLeavesModel", "roles", "[I", true)
  | 20 => ("BoardMillModel$ReleaseLeavesModel", "withdrawn", "[Z", true)
  | 21 => ("BoardMillModel$ReleaseLeavesModel", "withdrawals", "I", false)
  | 22 => ("BoardMillModel$ReleaseLeavesModel", "serials", "I", false)
  | 23 => ("BoardMillModel$ReleaseLeavesModel", "serialOf", "[I", true)
  | 24 => ("BoardMillModel$ReleaseLeavesModel", "events", "I", false)
  | 25 => ("BoardMillModel$ReleaseLeavesModel", "eventRelease", "[I", true)
  | 26 => ("BoardMillModel$ReleaseLeavesModel", "eventKind", "[I", true)
  | 27 => ("BoardMillModel$ReleaseLeavesModel", "eventA", "[I", true)
  | 28 => ("BoardMillModel$ReleaseLeavesModel", "eventB", "[I", true)
  | 29 => ("BoardMillModel$ReleaseLeavesModel", "wanted", "I", false)
  | 30 => ("BoardMillModel$ReleaseLeavesModel", "written", "I", false)
  | _ => ("BoardMillModel$ReleaseLeavesModel", "found", "I", false)
def tyX19 : Nat → FieldType := fun k => match k with
  | 0 => .int
  | 1 => .array .int
  | 2 => .int
  | 3 => .array .int
  | 4 => .array .int
  | 5 => .array .int
  | 6 => .array .int
  | 7 => .array .int
  | 8 => .int
  | 9 => .array .int
  | 10 => .array .int
  | 11 => .array .int
  | 12 => .array .int
  | 13 => .array .int
  | 14 => .array .int
  | 15 => .int
  | 16 => .array .int
  | 17 => .int
  | 18 => .array .int
  | 19 => .array .int
  | 20 => .array .boolean
  | 21 => .int
  | 22 => .int
  | 23 => .array .int
  | 24 => .int
  | 25 => .array .int
  | 26 => .array .int
  | 27 => .array .int
  | 28 => .array .int
  | 29 => .int
  | 30 => .int
  | _ => .int
abbrev wsX190 : List Cond := u_ws RX19 TX19 32
theorem nmX19 : ∀ a, a < 32 → ∀ b, b < 32 → a ≠ b → (TX19 a).2.1 ≠ (TX19 b).2.1 := by decide +kernel
theorem tyX19_ok : ∀ k, k < 32 → parseFieldDescriptor (TX19 k).2.2.1 = some (tyX19 k) := by decide +kernel
def RX20 : String := "BoardMillModel$SchematicTextModel"
def TX20 : u_T := fun k => match k with
  | 0 => ("BoardMillModel$SchematicTextModel", "thrown", "I", false)
  | 1 => ("BoardMillModel$SchematicTextModel", "form", "I", false)
  | 2 => ("BoardMillModel$SchematicTextModel", "text", "[I", true)
  | 3 => ("BoardMillModel$SchematicTextModel", "size", "I", false)
  | 4 => ("BoardMillModel$SchematicTextModel", "objects", "I", false)
  | 5 => ("BoardMillModel$SchematicTextModel", "kinds", "[I", true)
  | 6 => ("BoardMillModel$SchematicTextModel", "parents", "[I", true)
  | 7 => ("BoardMillModel$SchematicTextModel", "numbers", "[J", true)
  | 8 => ("BoardMillModel$SchematicTextModel", "textSizes", "[I", true)
  | 9 => ("BoardMillModel$SchematicTextModel", "characters", "[I", true)
  | 10 => ("BoardMillModel$SchematicTextModel", "keptFrom", "[I", true)
  | 11 => ("BoardMillModel$SchematicTextModel", "keptSize", "[I", true)
  | 12 => ("BoardMillModel$SchematicTextModel", "kept", "[I", true)
  | 13 => ("BoardMillModel$SchematicTextModel", "keptAll", "I", false)
  | 14 => ("BoardMillModel$SchematicTextModel", "versionRead", "I", false)
  | 15 => ("BoardMillModel$SchematicTextModel", "making", "Z", false)
  | 16 => ("BoardMillModel$SchematicTextModel", "version", "I", false)
  | 17 => ("BoardMillModel$SchematicTextModel", "found", "I", false)
  | 18 => ("BoardMillModel$SchematicTextModel", "fault", "I", false)
  | 19 => ("BoardMillModel$SchematicTextModel", "at", "I", false)
  | 20 => ("BoardMillModel$SchematicTextModel", "numbe\x72", "I", false)
  | 21 => ("BoardMillModel$SchematicTextModel", "words", "I", false)
  | 22 => ("BoardMillModel$SchematicTextModel", "keeps", "I", false)
  | 23 => ("BoardMillModel$SchematicTextModel", "open", "[I", true)
  | 24 => ("BoardMillModel$SchematicTextModel", "openKind", "[I", true)
  | 25 => ("BoardMillModel$SchematicTextModel", "out", "[I", true)
  | 26 => ("BoardMillModel$SchematicTextModel", "written", "I", false)
  | 27 => ("BoardMillModel$SchematicTextModel", "stale", "Z", false)
  | 28 => ("BoardMillModel$SchematicTextModel", "lastNumbe\x72", "J", false)
  | 29 => ("BoardMillModel$SchematicTextModel", "depthNow", "I", false)
  | _ => ("BoardMillModel$SchematicTextModel", "last", "I", false)
def tyX20 : Nat → FieldType := fun k => match k with
  | 0 => .int
  | 1 => .int
  | 2 => .array .int
  | 3 => .int
  | 4 => .int
  | 5 => .array .int
  | 6 => .array .int
  | 7 => .array .long
  | 8 => .array .int
  | 9 => .array .int
  | 10 => .array .int
  | 11 => .array .int
  | 12 => .array .int
  | 13 => .int
  | 14 => .int
  | 15 => .boolean
  | 16 => .int
  | 17 => .int
  | 18 => .int
  | 19 => .int
  | 20 => .int
  | 21 => .int
  | 22 => .int
  | 23 => .array .int
  | 24 => .array .int
  | 25 => .array .int
  | 26 => .int
  | 27 => .boolean
  | 28 => .long
  | 29 => .int
  | _ => .int
abbrev wsX200 : List Cond := u_ws RX20 TX20 31
theorem nmX20 : ∀ a, a < 31 → ∀ b, b < 31 → a ≠ b → (TX20 a).2.1 ≠ (TX20 b).2.1 := by decide +kernel
theorem tyX20_ok : ∀ k, k < 31 → parseFieldDescriptor (TX20 k).2.2.1 = some (tyX20 k) := by decide +kernel
def RX21 : String := "BoardMillModel"
def TX21 : u_T := fun k => match k with
  | 0 => ("BoardMillModel", "told", "I", false)
  | 1 => ("BoardMillModel", "tape", "[I", true)
  | 2 => ("BoardMillModel", "tapeSize", "I", false)
  | 3 => ("BoardMillModel", "readers", "[LBoardMillModel$SchematicTextModel;", true)
  | 4 => ("BoardMillModel", "form", "I", false)
  | 5 => ("BoardMillModel", "textsRead", "I", false)
  | 6 => ("BoardMillModel", "drawings", "I", false)
  | 7 => ("BoardMillModel", "drawing", "LBoardMillModel$NetJoinsModel;", false)
  | 8 => ("BoardMillModel", "sheetOf", "[I", true)
  | 9 => ("BoardMillModel", "repeats", "[I", true)
  | 10 => ("BoardMillModel", "parents", "[I", true)
  | 11 => ("BoardMillModel", "sheetCount", "I", false)
  | 12 => ("BoardMillModel", "grid", "LBoardMillModel$GridRipUpModel;", false)
  | 13 => ("BoardMillModel", "plan", "LBoardMillModel$NetJoinsModel;", false)
  | 14 => ("BoardMillModel", "boards", "I", false)
  | 15 => ("BoardMillModel", "pads", "I", false)
  | 16 => ("BoardMillModel", "padTerminal", "[I", true)
  | 17 => ("BoardMillModel", "padCopy", "[I", true)
  | 18 => ("BoardMillModel", "padLaye\x72", "[I", true)
  | 19 => ("BoardMillModel", "padX", "[I", true)
  | 20 => ("BoardMillModel", "padY", "[I", true)
  | 21 => ("BoardMillModel", "padNet", "[I", true)
  | 22 => ("BoardMillModel", "routes", "I", false)
  | 23 => ("BoardMillModel", "sheetNet", "[I", true)
  | 24 => ("BoardMillModel", "rules", "I", false)
  | 25 => ("BoardMillModel", "ruleKind", "[I", true)
  | 26 => ("BoardMillModel", "ruleA", "[I", true)
  | 27 => ("BoardMillModel", "ruleB", "[I", true)
  | 28 => ("BoardMillModel", "ruleValue", "[I", true)
  | 29 => ("BoardMillModel", "cuts", "I", false)
  | 30 => ("BoardMillModel", "cutBoard", "I", false)
  | 31 => ("BoardMillModel", "coppe\x72", "LBoardMillModel$CopperNetsModel;", false)
  | 32 => ("BoardMillModel", "clean", "LBoardMillModel$CleanChecksModel;", false)
  | 33 => ("BoardMillModel", "found", "I", false)
  | 34 => ("BoardMillModel", "exact", "Z", false)
  | 35 => ("BoardMillModel", "holes", "I", false)
  | 36 => ("BoardMillModel", "holeLaye\x72", "[I", true)
  | 37 => ("BoardMillModel", "holeX", "[I", true)
  | 38 => ("BoardMillModel", "holeY", "[I", true)
  | 39 => ("BoardMillModel", "holeOrde\x72", "[I", true)
  | 40 => ("BoardMillModel", "drillReade\x72", "LBoardMillModel$DrillArchiveModel;", true)
  | 41 => ("BoardMillModel", "making", "Z", false)
  | 42 => ("BoardMillModel", "shapes", "I", false)
  | 43 => ("BoardMillModel", "drills", "LBoardMillModel$DrillArchiveModel;", false)
  | 44 => ("BoardMillModel", "wanted", "I", false)
  | 45 => ("BoardMillModel", "said", "I", false)
  | 46 => ("BoardMillModel", "lette\x72", "I", false)
  | 47 => ("BoardMillModel", "script", "LBoardMillModel$BoardScriptModel;", true)
  | 48 => ("BoardMillModel", "store", "LBoardMillModel$BoardStoreModel;", true)
  | 49 => ("BoardMillModel", "crashes", "I", false)
  | _ => ("BoardMillModel", "releases", "LBoardMillModel$ReleaseLeavesModel;", true)
def tyX21 : Nat → FieldType := fun k => match k with
  | 0 => .int
  | 1 => .array .int
  | 2 => .int
  | 3 => .array (.object "BoardMillModel$SchematicTextModel")
  | 4 => .int
  | 5 => .int
  | 6 => .int
  | 7 => .object "BoardMillModel$NetJoinsModel"
  | 8 => .array .int
  | 9 => .array .int
  | 10 => .array .int
  | 11 => .int
  | 12 => .object "BoardMillModel$GridRipUpModel"
  | 13 => .object "BoardMillModel$NetJoinsModel"
  | 14 => .int
  | 15 => .int
  | 16 => .array .int
  | 17 => .array .int
  | 18 => .array .int
  | 19 => .array .int
  | 20 => .array .int
  | 21 => .array .int
  | 22 => .int
  | 23 => .array .int
  | 24 => .int
  | 25 => .array .int
  | 26 => .array .int
  | 27 => .array .int
  | 28 => .array .int
  | 29 => .int
  | 30 => .int
  | 31 => .object "BoardMillModel$CopperNetsModel"
  | 32 => .object "BoardMillModel$CleanChecksModel"
  | 33 => .int
  | 34 => .boolean
  | 35 => .int
  | 36 => .array .int
  | 37 => .array .int
  | 38 => .array .int
  | 39 => .array .int
  | 40 => .object "BoardMillModel$DrillArchiveModel"
  | 41 => .boolean
  | 42 => .int
  | 43 => .object "BoardMillModel$DrillArchiveModel"
  | 44 => .int
  | 45 => .int
  | 46 => .int
  | 47 => .object "BoardMillModel$BoardScriptModel"
  | 48 => .object "BoardMillModel$BoardStoreModel"
  | 49 => .int
  | _ => .object "BoardMillModel$ReleaseLeavesModel"
abbrev wsX210 : List Cond := u_ws RX21 TX21 51
theorem nmX21 : ∀ a, a < 51 → ∀ b, b < 51 → a ≠ b → (TX21 a).2.1 ≠ (TX21 b).2.1 := by decide +kernel
theorem tyX21_ok : ∀ k, k < 51 → parseFieldDescriptor (TX21 k).2.2.1 = some (tyX21 k) := by decide +kernel
abbrev vwCl : List vw_C := [(RX0, TX0, 18), (RX1, TX1, 19), (RX2, TX2, 13), (RX3, TX3, 16), (RX4, TX4, 18), (RX5, TX5, 14), (RX6, TX6, 7), (RX7, TX7, 3), (RX8, TX8, 7), (RX9, TX9, 8), (RX10, TX10, 13), (RX11, TX11, 20), (RX12, TX12, 67), (RX13, TX13, 21), (RX14, TX14, 25), (RX15, TX15, 19), (RX16, TX16, 39), (RX17, TX17, 25), (RX18, TX18, 33), (RX19, TX19, 32), (RX20, TX20, 31), (RX21, TX21, 51)]
