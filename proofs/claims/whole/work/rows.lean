section
-- ===== PART A: goes FIRST, ahead of the names: the tables' words, and 'selects' of the private methods out of them =====
/-- a private method of a class that the tables say can be made, by its rows of tables_1 -/
def lw_okq (q : MethodName × Nat) : Prop := (q.1.cls ≠ "java/lang/invoke/MethodHandle" ∧ q.1.cls ≠ "java/lang/invoke/VarHandle") ∧ Cond.instantiable q.1.cls q.2 ∈ tables_1 ∧ Cond.privateMethod q.1 ∈ tables_1 ∧ Cond.instanceMethod q.1 ∈ tables_1
theorem lw_p0 : lw_okq (⟨"ChangeCodec", "hasOperations", "()Z"⟩, 8) := ⟨⟨by decide +kernel, by decide +kernel⟩, List.mem_of_getElem? (i := 18) (by decide +kernel), List.mem_of_getElem? (i := 159) (by decide +kernel), List.mem_of_getElem? (i := 160) (by decide +kernel)⟩
theorem lw_p1 : lw_okq (⟨"ChangeCodec$Reader", "readNumber", "(II)I"⟩, 5) := ⟨⟨by decide +kernel, by decide +kernel⟩, List.mem_of_getElem? (i := 43) (by decide +kernel), List.mem_of_getElem? (i := 207) (by decide +kernel), List.mem_of_getElem? (i := 208) (by decide +kernel)⟩
theorem lw_p2 : lw_okq (⟨"ChangeCodec$Reader", "readU", "()I"⟩, 5) := ⟨⟨by decide +kernel, by decide +kernel⟩, List.mem_of_getElem? (i := 43) (by decide +kernel), List.mem_of_getElem? (i := 211) (by decide +kernel), List.mem_of_getElem? (i := 212) (by decide +kernel)⟩
theorem lw_p3 : lw_okq (⟨"ChangeCodec$Reader", "next", "()I"⟩, 5) := ⟨⟨by decide +kernel, by decide +kernel⟩, List.mem_of_getElem? (i := 43) (by decide +kernel), List.mem_of_getElem? (i := 215) (by decide +kernel), List.mem_of_getElem? (i := 216) (by decide +kernel)⟩
theorem lw_p4 : lw_okq (⟨"ChangeCodec$Reader", "fail", "(II)V"⟩, 5) := ⟨⟨by decide +kernel, by decide +kernel⟩, List.mem_of_getElem? (i := 43) (by decide +kernel), List.mem_of_getElem? (i := 219) (by decide +kernel), List.mem_of_getElem? (i := 220) (by decide +kernel)⟩
theorem lw_p5 : lw_okq (⟨"ChangeCodec$Reader", "readHead", "(LChangeCodec$Change;)V"⟩, 5) := ⟨⟨by decide +kernel, by decide +kernel⟩, List.mem_of_getElem? (i := 43) (by decide +kernel), List.mem_of_getElem? (i := 223) (by decide +kernel), List.mem_of_getElem? (i := 224) (by decide +kernel)⟩
theorem lw_p6 : lw_okq (⟨"ChangeCodec$Reader", "readByte", "(II)I"⟩, 5) := ⟨⟨by decide +kernel, by decide +kernel⟩, List.mem_of_getElem? (i := 43) (by decide +kernel), List.mem_of_getElem? (i := 227) (by decide +kernel), List.mem_of_getElem? (i := 228) (by decide +kernel)⟩
theorem lw_p7 : lw_okq (⟨"ChangeCodec$Reader", "readClock", "(LChangeCodec$Change;)V"⟩, 5) := ⟨⟨by decide +kernel, by decide +kernel⟩, List.mem_of_getElem? (i := 43) (by decide +kernel), List.mem_of_getElem? (i := 239) (by decide +kernel), List.mem_of_getElem? (i := 240) (by decide +kernel)⟩
theorem lw_p8 : lw_okq (⟨"ChangeCodec$Reader", "readCount", "(I)I"⟩, 5) := ⟨⟨by decide +kernel, by decide +kernel⟩, List.mem_of_getElem? (i := 43) (by decide +kernel), List.mem_of_getElem? (i := 243) (by decide +kernel), List.mem_of_getElem? (i := 244) (by decide +kernel)⟩
theorem lw_p9 : lw_okq (⟨"ChangeCodec$Reader", "readOperation", "(LChangeCodec$Change;I)V"⟩, 5) := ⟨⟨by decide +kernel, by decide +kernel⟩, List.mem_of_getElem? (i := 43) (by decide +kernel), List.mem_of_getElem? (i := 254) (by decide +kernel), List.mem_of_getElem? (i := 255) (by decide +kernel)⟩
theorem lw_p10 : lw_okq (⟨"ChangeCodec$Reader", "readRef", "(IZ)I"⟩, 5) := ⟨⟨by decide +kernel, by decide +kernel⟩, List.mem_of_getElem? (i := 43) (by decide +kernel), List.mem_of_getElem? (i := 261) (by decide +kernel), List.mem_of_getElem? (i := 262) (by decide +kernel)⟩
theorem lw_p11 : lw_okq (⟨"ChangeCodec$Reader", "readLetters", "(II)J"⟩, 5) := ⟨⟨by decide +kernel, by decide +kernel⟩, List.mem_of_getElem? (i := 43) (by decide +kernel), List.mem_of_getElem? (i := 269) (by decide +kernel), List.mem_of_getElem? (i := 270) (by decide +kernel)⟩
theorem lw_p12 : lw_okq (⟨"ChangeCodec$Reader", "readValue", "(II)I"⟩, 5) := ⟨⟨by decide +kernel, by decide +kernel⟩, List.mem_of_getElem? (i := 43) (by decide +kernel), List.mem_of_getElem? (i := 273) (by decide +kernel), List.mem_of_getElem? (i := 274) (by decide +kernel)⟩
theorem lw_p13 : lw_okq (⟨"ChangeCodec$Reader", "readS", "()I"⟩, 5) := ⟨⟨by decide +kernel, by decide +kernel⟩, List.mem_of_getElem? (i := 43) (by decide +kernel), List.mem_of_getElem? (i := 277) (by decide +kernel), List.mem_of_getElem? (i := 278) (by decide +kernel)⟩
theorem lw_p14 : lw_okq (⟨"ChangeCodec$Reader", "readCheck", "(I)V"⟩, 5) := ⟨⟨by decide +kernel, by decide +kernel⟩, List.mem_of_getElem? (i := 43) (by decide +kernel), List.mem_of_getElem? (i := 285) (by decide +kernel), List.mem_of_getElem? (i := 286) (by decide +kernel)⟩
theorem lw_p15 : lw_okq (⟨"ChangeCodec", "tradeDraft", "()V"⟩, 8) := ⟨⟨by decide +kernel, by decide +kernel⟩, List.mem_of_getElem? (i := 18) (by decide +kernel), List.mem_of_getElem? (i := 298) (by decide +kernel), List.mem_of_getElem? (i := 299) (by decide +kernel)⟩
def lw_privs_1 : List (MethodName × Nat) := [(⟨"ChangeCodec", "hasOperations", "()Z"⟩, 8), (⟨"ChangeCodec$Reader", "readNumber", "(II)I"⟩, 5), (⟨"ChangeCodec$Reader", "readU", "()I"⟩, 5), (⟨"ChangeCodec$Reader", "next", "()I"⟩, 5), (⟨"ChangeCodec$Reader", "fail", "(II)V"⟩, 5), (⟨"ChangeCodec$Reader", "readHead", "(LChangeCodec$Change;)V"⟩, 5), (⟨"ChangeCodec$Reader", "readByte", "(II)I"⟩, 5), (⟨"ChangeCodec$Reader", "readClock", "(LChangeCodec$Change;)V"⟩, 5), (⟨"ChangeCodec$Reader", "readCount", "(I)I"⟩, 5), (⟨"ChangeCodec$Reader", "readOperation", "(LChangeCodec$Change;I)V"⟩, 5), (⟨"ChangeCodec$Reader", "readRef", "(IZ)I"⟩, 5), (⟨"ChangeCodec$Reader", "readLetters", "(II)J"⟩, 5), (⟨"ChangeCodec$Reader", "readValue", "(II)I"⟩, 5), (⟨"ChangeCodec$Reader", "readS", "()I"⟩, 5), (⟨"ChangeCodec$Reader", "readCheck", "(I)V"⟩, 5), (⟨"ChangeCodec", "tradeDraft", "()V"⟩, 8)]
theorem lw_r1 : ∀ q ∈ lw_privs_1, lw_okq q := List.forall_mem_cons.mpr ⟨lw_p0, List.forall_mem_cons.mpr ⟨lw_p1, List.forall_mem_cons.mpr ⟨lw_p2, List.forall_mem_cons.mpr ⟨lw_p3, List.forall_mem_cons.mpr ⟨lw_p4, List.forall_mem_cons.mpr ⟨lw_p5, List.forall_mem_cons.mpr ⟨lw_p6, List.forall_mem_cons.mpr ⟨lw_p7, List.forall_mem_cons.mpr ⟨lw_p8, List.forall_mem_cons.mpr ⟨lw_p9, List.forall_mem_cons.mpr ⟨lw_p10, List.forall_mem_cons.mpr ⟨lw_p11, List.forall_mem_cons.mpr ⟨lw_p12, List.forall_mem_cons.mpr ⟨lw_p13, List.forall_mem_cons.mpr ⟨lw_p14, List.forall_mem_cons.mpr ⟨lw_p15, fun _ h => absurd h List.not_mem_nil⟩⟩⟩⟩⟩⟩⟩⟩⟩⟩⟩⟩⟩⟩⟩⟩
theorem lw_p16 : lw_okq (⟨"java/lang/Throwable", "fillInStackTrace", "(I)Ljava/lang/Throwable;"⟩, 6) := ⟨⟨by decide +kernel, by decide +kernel⟩, List.mem_of_getElem? (i := 374) (by decide +kernel), List.mem_of_getElem? (i := 372) (by decide +kernel), List.mem_of_getElem? (i := 373) (by decide +kernel)⟩
theorem lw_p17 : lw_okq (⟨"ChangeCodec", "measure", "()I"⟩, 8) := ⟨⟨by decide +kernel, by decide +kernel⟩, List.mem_of_getElem? (i := 18) (by decide +kernel), List.mem_of_getElem? (i := 464) (by decide +kernel), List.mem_of_getElem? (i := 465) (by decide +kernel)⟩
theorem lw_p18 : lw_okq (⟨"ChangeCodec$Change", "putClock", "(LChangeCodec$Bytes;)V"⟩, 10) := ⟨⟨by decide +kernel, by decide +kernel⟩, List.mem_of_getElem? (i := 71) (by decide +kernel), List.mem_of_getElem? (i := 480) (by decide +kernel), List.mem_of_getElem? (i := 481) (by decide +kernel)⟩
theorem lw_p19 : lw_okq (⟨"ChangeCodec", "hasOperation", "(I)Z"⟩, 8) := ⟨⟨by decide +kernel, by decide +kernel⟩, List.mem_of_getElem? (i := 18) (by decide +kernel), List.mem_of_getElem? (i := 547) (by decide +kernel), List.mem_of_getElem? (i := 548) (by decide +kernel)⟩
theorem lw_p20 : lw_okq (⟨"ChangeCodecModel", "idOf", "(I)I"⟩, 33) := ⟨⟨by decide +kernel, by decide +kernel⟩, List.mem_of_getElem? (i := 574) (by decide +kernel), List.mem_of_getElem? (i := 700) (by decide +kernel), List.mem_of_getElem? (i := 701) (by decide +kernel)⟩
theorem lw_p21 : lw_okq (⟨"ChangeCodecModel", "isWhole", "()Z"⟩, 33) := ⟨⟨by decide +kernel, by decide +kernel⟩, List.mem_of_getElem? (i := 574) (by decide +kernel), List.mem_of_getElem? (i := 728) (by decide +kernel), List.mem_of_getElem? (i := 729) (by decide +kernel)⟩
theorem lw_p22 : lw_okq (⟨"ChangeCodecModel", "layBody", "()V"⟩, 33) := ⟨⟨by decide +kernel, by decide +kernel⟩, List.mem_of_getElem? (i := 574) (by decide +kernel), List.mem_of_getElem? (i := 732) (by decide +kernel), List.mem_of_getElem? (i := 733) (by decide +kernel)⟩
theorem lw_p23 : lw_okq (⟨"ChangeCodecModel", "lay", "(I)V"⟩, 33) := ⟨⟨by decide +kernel, by decide +kernel⟩, List.mem_of_getElem? (i := 574) (by decide +kernel), List.mem_of_getElem? (i := 736) (by decide +kernel), List.mem_of_getElem? (i := 737) (by decide +kernel)⟩
theorem lw_p24 : lw_okq (⟨"ChangeCodecModel", "layU", "(I)V"⟩, 33) := ⟨⟨by decide +kernel, by decide +kernel⟩, List.mem_of_getElem? (i := 574) (by decide +kernel), List.mem_of_getElem? (i := 740) (by decide +kernel), List.mem_of_getElem? (i := 741) (by decide +kernel)⟩
theorem lw_p25 : lw_okq (⟨"ChangeCodecModel", "layOperation", "(I)V"⟩, 33) := ⟨⟨by decide +kernel, by decide +kernel⟩, List.mem_of_getElem? (i := 574) (by decide +kernel), List.mem_of_getElem? (i := 744) (by decide +kernel), List.mem_of_getElem? (i := 745) (by decide +kernel)⟩
theorem lw_p26 : lw_okq (⟨"ChangeCodecModel", "layRef", "(II)V"⟩, 33) := ⟨⟨by decide +kernel, by decide +kernel⟩, List.mem_of_getElem? (i := 574) (by decide +kernel), List.mem_of_getElem? (i := 748) (by decide +kernel), List.mem_of_getElem? (i := 749) (by decide +kernel)⟩
theorem lw_p27 : lw_okq (⟨"ChangeCodecModel", "layLetters", "(J)V"⟩, 33) := ⟨⟨by decide +kernel, by decide +kernel⟩, List.mem_of_getElem? (i := 574) (by decide +kernel), List.mem_of_getElem? (i := 752) (by decide +kernel), List.mem_of_getElem? (i := 753) (by decide +kernel)⟩
theorem lw_p28 : lw_okq (⟨"ChangeCodecModel", "layS", "(I)V"⟩, 33) := ⟨⟨by decide +kernel, by decide +kernel⟩, List.mem_of_getElem? (i := 574) (by decide +kernel), List.mem_of_getElem? (i := 756) (by decide +kernel), List.mem_of_getElem? (i := 757) (by decide +kernel)⟩
theorem lw_p29 : lw_okq (⟨"ChangeCodecModel", "ahead", "()I"⟩, 33) := ⟨⟨by decide +kernel, by decide +kernel⟩, List.mem_of_getElem? (i := 574) (by decide +kernel), List.mem_of_getElem? (i := 760) (by decide +kernel), List.mem_of_getElem? (i := 761) (by decide +kernel)⟩
theorem lw_p30 : lw_okq (⟨"ChangeCodecModel", "readU", "()I"⟩, 33) := ⟨⟨by decide +kernel, by decide +kernel⟩, List.mem_of_getElem? (i := 574) (by decide +kernel), List.mem_of_getElem? (i := 792) (by decide +kernel), List.mem_of_getElem? (i := 793) (by decide +kernel)⟩
theorem lw_p31 : lw_okq (⟨"ChangeCodecModel", "next", "()I"⟩, 33) := ⟨⟨by decide +kernel, by decide +kernel⟩, List.mem_of_getElem? (i := 574) (by decide +kernel), List.mem_of_getElem? (i := 796) (by decide +kernel), List.mem_of_getElem? (i := 797) (by decide +kernel)⟩
def lw_privs_2 : List (MethodName × Nat) := [(⟨"java/lang/Throwable", "fillInStackTrace", "(I)Ljava/lang/Throwable;"⟩, 6), (⟨"ChangeCodec", "measure", "()I"⟩, 8), (⟨"ChangeCodec$Change", "putClock", "(LChangeCodec$Bytes;)V"⟩, 10), (⟨"ChangeCodec", "hasOperation", "(I)Z"⟩, 8), (⟨"ChangeCodecModel", "idOf", "(I)I"⟩, 33), (⟨"ChangeCodecModel", "isWhole", "()Z"⟩, 33), (⟨"ChangeCodecModel", "layBody", "()V"⟩, 33), (⟨"ChangeCodecModel", "lay", "(I)V"⟩, 33), (⟨"ChangeCodecModel", "layU", "(I)V"⟩, 33), (⟨"ChangeCodecModel", "layOperation", "(I)V"⟩, 33), (⟨"ChangeCodecModel", "layRef", "(II)V"⟩, 33), (⟨"ChangeCodecModel", "layLetters", "(J)V"⟩, 33), (⟨"ChangeCodecModel", "layS", "(I)V"⟩, 33), (⟨"ChangeCodecModel", "ahead", "()I"⟩, 33), (⟨"ChangeCodecModel", "readU", "()I"⟩, 33), (⟨"ChangeCodecModel", "next", "()I"⟩, 33)]
theorem lw_r2 : ∀ q ∈ lw_privs_2, lw_okq q := List.forall_mem_cons.mpr ⟨lw_p16, List.forall_mem_cons.mpr ⟨lw_p17, List.forall_mem_cons.mpr ⟨lw_p18, List.forall_mem_cons.mpr ⟨lw_p19, List.forall_mem_cons.mpr ⟨lw_p20, List.forall_mem_cons.mpr ⟨lw_p21, List.forall_mem_cons.mpr ⟨lw_p22, List.forall_mem_cons.mpr ⟨lw_p23, List.forall_mem_cons.mpr ⟨lw_p24, List.forall_mem_cons.mpr ⟨lw_p25, List.forall_mem_cons.mpr ⟨lw_p26, List.forall_mem_cons.mpr ⟨lw_p27, List.forall_mem_cons.mpr ⟨lw_p28, List.forall_mem_cons.mpr ⟨lw_p29, List.forall_mem_cons.mpr ⟨lw_p30, List.forall_mem_cons.mpr ⟨lw_p31, fun _ h => absurd h List.not_mem_nil⟩⟩⟩⟩⟩⟩⟩⟩⟩⟩⟩⟩⟩⟩⟩⟩
theorem lw_p32 : lw_okq (⟨"ChangeCodecModel", "wrong", "(II)I"⟩, 33) := ⟨⟨by decide +kernel, by decide +kernel⟩, List.mem_of_getElem? (i := 574) (by decide +kernel), List.mem_of_getElem? (i := 800) (by decide +kernel), List.mem_of_getElem? (i := 801) (by decide +kernel)⟩
theorem lw_p33 : lw_okq (⟨"ChangeCodecModel", "must", "(Z)V"⟩, 33) := ⟨⟨by decide +kernel, by decide +kernel⟩, List.mem_of_getElem? (i := 574) (by decide +kernel), List.mem_of_getElem? (i := 805) (by decide +kernel), List.mem_of_getElem? (i := 806) (by decide +kernel)⟩
theorem lw_p34 : lw_okq (⟨"ChangeCodecModel", "readBody", "()V"⟩, 33) := ⟨⟨by decide +kernel, by decide +kernel⟩, List.mem_of_getElem? (i := 574) (by decide +kernel), List.mem_of_getElem? (i := 809) (by decide +kernel), List.mem_of_getElem? (i := 810) (by decide +kernel)⟩
theorem lw_p35 : lw_okq (⟨"ChangeCodecModel", "readOperation", "(I)V"⟩, 33) := ⟨⟨by decide +kernel, by decide +kernel⟩, List.mem_of_getElem? (i := 574) (by decide +kernel), List.mem_of_getElem? (i := 813) (by decide +kernel), List.mem_of_getElem? (i := 814) (by decide +kernel)⟩
theorem lw_p36 : lw_okq (⟨"ChangeCodecModel", "readRef", "(IZ)I"⟩, 33) := ⟨⟨by decide +kernel, by decide +kernel⟩, List.mem_of_getElem? (i := 574) (by decide +kernel), List.mem_of_getElem? (i := 817) (by decide +kernel), List.mem_of_getElem? (i := 818) (by decide +kernel)⟩
theorem lw_p37 : lw_okq (⟨"ChangeCodecModel", "readLetters", "(II)J"⟩, 33) := ⟨⟨by decide +kernel, by decide +kernel⟩, List.mem_of_getElem? (i := 574) (by decide +kernel), List.mem_of_getElem? (i := 821) (by decide +kernel), List.mem_of_getElem? (i := 822) (by decide +kernel)⟩
theorem lw_p38 : lw_okq (⟨"ChangeCodecModel", "readS", "()I"⟩, 33) := ⟨⟨by decide +kernel, by decide +kernel⟩, List.mem_of_getElem? (i := 574) (by decide +kernel), List.mem_of_getElem? (i := 825) (by decide +kernel), List.mem_of_getElem? (i := 826) (by decide +kernel)⟩
theorem lw_p39 : lw_okq (⟨"ChangeCodecModel", "readCheck", "(I)V"⟩, 33) := ⟨⟨by decide +kernel, by decide +kernel⟩, List.mem_of_getElem? (i := 574) (by decide +kernel), List.mem_of_getElem? (i := 830) (by decide +kernel), List.mem_of_getElem? (i := 831) (by decide +kernel)⟩
theorem lw_p40 : lw_okq (⟨"ChangeCodecModel", "take", "()V"⟩, 33) := ⟨⟨by decide +kernel, by decide +kernel⟩, List.mem_of_getElem? (i := 574) (by decide +kernel), List.mem_of_getElem? (i := 834) (by decide +kernel), List.mem_of_getElem? (i := 835) (by decide +kernel)⟩
theorem lw_p41 : lw_okq (⟨"ChangeCodecModel", "isIn", "(I)Z"⟩, 33) := ⟨⟨by decide +kernel, by decide +kernel⟩, List.mem_of_getElem? (i := 574) (by decide +kernel), List.mem_of_getElem? (i := 846) (by decide +kernel), List.mem_of_getElem? (i := 847) (by decide +kernel)⟩
def lw_privs_3 : List (MethodName × Nat) := [(⟨"ChangeCodecModel", "wrong", "(II)I"⟩, 33), (⟨"ChangeCodecModel", "must", "(Z)V"⟩, 33), (⟨"ChangeCodecModel", "readBody", "()V"⟩, 33), (⟨"ChangeCodecModel", "readOperation", "(I)V"⟩, 33), (⟨"ChangeCodecModel", "readRef", "(IZ)I"⟩, 33), (⟨"ChangeCodecModel", "readLetters", "(II)J"⟩, 33), (⟨"ChangeCodecModel", "readS", "()I"⟩, 33), (⟨"ChangeCodecModel", "readCheck", "(I)V"⟩, 33), (⟨"ChangeCodecModel", "take", "()V"⟩, 33), (⟨"ChangeCodecModel", "isIn", "(I)Z"⟩, 33)]
theorem lw_r3 : ∀ q ∈ lw_privs_3, lw_okq q := List.forall_mem_cons.mpr ⟨lw_p32, List.forall_mem_cons.mpr ⟨lw_p33, List.forall_mem_cons.mpr ⟨lw_p34, List.forall_mem_cons.mpr ⟨lw_p35, List.forall_mem_cons.mpr ⟨lw_p36, List.forall_mem_cons.mpr ⟨lw_p37, List.forall_mem_cons.mpr ⟨lw_p38, List.forall_mem_cons.mpr ⟨lw_p39, List.forall_mem_cons.mpr ⟨lw_p40, List.forall_mem_cons.mpr ⟨lw_p41, fun _ h => absurd h List.not_mem_nil⟩⟩⟩⟩⟩⟩⟩⟩⟩⟩
def lw_privs : List (MethodName × Nat) := lw_privs_1 ++ (lw_privs_2 ++ (lw_privs_3))
def lw_tbl : List Cond := k2_sels lw_privs ++ tables_1
theorem lw_privs_ok : ∀ q ∈ lw_privs, lw_okq q := by
  show ∀ q ∈ lw_privs_1 ++ (lw_privs_2 ++ (lw_privs_3)), lw_okq q
  exact List.forall_mem_append.mpr ⟨lw_r1, List.forall_mem_append.mpr ⟨lw_r2, lw_r3⟩⟩

def gw : List Cond := lw_tbl.filter goodWord
theorem gw_at {w : Cond} (i : Nat) (h : tables_1[i]? = some w) (hg : goodWord w = true) : w ∈ gw := List.mem_filter.mpr ⟨List.mem_append_right _ (List.mem_of_getElem? h), hg⟩
theorem gw_sub (ws : List Cond) (h : ws.all (fun w => decide (w ∈ tables_1) && goodWord w) = true) : ∀ w ∈ ws, w ∈ gw := fun w hw => by
  have h1 := List.all_eq_true.mp h w hw
  rw [Bool.and_eq_true, decide_eq_true_eq] at h1
  exact List.mem_filter.mpr ⟨List.mem_append_right _ h1.1, h1.2⟩
theorem gw_sel {y : MethodName} {n : Nat} (i : Nat) (h : lw_privs[i]? = some (y, n)) : Cond.selects y.cls y y ∈ gw := List.mem_filter.mpr ⟨List.mem_append_left _ (List.mem_map.mpr ⟨(y, n), List.mem_of_getElem? h, rfl⟩), rfl⟩
theorem gw_gi {b : Cond} (hb : b ∈ gw) : GoodIn gw (b :: gw) := fun w hw => by
  have h1 : w ∈ gw := (List.mem_cons.mp hw).elim (fun e => e ▸ hb) id
  exact ⟨h1, good_of_word (List.mem_filter.mp h1).2⟩
section KW
variable {R : Room} {s : State} {args : Array Value} {own C : String} {index maxL mc ms : Nat} {y : MethodName} {bytes : ByteArray} {ret : Option FieldType} {rm : Room}
theorem kw_B (n : Nat) (hw : ∀ w ∈ gw, w.before args s = true) (h1 : Cond.methodLink own index y ∈ gw) (h4 : Cond.initialized y.cls ∈ gw) (h5 : Cond.code y bytes maxL ret ∈ gw) (hrc : rm.cells = mc) (hrs : rm.slots = ms)
    (hd : y.cls ≠ "java/lang/invoke/MethodHandle" ∧ y.cls ≠ "java/lang/invoke/VarHandle" ∧ (parseMethodDescriptor y.desc).map (fun d => d.parameters.length) = some n) (hR : rm.frames + 1 ≤ R.frames ∧ 8 + (maxL + 11) + rm.locals ≤ R.locals) :
    CallB R s args own index y bytes maxL ret (Cond.code y bytes maxL ret :: gw) rm mc ms n := callB_of n hw (gw_gi h5) rfl hrc hrs (hw _ h4) (hw _ h1) hd hR
theorem kw_I (n : Nat) (hw : ∀ w ∈ gw, w.before args s = true) (h1 : Cond.methodLink own index y ∈ gw) (h4 : Cond.initialized y.cls ∈ gw) (h5 : Cond.code y bytes maxL none ∈ gw) (h2 : Cond.instanceMethod y ∈ gw) (hy : y.name = "<init>") (hrc : rm.cells = mc) (hrs : rm.slots = ms)
    (hd : y.cls ≠ "java/lang/invoke/MethodHandle" ∧ y.cls ≠ "java/lang/invoke/VarHandle" ∧ (parseMethodDescriptor y.desc).map (fun d => d.parameters.length) = some n) (hR : rm.frames + 1 ≤ R.frames ∧ 8 + (maxL + 11) + rm.locals ≤ R.locals) :
    CallB R s args own index y bytes maxL none (Cond.code y bytes maxL none :: gw) rm mc ms n ∧ y.name = "<init>" ∧ (Cond.instanceMethod y).before args s = true := ⟨kw_B n hw h1 h4 h5 hrc hrs hd hR, hy, hw _ h2⟩
theorem kw_V (n : Nat) (hw : ∀ w ∈ gw, w.before args s = true) (h1 : Cond.methodLink own index y ∈ gw) (h4 : Cond.initialized y.cls ∈ gw) (h5 : Cond.code y bytes maxL ret ∈ gw) (h2 : Cond.instanceMethod y ∈ gw) (h3 : Cond.selects C y y ∈ gw) (hrc : rm.cells = mc) (hrs : rm.slots = ms)
    (hd : y.cls ≠ "java/lang/invoke/MethodHandle" ∧ y.cls ≠ "java/lang/invoke/VarHandle" ∧ (parseMethodDescriptor y.desc).map (fun d => d.parameters.length) = some n) (hR : rm.frames + 1 ≤ R.frames ∧ 8 + (maxL + 11) + rm.locals ≤ R.locals) :
    CallW R s args own C index y bytes maxL ret (Cond.code y bytes maxL ret :: gw) rm mc ms n := ⟨kw_B n hw h1 h4 h5 hrc hrs hd hR, hw _ h2, hw _ h3⟩
theorem kw_S (n : Nat) (hw : ∀ w ∈ gw, w.before args s = true) (h1 : Cond.methodLink own index y ∈ gw) (h4 : Cond.initialized y.cls ∈ gw) (h5 : Cond.code y bytes maxL ret ∈ gw) (h2 : Cond.static y ∈ gw) (hrc : rm.cells = mc) (hrs : rm.slots = ms)
    (hd : y.cls ≠ "java/lang/invoke/MethodHandle" ∧ y.cls ≠ "java/lang/invoke/VarHandle" ∧ (parseMethodDescriptor y.desc).map (fun d => d.parameters.length) = some n) (hR : rm.frames + 1 ≤ R.frames ∧ 8 + (maxL + 11) + rm.locals ≤ R.locals) :
    CallB R s args own index y bytes maxL ret (Cond.code y bytes maxL ret :: gw) rm mc ms n ∧ (Cond.static y).before args s = true := ⟨kw_B n hw h1 h4 h5 hrc hrs hd hR, hw _ h2⟩
end KW
end
section
abbrev RR_X : String := "ChangeCodec"
def TT_X : u_T := fun k => match k with
  | 0 => ("ChangeCodec", "written", "LChangeCodec$Bytes;", true)
  | 1 => ("ChangeCodec", "given", "LChangeCodec$Bytes;", true)
  | 2 => ("ChangeCodec", "body", "LChangeCodec$Bytes;", true)
  | 3 => ("ChangeCodec", "reader", "LChangeCodec$Reader;", true)
  | 4 => ("ChangeCodec", "change", "LChangeCodec$Change;", false)
  | 5 => ("ChangeCodec", "draft", "LChangeCodec$Change;", false)
  | 6 => ("ChangeCodec", "begun", "Z", false)
  | _ => ("ChangeCodec", "at", "I", false)
def ty_X : Nat → FieldType := fun k => match k with
  | 0 => .object "ChangeCodec$Bytes"
  | 1 => .object "ChangeCodec$Bytes"
  | 2 => .object "ChangeCodec$Bytes"
  | 3 => .object "ChangeCodec$Reader"
  | 4 => .object "ChangeCodec$Change"
  | 5 => .object "ChangeCodec$Change"
  | 6 => .boolean
  | _ => .int
theorem nm_X : ∀ a, a < 8 → ∀ b, b < 8 → a ≠ b → (TT_X a).2.1 ≠ (TT_X b).2.1 := by decide +kernel
theorem ty_X_ok : ∀ k, k < 8 → parseFieldDescriptor (TT_X k).2.2.1 = some (ty_X k) := by decide +kernel
theorem hh_X : ∀ w ∈ u_ws RR_X TT_X 8, w ∈ gw := gw_sub _ (by decide +kernel)
abbrev RR_M : String := "ChangeCodecModel"
def TT_M : u_T := fun k => match k with
  | 0 => ("ChangeCodecModel", "thrown", "I", false)
  | 1 => ("ChangeCodecModel", "there", "Z", false)
  | 2 => ("ChangeCodecModel", "actor", "I", false)
  | 3 => ("ChangeCodecModel", "seq", "I", false)
  | 4 => ("ChangeCodecModel", "counter", "I", false)
  | 5 => ("ChangeCodecModel", "clock", "[I", true)
  | 6 => ("ChangeCodecModel", "many", "I", false)
  | 7 => ("ChangeCodecModel", "types", "[I", true)
  | 8 => ("ChangeCodecModel", "objects", "[I", true)
  | 9 => ("ChangeCodecModel", "keys", "[J", true)
  | 10 => ("ChangeCodecModel", "kinds", "[I", true)
  | 11 => ("ChangeCodecModel", "values", "[I", true)
  | 12 => ("ChangeCodecModel", "newActor", "I", false)
  | 13 => ("ChangeCodecModel", "newSeq", "I", false)
  | 14 => ("ChangeCodecModel", "newCounter", "I", false)
  | 15 => ("ChangeCodecModel", "newClock", "[I", true)
  | 16 => ("ChangeCodecModel", "newMany", "I", false)
  | 17 => ("ChangeCodecModel", "newTypes", "[I", true)
  | 18 => ("ChangeCodecModel", "newObjects", "[I", true)
  | 19 => ("ChangeCodecModel", "newKeys", "[J", true)
  | 20 => ("ChangeCodecModel", "newKinds", "[I", true)
  | 21 => ("ChangeCodecModel", "newValues", "[I", true)
  | 22 => ("ChangeCodecModel", "output", "[B", true)
  | 23 => ("ChangeCodecModel", "outputs", "I", false)
  | 24 => ("ChangeCodecModel", "input", "[B", true)
  | 25 => ("ChangeCodecModel", "inputs", "I", false)
  | 26 => ("ChangeCodecModel", "at", "I", false)
  | 27 => ("ChangeCodecModel", "fault", "I", false)
  | 28 => ("ChangeCodecModel", "place", "I", false)
  | 29 => ("ChangeCodecModel", "body", "[B", true)
  | 30 => ("ChangeCodecModel", "length", "I", false)
  | 31 => ("ChangeCodecModel", "p", "I", false)
  | _ => ("ChangeCodecModel", "end", "I", false)
def ty_M : Nat → FieldType := fun k => match k with
  | 0 => .int
  | 1 => .boolean
  | 2 => .int
  | 3 => .int
  | 4 => .int
  | 5 => .array .int
  | 6 => .int
  | 7 => .array .int
  | 8 => .array .int
  | 9 => .array .long
  | 10 => .array .int
  | 11 => .array .int
  | 12 => .int
  | 13 => .int
  | 14 => .int
  | 15 => .array .int
  | 16 => .int
  | 17 => .array .int
  | 18 => .array .int
  | 19 => .array .long
  | 20 => .array .int
  | 21 => .array .int
  | 22 => .array .byte
  | 23 => .int
  | 24 => .array .byte
  | 25 => .int
  | 26 => .int
  | 27 => .int
  | 28 => .int
  | 29 => .array .byte
  | 30 => .int
  | 31 => .int
  | _ => .int
theorem nm_M : ∀ a, a < 33 → ∀ b, b < 33 → a ≠ b → (TT_M a).2.1 ≠ (TT_M b).2.1 := by decide +kernel
theorem ty_M_ok : ∀ k, k < 33 → parseFieldDescriptor (TT_M k).2.2.1 = some (ty_M k) := by decide +kernel
theorem hh_M : ∀ w ∈ u_ws RR_M TT_M 33, w ∈ gw := gw_sub _ (by decide +kernel)
abbrev RR_B : String := "ChangeCodec$Bytes"
def TT_B : u_T := fun k => match k with
  | 0 => ("ChangeCodec$Bytes", "cells", "[B", true)
  | _ => ("ChangeCodec$Bytes", "used", "I", false)
def ty_B : Nat → FieldType := fun k => match k with
  | 0 => .array .byte
  | _ => .int
theorem nm_B : ∀ a, a < 2 → ∀ b, b < 2 → a ≠ b → (TT_B a).2.1 ≠ (TT_B b).2.1 := by decide +kernel
theorem ty_B_ok : ∀ k, k < 2 → parseFieldDescriptor (TT_B k).2.2.1 = some (ty_B k) := by decide +kernel
theorem hh_B : ∀ w ∈ u_ws RR_B TT_B 2, w ∈ gw := gw_sub _ (by decide +kernel)
abbrev RR_C : String := "ChangeCodec$Change"
def TT_C : u_T := fun k => match k with
  | 0 => ("ChangeCodec$Change", "actor", "I", false)
  | 1 => ("ChangeCodec$Change", "seq", "I", false)
  | 2 => ("ChangeCodec$Change", "counter", "I", false)
  | 3 => ("ChangeCodec$Change", "count", "I", false)
  | 4 => ("ChangeCodec$Change", "clock", "[I", true)
  | 5 => ("ChangeCodec$Change", "types", "[I", true)
  | 6 => ("ChangeCodec$Change", "objects", "[I", true)
  | 7 => ("ChangeCodec$Change", "keys", "[J", true)
  | 8 => ("ChangeCodec$Change", "kinds", "[I", true)
  | _ => ("ChangeCodec$Change", "values", "[I", true)
def ty_C : Nat → FieldType := fun k => match k with
  | 0 => .int
  | 1 => .int
  | 2 => .int
  | 3 => .int
  | 4 => .array .int
  | 5 => .array .int
  | 6 => .array .int
  | 7 => .array .long
  | 8 => .array .int
  | _ => .array .int
theorem nm_C : ∀ a, a < 10 → ∀ b, b < 10 → a ≠ b → (TT_C a).2.1 ≠ (TT_C b).2.1 := by decide +kernel
theorem ty_C_ok : ∀ k, k < 10 → parseFieldDescriptor (TT_C k).2.2.1 = some (ty_C k) := by decide +kernel
theorem hh_C : ∀ w ∈ u_ws RR_C TT_C 10, w ∈ gw := gw_sub _ (by decide +kernel)
abbrev RR_D : String := "ChangeCodec$Reader"
def TT_D : u_T := fun k => match k with
  | 0 => ("ChangeCodec$Reader", "source", "LChangeCodec$Bytes;", true)
  | 1 => ("ChangeCodec$Reader", "here", "I", false)
  | 2 => ("ChangeCodec$Reader", "end", "I", false)
  | 3 => ("ChangeCodec$Reader", "fault", "I", false)
  | _ => ("ChangeCodec$Reader", "place", "I", false)
def ty_D : Nat → FieldType := fun k => match k with
  | 0 => .object "ChangeCodec$Bytes"
  | 1 => .int
  | 2 => .int
  | 3 => .int
  | _ => .int
theorem nm_D : ∀ a, a < 5 → ∀ b, b < 5 → a ≠ b → (TT_D a).2.1 ≠ (TT_D b).2.1 := by decide +kernel
theorem ty_D_ok : ∀ k, k < 5 → parseFieldDescriptor (TT_D k).2.2.1 = some (ty_D k) := by decide +kernel
theorem hh_D : ∀ w ∈ u_ws RR_D TT_D 5, w ∈ gw := gw_sub _ (by decide +kernel)
abbrev RR_W : String := "ChangeCodecLaw"
abbrev vcl : List vw_C := [(RR_X, TT_X, 8), (RR_M, TT_M, 33), (RR_B, TT_B, 2), (RR_C, TT_C, 10), (RR_D, TT_D, 5)]
abbrev cc_B_init : ByteArray := prog_2_method_1_code
def yy_B_init : MethodName := ⟨"ChangeCodec$Bytes", "<init>", "(I)V"⟩
abbrev cc_B_room : ByteArray := prog_2_method_2_code
def yy_B_room : MethodName := ⟨"ChangeCodec$Bytes", "room", "()I"⟩
abbrev cc_B_byteAt : ByteArray := prog_2_method_3_code
def yy_B_byteAt : MethodName := ⟨"ChangeCodec$Bytes", "byteAt", "(I)I"⟩
abbrev cc_B_put : ByteArray := prog_2_method_4_code
def yy_B_put : MethodName := ⟨"ChangeCodec$Bytes", "put", "(I)V"⟩
abbrev cc_B_putAll : ByteArray := prog_2_method_5_code
def yy_B_putAll : MethodName := ⟨"ChangeCodec$Bytes", "putAll", "(LChangeCodec$Bytes;)V"⟩
abbrev cc_B_putU : ByteArray := prog_2_method_6_code
def yy_B_putU : MethodName := ⟨"ChangeCodec$Bytes", "putU", "(I)V"⟩
abbrev cc_B_putS : ByteArray := prog_2_method_7_code
def yy_B_putS : MethodName := ⟨"ChangeCodec$Bytes", "putS", "(I)V"⟩
abbrev cc_B_putRef : ByteArray := prog_2_method_8_code
def yy_B_putRef : MethodName := ⟨"ChangeCodec$Bytes", "putRef", "(II)V"⟩
abbrev cc_B_putLetters : ByteArray := prog_2_method_9_code
def yy_B_putLetters : MethodName := ⟨"ChangeCodec$Bytes", "putLetters", "(J)V"⟩
abbrev cc_B_putHighestFirst : ByteArray := prog_2_method_10_code
def yy_B_putHighestFirst : MethodName := ⟨"ChangeCodec$Bytes", "putHighestFirst", "(JI)V"⟩
abbrev cc_B_putLowestFirst : ByteArray := prog_2_method_11_code
def yy_B_putLowestFirst : MethodName := ⟨"ChangeCodec$Bytes", "putLowestFirst", "(I)V"⟩
abbrev cc_B_checkOf : ByteArray := prog_2_method_12_code
def yy_B_checkOf : MethodName := ⟨"ChangeCodec$Bytes", "checkOf", "(II)I"⟩
abbrev cc_B_lengthOfU : ByteArray := prog_2_method_13_code
def yy_B_lengthOfU : MethodName := ⟨"ChangeCodec$Bytes", "lengthOfU", "(I)I"⟩
abbrev cc_C_init : ByteArray := prog_3_method_1_code
def yy_C_init : MethodName := ⟨"ChangeCodec$Change", "<init>", "()V"⟩
abbrev cc_C_start : ByteArray := prog_3_method_2_code
def yy_C_start : MethodName := ⟨"ChangeCodec$Change", "start", "(III)V"⟩
abbrev cc_C_clockOf : ByteArray := prog_3_method_3_code
def yy_C_clockOf : MethodName := ⟨"ChangeCodec$Change", "clockOf", "(I)I"⟩
abbrev cc_C_idOf : ByteArray := prog_3_method_4_code
def yy_C_idOf : MethodName := ⟨"ChangeCodec$Change", "idOf", "(I)I"⟩
abbrev cc_C_append : ByteArray := prog_3_method_5_code
def yy_C_append : MethodName := ⟨"ChangeCodec$Change", "append", "(IIJII)V"⟩
abbrev cc_C_putHead : ByteArray := prog_3_method_6_code
def yy_C_putHead : MethodName := ⟨"ChangeCodec$Change", "putHead", "(LChangeCodec$Bytes;)V"⟩
abbrev cc_C_putClock : ByteArray := prog_3_method_7_code
def yy_C_putClock : MethodName := ⟨"ChangeCodec$Change", "putClock", "(LChangeCodec$Bytes;)V"⟩
abbrev cc_C_putOperation : ByteArray := prog_3_method_8_code
def yy_C_putOperation : MethodName := ⟨"ChangeCodec$Change", "putOperation", "(LChangeCodec$Bytes;I)V"⟩
abbrev cc_C_putValue : ByteArray := prog_3_method_9_code
def yy_C_putValue : MethodName := ⟨"ChangeCodec$Change", "putValue", "(LChangeCodec$Bytes;III)V"⟩
abbrev cc_D_init : ByteArray := prog_4_method_1_code
def yy_D_init : MethodName := ⟨"ChangeCodec$Reader", "<init>", "()V"⟩
abbrev cc_D_readChange : ByteArray := prog_4_method_2_code
def yy_D_readChange : MethodName := ⟨"ChangeCodec$Reader", "readChange", "(LChangeCodec$Change;I)I"⟩
abbrev cc_D_readHead : ByteArray := prog_4_method_3_code
def yy_D_readHead : MethodName := ⟨"ChangeCodec$Reader", "readHead", "(LChangeCodec$Change;)V"⟩
abbrev cc_D_readClock : ByteArray := prog_4_method_4_code
def yy_D_readClock : MethodName := ⟨"ChangeCodec$Reader", "readClock", "(LChangeCodec$Change;)V"⟩
abbrev cc_D_readCount : ByteArray := prog_4_method_5_code
def yy_D_readCount : MethodName := ⟨"ChangeCodec$Reader", "readCount", "(I)I"⟩
abbrev cc_D_readOperation : ByteArray := prog_4_method_6_code
def yy_D_readOperation : MethodName := ⟨"ChangeCodec$Reader", "readOperation", "(LChangeCodec$Change;I)V"⟩
abbrev cc_D_readValue : ByteArray := prog_4_method_7_code
def yy_D_readValue : MethodName := ⟨"ChangeCodec$Reader", "readValue", "(II)I"⟩
abbrev cc_D_readRef : ByteArray := prog_4_method_8_code
def yy_D_readRef : MethodName := ⟨"ChangeCodec$Reader", "readRef", "(IZ)I"⟩
abbrev cc_D_readLetters : ByteArray := prog_4_method_9_code
def yy_D_readLetters : MethodName := ⟨"ChangeCodec$Reader", "readLetters", "(II)J"⟩
abbrev cc_D_readCheck : ByteArray := prog_4_method_10_code
def yy_D_readCheck : MethodName := ⟨"ChangeCodec$Reader", "readCheck", "(I)V"⟩
abbrev cc_D_readByte : ByteArray := prog_4_method_11_code
def yy_D_readByte : MethodName := ⟨"ChangeCodec$Reader", "readByte", "(II)I"⟩
abbrev cc_D_readNumber : ByteArray := prog_4_method_12_code
def yy_D_readNumber : MethodName := ⟨"ChangeCodec$Reader", "readNumber", "(II)I"⟩
abbrev cc_D_readU : ByteArray := prog_4_method_13_code
def yy_D_readU : MethodName := ⟨"ChangeCodec$Reader", "readU", "()I"⟩
abbrev cc_D_readS : ByteArray := prog_4_method_14_code
def yy_D_readS : MethodName := ⟨"ChangeCodec$Reader", "readS", "()I"⟩
abbrev cc_D_next : ByteArray := prog_4_method_15_code
def yy_D_next : MethodName := ⟨"ChangeCodec$Reader", "next", "()I"⟩
abbrev cc_D_fail : ByteArray := prog_4_method_16_code
def yy_D_fail : MethodName := ⟨"ChangeCodec$Reader", "fail", "(II)V"⟩
abbrev cc_U_isActor : ByteArray := prog_5_method_2_code
def yy_U_isActor : MethodName := ⟨"ChangeCodec$Rules", "isActor", "(I)Z"⟩
abbrev cc_U_isSeq : ByteArray := prog_5_method_3_code
def yy_U_isSeq : MethodName := ⟨"ChangeCodec$Rules", "isSeq", "(I)Z"⟩
abbrev cc_U_isCounter : ByteArray := prog_5_method_4_code
def yy_U_isCounter : MethodName := ⟨"ChangeCodec$Rules", "isCounter", "(I)Z"⟩
abbrev cc_U_isOperation : ByteArray := prog_5_method_5_code
def yy_U_isOperation : MethodName := ⟨"ChangeCodec$Rules", "isOperation", "(IIIJII)Z"⟩
abbrev cc_U_isHeader : ByteArray := prog_5_method_6_code
def yy_U_isHeader : MethodName := ⟨"ChangeCodec$Rules", "isHeader", "(II)Z"⟩
abbrev cc_U_isObject : ByteArray := prog_5_method_7_code
def yy_U_isObject : MethodName := ⟨"ChangeCodec$Rules", "isObject", "(III)Z"⟩
abbrev cc_U_isKey : ByteArray := prog_5_method_8_code
def yy_U_isKey : MethodName := ⟨"ChangeCodec$Rules", "isKey", "(IIJ)Z"⟩
abbrev cc_U_isValue : ByteArray := prog_5_method_9_code
def yy_U_isValue : MethodName := ⟨"ChangeCodec$Rules", "isValue", "(III)Z"⟩
abbrev cc_U_refersBack : ByteArray := prog_5_method_10_code
def yy_U_refersBack : MethodName := ⟨"ChangeCodec$Rules", "refersBack", "(JI)Z"⟩
abbrev cc_U_isLetter : ByteArray := prog_5_method_11_code
def yy_U_isLetter : MethodName := ⟨"ChangeCodec$Rules", "isLetter", "(I)Z"⟩
abbrev cc_U_lettersOf : ByteArray := prog_5_method_12_code
def yy_U_lettersOf : MethodName := ⟨"ChangeCodec$Rules", "lettersOf", "(I)J"⟩
abbrev cc_U_countLetters : ByteArray := prog_5_method_13_code
def yy_U_countLetters : MethodName := ⟨"ChangeCodec$Rules", "countLetters", "(J)I"⟩
abbrev cc_X_init : ByteArray := prog_1_method_1_code
def yy_X_init : MethodName := ⟨"ChangeCodec", "<init>", "()V"⟩
abbrev cc_X_begin : ByteArray := prog_1_method_2_code
def yy_X_begin : MethodName := ⟨"ChangeCodec", "begin", "(III)V"⟩
abbrev cc_X_hangs : ByteArray := prog_1_method_3_code
def yy_X_hangs : MethodName := ⟨"ChangeCodec", "hangs", "(II)Z"⟩
abbrev cc_X_add : ByteArray := prog_1_method_4_code
def yy_X_add : MethodName := ⟨"ChangeCodec", "add", "(IIJII)I"⟩
abbrev cc_X_undo : ByteArray := prog_1_method_5_code
def yy_X_undo : MethodName := ⟨"ChangeCodec", "undo", "()Z"⟩
abbrev cc_X_size : ByteArray := prog_1_method_6_code
def yy_X_size : MethodName := ⟨"ChangeCodec", "size", "()I"⟩
abbrev cc_X_write : ByteArray := prog_1_method_7_code
def yy_X_write : MethodName := ⟨"ChangeCodec", "write", "()I"⟩
abbrev cc_X_clear : ByteArray := prog_1_method_8_code
def yy_X_clear : MethodName := ⟨"ChangeCodec", "clear", "()V"⟩
abbrev cc_X_give : ByteArray := prog_1_method_9_code
def yy_X_give : MethodName := ⟨"ChangeCodec", "give", "(JI)Z"⟩
abbrev cc_X_cut : ByteArray := prog_1_method_10_code
def yy_X_cut : MethodName := ⟨"ChangeCodec", "cut", "(I)Z"⟩
abbrev cc_X_turn : ByteArray := prog_1_method_11_code
def yy_X_turn : MethodName := ⟨"ChangeCodec", "turn", "()V"⟩
abbrev cc_X_read : ByteArray := prog_1_method_12_code
def yy_X_read : MethodName := ⟨"ChangeCodec", "read", "()I"⟩
abbrev cc_X_of : ByteArray := prog_1_method_13_code
def yy_X_of : MethodName := ⟨"ChangeCodec", "of", "(I)I"⟩
abbrev cc_X_operation : ByteArray := prog_1_method_14_code
def yy_X_operation : MethodName := ⟨"ChangeCodec", "operation", "(II)I"⟩
abbrev cc_X_key : ByteArray := prog_1_method_15_code
def yy_X_key : MethodName := ⟨"ChangeCodec", "key", "(I)J"⟩
abbrev cc_X_output : ByteArray := prog_1_method_16_code
def yy_X_output : MethodName := ⟨"ChangeCodec", "output", "(I)I"⟩
abbrev cc_X_look : ByteArray := prog_1_method_17_code
def yy_X_look : MethodName := ⟨"ChangeCodec", "look", "(I)I"⟩
abbrev cc_X_hasOperations : ByteArray := prog_1_method_18_code
def yy_X_hasOperations : MethodName := ⟨"ChangeCodec", "hasOperations", "()Z"⟩
abbrev cc_X_hasOperation : ByteArray := prog_1_method_19_code
def yy_X_hasOperation : MethodName := ⟨"ChangeCodec", "hasOperation", "(I)Z"⟩
abbrev cc_X_measure : ByteArray := prog_1_method_20_code
def yy_X_measure : MethodName := ⟨"ChangeCodec", "measure", "()I"⟩
abbrev cc_X_tradeDraft : ByteArray := prog_1_method_21_code
def yy_X_tradeDraft : MethodName := ⟨"ChangeCodec", "tradeDraft", "()V"⟩
abbrev cc_M_init : ByteArray := prog_7_method_1_code
def yy_M_init : MethodName := ⟨"ChangeCodecModel", "<init>", "()V"⟩
abbrev cc_M_thrown : ByteArray := prog_7_method_2_code
def yy_M_thrown : MethodName := ⟨"ChangeCodecModel", "thrown", "()I"⟩
abbrev cc_M_isActor : ByteArray := prog_7_method_3_code
def yy_M_isActor : MethodName := ⟨"ChangeCodecModel", "isActor", "(I)Z"⟩
abbrev cc_M_isId : ByteArray := prog_7_method_4_code
def yy_M_isId : MethodName := ⟨"ChangeCodecModel", "isId", "(J)Z"⟩
abbrev cc_M_letters : ByteArray := prog_7_method_5_code
def yy_M_letters : MethodName := ⟨"ChangeCodecModel", "letters", "(J)I"⟩
abbrev cc_M_isValue : ByteArray := prog_7_method_6_code
def yy_M_isValue : MethodName := ⟨"ChangeCodecModel", "isValue", "(II)Z"⟩
abbrev cc_M_isOperation : ByteArray := prog_7_method_7_code
def yy_M_isOperation : MethodName := ⟨"ChangeCodecModel", "isOperation", "(IIIJII)Z"⟩
abbrev cc_M_idOf : ByteArray := prog_7_method_8_code
def yy_M_idOf : MethodName := ⟨"ChangeCodecModel", "idOf", "(I)I"⟩
abbrev cc_M_begin : ByteArray := prog_7_method_9_code
def yy_M_begin : MethodName := ⟨"ChangeCodecModel", "begin", "(III)V"⟩
abbrev cc_M_hangs : ByteArray := prog_7_method_10_code
def yy_M_hangs : MethodName := ⟨"ChangeCodecModel", "hangs", "(II)Z"⟩
abbrev cc_M_add : ByteArray := prog_7_method_11_code
def yy_M_add : MethodName := ⟨"ChangeCodecModel", "add", "(IIJII)I"⟩
abbrev cc_M_undo : ByteArray := prog_7_method_12_code
def yy_M_undo : MethodName := ⟨"ChangeCodecModel", "undo", "()Z"⟩
abbrev cc_M_lay : ByteArray := prog_7_method_13_code
def yy_M_lay : MethodName := ⟨"ChangeCodecModel", "lay", "(I)V"⟩
abbrev cc_M_layU : ByteArray := prog_7_method_14_code
def yy_M_layU : MethodName := ⟨"ChangeCodecModel", "layU", "(I)V"⟩
abbrev cc_M_layS : ByteArray := prog_7_method_15_code
def yy_M_layS : MethodName := ⟨"ChangeCodecModel", "layS", "(I)V"⟩
abbrev cc_M_layLetters : ByteArray := prog_7_method_16_code
def yy_M_layLetters : MethodName := ⟨"ChangeCodecModel", "layLetters", "(J)V"⟩
abbrev cc_M_layRef : ByteArray := prog_7_method_17_code
def yy_M_layRef : MethodName := ⟨"ChangeCodecModel", "layRef", "(II)V"⟩
abbrev cc_M_layOperation : ByteArray := prog_7_method_18_code
def yy_M_layOperation : MethodName := ⟨"ChangeCodecModel", "layOperation", "(I)V"⟩
abbrev cc_M_layBody : ByteArray := prog_7_method_19_code
def yy_M_layBody : MethodName := ⟨"ChangeCodecModel", "layBody", "()V"⟩
abbrev cc_M_checkOf : ByteArray := prog_7_method_20_code
def yy_M_checkOf : MethodName := ⟨"ChangeCodecModel", "checkOf", "([BII)I"⟩
abbrev cc_M_isWhole : ByteArray := prog_7_method_21_code
def yy_M_isWhole : MethodName := ⟨"ChangeCodecModel", "isWhole", "()Z"⟩
abbrev cc_M_ahead : ByteArray := prog_7_method_22_code
def yy_M_ahead : MethodName := ⟨"ChangeCodecModel", "ahead", "()I"⟩
abbrev cc_M_size : ByteArray := prog_7_method_23_code
def yy_M_size : MethodName := ⟨"ChangeCodecModel", "size", "()I"⟩
abbrev cc_M_write : ByteArray := prog_7_method_24_code
def yy_M_write : MethodName := ⟨"ChangeCodecModel", "write", "()I"⟩
abbrev cc_M_clear : ByteArray := prog_7_method_25_code
def yy_M_clear : MethodName := ⟨"ChangeCodecModel", "clear", "()V"⟩
abbrev cc_M_give : ByteArray := prog_7_method_26_code
def yy_M_give : MethodName := ⟨"ChangeCodecModel", "give", "(JI)Z"⟩
abbrev cc_M_cut : ByteArray := prog_7_method_27_code
def yy_M_cut : MethodName := ⟨"ChangeCodecModel", "cut", "(I)Z"⟩
abbrev cc_M_turn : ByteArray := prog_7_method_28_code
def yy_M_turn : MethodName := ⟨"ChangeCodecModel", "turn", "()V"⟩
abbrev cc_M_wrong : ByteArray := prog_7_method_29_code
def yy_M_wrong : MethodName := ⟨"ChangeCodecModel", "wrong", "(II)I"⟩
abbrev cc_M_next : ByteArray := prog_7_method_30_code
def yy_M_next : MethodName := ⟨"ChangeCodecModel", "next", "()I"⟩
abbrev cc_M_must : ByteArray := prog_7_method_31_code
def yy_M_must : MethodName := ⟨"ChangeCodecModel", "must", "(Z)V"⟩
abbrev cc_M_readU : ByteArray := prog_7_method_32_code
def yy_M_readU : MethodName := ⟨"ChangeCodecModel", "readU", "()I"⟩
abbrev cc_M_readS : ByteArray := prog_7_method_33_code
def yy_M_readS : MethodName := ⟨"ChangeCodecModel", "readS", "()I"⟩
abbrev cc_M_readLetters : ByteArray := prog_7_method_34_code
def yy_M_readLetters : MethodName := ⟨"ChangeCodecModel", "readLetters", "(II)J"⟩
abbrev cc_M_readRef : ByteArray := prog_7_method_35_code
def yy_M_readRef : MethodName := ⟨"ChangeCodecModel", "readRef", "(IZ)I"⟩
abbrev cc_M_readOperation : ByteArray := prog_7_method_36_code
def yy_M_readOperation : MethodName := ⟨"ChangeCodecModel", "readOperation", "(I)V"⟩
abbrev cc_M_readBody : ByteArray := prog_7_method_37_code
def yy_M_readBody : MethodName := ⟨"ChangeCodecModel", "readBody", "()V"⟩
abbrev cc_M_readCheck : ByteArray := prog_7_method_38_code
def yy_M_readCheck : MethodName := ⟨"ChangeCodecModel", "readCheck", "(I)V"⟩
abbrev cc_M_take : ByteArray := prog_7_method_39_code
def yy_M_take : MethodName := ⟨"ChangeCodecModel", "take", "()V"⟩
abbrev cc_M_read : ByteArray := prog_7_method_40_code
def yy_M_read : MethodName := ⟨"ChangeCodecModel", "read", "()I"⟩
abbrev cc_M_of : ByteArray := prog_7_method_41_code
def yy_M_of : MethodName := ⟨"ChangeCodecModel", "of", "(I)I"⟩
abbrev cc_M_isIn : ByteArray := prog_7_method_42_code
def yy_M_isIn : MethodName := ⟨"ChangeCodecModel", "isIn", "(I)Z"⟩
abbrev cc_M_operation : ByteArray := prog_7_method_43_code
def yy_M_operation : MethodName := ⟨"ChangeCodecModel", "operation", "(II)I"⟩
abbrev cc_M_key : ByteArray := prog_7_method_44_code
def yy_M_key : MethodName := ⟨"ChangeCodecModel", "key", "(I)J"⟩
abbrev cc_M_output : ByteArray := prog_7_method_45_code
def yy_M_output : MethodName := ⟨"ChangeCodecModel", "output", "(I)I"⟩
abbrev cc_M_look : ByteArray := prog_7_method_46_code
def yy_M_look : MethodName := ⟨"ChangeCodecModel", "look", "(I)I"⟩
abbrev cc_W_begin : ByteArray := method_3_code
def yy_W_begin : MethodName := ⟨"ChangeCodecLaw", "begin", "(LChangeCodec;III)I"⟩
abbrev cc_W_add : ByteArray := method_4_code
def yy_W_add : MethodName := ⟨"ChangeCodecLaw", "add", "(LChangeCodec;IIJII[J)I"⟩
abbrev cc_W_size : ByteArray := method_5_code
def yy_W_size : MethodName := ⟨"ChangeCodecLaw", "size", "(LChangeCodec;[J)I"⟩
abbrev cc_W_write : ByteArray := method_6_code
def yy_W_write : MethodName := ⟨"ChangeCodecLaw", "write", "(LChangeCodec;[J)I"⟩
abbrev cc_W_operation : ByteArray := method_7_code
def yy_W_operation : MethodName := ⟨"ChangeCodecLaw", "operation", "(LChangeCodec;II[J)I"⟩
abbrev cc_W_key : ByteArray := method_8_code
def yy_W_key : MethodName := ⟨"ChangeCodecLaw", "key", "(LChangeCodec;I[J)I"⟩
abbrev cc_W_law : ByteArray := code
def yy_W_law : MethodName := ⟨"ChangeCodecLaw", "law", "([I)Z"⟩
abbrev cc_J_fill : ByteArray := prog_18_method_103_code
def yy_J_fill : MethodName := ⟨"java/util/Arrays", "fill", "([II)V"⟩
abbrev cc_K_min : ByteArray := prog_12_method_69_code
def yy_K_min : MethodName := ⟨"java/lang/Math", "min", "(II)I"⟩
abbrev ks_pre (dC : Nat → ClassId) (dI : Nat → Nat → Nat) (tys : List (ClassId × FieldType)) (w0 : va_W) (sz : Nat) (U : State) : Prop := U.heap.size = sz ∧ va_P (dC, dI) vcl w0 U.heap ∧ va_K (dC, dI) vcl tys U ∧ va_D (fun _ => True) w0
abbrev ks_post (dC : Nat → ClassId) (dI : Nat → Nat → Nat) (tys : List (ClassId × FieldType)) (A : Nat → Prop) (w1 : va_W) (t : State) : Prop := va_P (dC, dI) vcl w1 t.heap ∧ va_K (dC, dI) vcl tys t ∧ va_D A w1
theorem ks_eqB {D : va_G} {cl : List vw_C} {tys : List (ClassId × FieldType)} {s : State} {a b : ClassId} (hK : va_K D cl tys s) (i j : Nat) (h1 : tys[i]? = some (a, .byte)) (h2 : tys[j]? = some (b, .byte)) : a = b := Option.some.inj ((show s.vm.findClass ("[" ++ FieldType.byte.toString) = some a from (hK.2 i _ h1).2).symm.trans (hK.2 j _ h2).2)
theorem ks_eqI {D : va_G} {cl : List vw_C} {tys : List (ClassId × FieldType)} {s : State} {a b : ClassId} (hK : va_K D cl tys s) (i j : Nat) (h1 : tys[i]? = some (a, .int)) (h2 : tys[j]? = some (b, .int)) : a = b := Option.some.inj ((show s.vm.findClass ("[" ++ FieldType.int.toString) = some a from (hK.2 i _ h1).2).symm.trans (hK.2 j _ h2).2)
theorem ks_eqJ {D : va_G} {cl : List vw_C} {tys : List (ClassId × FieldType)} {s : State} {a b : ClassId} (hK : va_K D cl tys s) (i j : Nat) (h1 : tys[i]? = some (a, .long)) (h2 : tys[j]? = some (b, .long)) : a = b := Option.some.inj ((show s.vm.findClass ("[" ++ FieldType.long.toString) = some a from (hK.2 i _ h1).2).symm.trans (hK.2 j _ h2).2)
end
section
theorem dd_B_init_0 : decode cc_B_init 0 = .ok (.aload_n 0, 1) := by decide +kernel
theorem dd_B_init_1 : decode cc_B_init 1 = .ok (.invokespecial 3, 3) := by decide +kernel
theorem dd_B_init_4 : decode cc_B_init 4 = .ok (.aload_n 0, 1) := by decide +kernel
theorem dd_B_init_5 : decode cc_B_init 5 = .ok (.iload_n 1, 1) := by decide +kernel
theorem dd_B_init_6 : decode cc_B_init 6 = .ok (.ifCond .lt 7, 3) := by decide +kernel
theorem dd_B_init_9 : decode cc_B_init 9 = .ok (.iload_n 1, 1) := by decide +kernel
theorem dd_B_init_10 : decode cc_B_init 10 = .ok (.goto 4, 3) := by decide +kernel
theorem dd_B_init_14 : decode cc_B_init 14 = .ok (.newarray .byte, 2) := by decide +kernel
theorem dd_B_init_16 : decode cc_B_init 16 = .ok (.putfield 9, 3) := by decide +kernel
theorem dd_B_init_19 : decode cc_B_init 19 = .ok (.aload_n 0, 1) := by decide +kernel
theorem dd_B_init_20 : decode cc_B_init 20 = .ok (.iconst 0, 1) := by decide +kernel
theorem dd_B_init_21 : decode cc_B_init 21 = .ok (.putfield 15, 3) := by decide +kernel
theorem dd_B_init_24 : decode cc_B_init 24 = .ok (.return_, 1) := by decide +kernel
theorem dd_C_init_0 : decode cc_C_init 0 = .ok (.aload_n 0, 1) := by decide +kernel
theorem dd_C_init_1 : decode cc_C_init 1 = .ok (.invokespecial 3, 3) := by decide +kernel
theorem dd_C_init_4 : decode cc_C_init 4 = .ok (.aload_n 0, 1) := by decide +kernel
theorem dd_C_init_5 : decode cc_C_init 5 = .ok (.bipush 8, 2) := by decide +kernel
theorem dd_C_init_7 : decode cc_C_init 7 = .ok (.newarray .int, 2) := by decide +kernel
theorem dd_C_init_9 : decode cc_C_init 9 = .ok (.putfield 9, 3) := by decide +kernel
theorem dd_C_init_12 : decode cc_C_init 12 = .ok (.aload_n 0, 1) := by decide +kernel
theorem dd_C_init_13 : decode cc_C_init 13 = .ok (.bipush 16, 2) := by decide +kernel
theorem dd_C_init_15 : decode cc_C_init 15 = .ok (.newarray .int, 2) := by decide +kernel
theorem dd_C_init_17 : decode cc_C_init 17 = .ok (.putfield 15, 3) := by decide +kernel
theorem dd_C_init_20 : decode cc_C_init 20 = .ok (.aload_n 0, 1) := by decide +kernel
theorem dd_C_init_21 : decode cc_C_init 21 = .ok (.bipush 16, 2) := by decide +kernel
theorem dd_C_init_23 : decode cc_C_init 23 = .ok (.newarray .int, 2) := by decide +kernel
theorem dd_C_init_25 : decode cc_C_init 25 = .ok (.putfield 18, 3) := by decide +kernel
theorem dd_C_init_28 : decode cc_C_init 28 = .ok (.aload_n 0, 1) := by decide +kernel
theorem dd_C_init_29 : decode cc_C_init 29 = .ok (.bipush 16, 2) := by decide +kernel
theorem dd_C_init_31 : decode cc_C_init 31 = .ok (.newarray .long, 2) := by decide +kernel
theorem dd_C_init_33 : decode cc_C_init 33 = .ok (.putfield 21, 3) := by decide +kernel
theorem dd_C_init_36 : decode cc_C_init 36 = .ok (.aload_n 0, 1) := by decide +kernel
theorem dd_C_init_37 : decode cc_C_init 37 = .ok (.bipush 16, 2) := by decide +kernel
theorem dd_C_init_39 : decode cc_C_init 39 = .ok (.newarray .int, 2) := by decide +kernel
theorem dd_C_init_41 : decode cc_C_init 41 = .ok (.putfield 25, 3) := by decide +kernel
theorem dd_C_init_44 : decode cc_C_init 44 = .ok (.aload_n 0, 1) := by decide +kernel
theorem dd_C_init_45 : decode cc_C_init 45 = .ok (.bipush 16, 2) := by decide +kernel
theorem dd_C_init_47 : decode cc_C_init 47 = .ok (.newarray .int, 2) := by decide +kernel
theorem dd_C_init_49 : decode cc_C_init 49 = .ok (.putfield 28, 3) := by decide +kernel
theorem dd_C_init_52 : decode cc_C_init 52 = .ok (.return_, 1) := by decide +kernel
theorem dd_D_init_0 : decode cc_D_init 0 = .ok (.aload_n 0, 1) := by decide +kernel
theorem dd_D_init_1 : decode cc_D_init 1 = .ok (.invokespecial 3, 3) := by decide +kernel
theorem dd_D_init_4 : decode cc_D_init 4 = .ok (.aload_n 0, 1) := by decide +kernel
theorem dd_D_init_5 : decode cc_D_init 5 = .ok (.new 9, 3) := by decide +kernel
theorem dd_D_init_8 : decode cc_D_init 8 = .ok (.dup, 1) := by decide +kernel
theorem dd_D_init_9 : decode cc_D_init 9 = .ok (.sipush 4096, 3) := by decide +kernel
theorem dd_D_init_12 : decode cc_D_init 12 = .ok (.invokespecial 11, 3) := by decide +kernel
theorem dd_D_init_15 : decode cc_D_init 15 = .ok (.putfield 14, 3) := by decide +kernel
theorem dd_D_init_18 : decode cc_D_init 18 = .ok (.aload_n 0, 1) := by decide +kernel
theorem dd_D_init_19 : decode cc_D_init 19 = .ok (.iconst 0, 1) := by decide +kernel
theorem dd_D_init_20 : decode cc_D_init 20 = .ok (.putfield 20, 3) := by decide +kernel
theorem dd_D_init_23 : decode cc_D_init 23 = .ok (.aload_n 0, 1) := by decide +kernel
theorem dd_D_init_24 : decode cc_D_init 24 = .ok (.iconst (-1), 1) := by decide +kernel
theorem dd_D_init_25 : decode cc_D_init 25 = .ok (.putfield 24, 3) := by decide +kernel
theorem dd_D_init_28 : decode cc_D_init 28 = .ok (.aload_n 0, 1) := by decide +kernel
theorem dd_D_init_29 : decode cc_D_init 29 = .ok (.iconst 0, 1) := by decide +kernel
theorem dd_D_init_30 : decode cc_D_init 30 = .ok (.putfield 27, 3) := by decide +kernel
theorem dd_D_init_33 : decode cc_D_init 33 = .ok (.aload_n 0, 1) := by decide +kernel
theorem dd_D_init_34 : decode cc_D_init 34 = .ok (.iconst (-1), 1) := by decide +kernel
theorem dd_D_init_35 : decode cc_D_init 35 = .ok (.putfield 30, 3) := by decide +kernel
theorem dd_D_init_38 : decode cc_D_init 38 = .ok (.return_, 1) := by decide +kernel
theorem dd_X_init_0 : decode cc_X_init 0 = .ok (.aload_n 0, 1) := by decide +kernel
theorem dd_X_init_1 : decode cc_X_init 1 = .ok (.invokespecial 1, 3) := by decide +kernel
theorem dd_X_init_4 : decode cc_X_init 4 = .ok (.aload_n 0, 1) := by decide +kernel
theorem dd_X_init_5 : decode cc_X_init 5 = .ok (.new 7, 3) := by decide +kernel
theorem dd_X_init_8 : decode cc_X_init 8 = .ok (.dup, 1) := by decide +kernel
theorem dd_X_init_9 : decode cc_X_init 9 = .ok (.sipush 4096, 3) := by decide +kernel
theorem dd_X_init_12 : decode cc_X_init 12 = .ok (.invokespecial 11, 3) := by decide +kernel
theorem dd_X_init_15 : decode cc_X_init 15 = .ok (.putfield 14, 3) := by decide +kernel
theorem dd_X_init_18 : decode cc_X_init 18 = .ok (.aload_n 0, 1) := by decide +kernel
theorem dd_X_init_19 : decode cc_X_init 19 = .ok (.new 18, 3) := by decide +kernel
theorem dd_X_init_22 : decode cc_X_init 22 = .ok (.dup, 1) := by decide +kernel
theorem dd_X_init_23 : decode cc_X_init 23 = .ok (.invokespecial 20, 3) := by decide +kernel
theorem dd_X_init_26 : decode cc_X_init 26 = .ok (.putfield 21, 3) := by decide +kernel
theorem dd_X_init_29 : decode cc_X_init 29 = .ok (.aload_n 0, 1) := by decide +kernel
theorem dd_X_init_30 : decode cc_X_init 30 = .ok (.aload_n 0, 1) := by decide +kernel
theorem dd_X_init_31 : decode cc_X_init 31 = .ok (.getfield 21, 3) := by decide +kernel
theorem dd_X_init_34 : decode cc_X_init 34 = .ok (.getfield 25, 3) := by decide +kernel
theorem dd_X_init_37 : decode cc_X_init 37 = .ok (.putfield 28, 3) := by decide +kernel
theorem dd_X_init_40 : decode cc_X_init 40 = .ok (.aload_n 0, 1) := by decide +kernel
theorem dd_X_init_41 : decode cc_X_init 41 = .ok (.new 7, 3) := by decide +kernel
theorem dd_X_init_44 : decode cc_X_init 44 = .ok (.dup, 1) := by decide +kernel
theorem dd_X_init_45 : decode cc_X_init 45 = .ok (.sipush 320, 3) := by decide +kernel
theorem dd_X_init_48 : decode cc_X_init 48 = .ok (.invokespecial 11, 3) := by decide +kernel
theorem dd_X_init_51 : decode cc_X_init 51 = .ok (.putfield 31, 3) := by decide +kernel
theorem dd_X_init_54 : decode cc_X_init 54 = .ok (.aload_n 0, 1) := by decide +kernel
theorem dd_X_init_55 : decode cc_X_init 55 = .ok (.new 34, 3) := by decide +kernel
theorem dd_X_init_58 : decode cc_X_init 58 = .ok (.dup, 1) := by decide +kernel
theorem dd_X_init_59 : decode cc_X_init 59 = .ok (.invokespecial 36, 3) := by decide +kernel
theorem dd_X_init_62 : decode cc_X_init 62 = .ok (.putfield 37, 3) := by decide +kernel
theorem dd_X_init_65 : decode cc_X_init 65 = .ok (.aload_n 0, 1) := by decide +kernel
theorem dd_X_init_66 : decode cc_X_init 66 = .ok (.new 34, 3) := by decide +kernel
theorem dd_X_init_69 : decode cc_X_init 69 = .ok (.dup, 1) := by decide +kernel
theorem dd_X_init_70 : decode cc_X_init 70 = .ok (.invokespecial 36, 3) := by decide +kernel
theorem dd_X_init_73 : decode cc_X_init 73 = .ok (.putfield 41, 3) := by decide +kernel
theorem dd_X_init_76 : decode cc_X_init 76 = .ok (.aload_n 0, 1) := by decide +kernel
theorem dd_X_init_77 : decode cc_X_init 77 = .ok (.iconst 0, 1) := by decide +kernel
theorem dd_X_init_78 : decode cc_X_init 78 = .ok (.putfield 44, 3) := by decide +kernel
theorem dd_X_init_81 : decode cc_X_init 81 = .ok (.aload_n 0, 1) := by decide +kernel
theorem dd_X_init_82 : decode cc_X_init 82 = .ok (.iconst 0, 1) := by decide +kernel
theorem dd_X_init_83 : decode cc_X_init 83 = .ok (.putfield 48, 3) := by decide +kernel
theorem dd_X_init_86 : decode cc_X_init 86 = .ok (.return_, 1) := by decide +kernel
end
section
theorem dd_M_init_0 : decode cc_M_init 0 = .ok (.aload_n 0, 1) := by decide +kernel
theorem dd_M_init_1 : decode cc_M_init 1 = .ok (.invokespecial 1, 3) := by decide +kernel
theorem dd_M_init_4 : decode cc_M_init 4 = .ok (.aload_n 0, 1) := by decide +kernel
theorem dd_M_init_5 : decode cc_M_init 5 = .ok (.bipush 8, 2) := by decide +kernel
theorem dd_M_init_7 : decode cc_M_init 7 = .ok (.newarray .int, 2) := by decide +kernel
theorem dd_M_init_9 : decode cc_M_init 9 = .ok (.putfield 7, 3) := by decide +kernel
theorem dd_M_init_12 : decode cc_M_init 12 = .ok (.aload_n 0, 1) := by decide +kernel
theorem dd_M_init_13 : decode cc_M_init 13 = .ok (.bipush 16, 2) := by decide +kernel
theorem dd_M_init_15 : decode cc_M_init 15 = .ok (.newarray .int, 2) := by decide +kernel
theorem dd_M_init_17 : decode cc_M_init 17 = .ok (.putfield 13, 3) := by decide +kernel
theorem dd_M_init_20 : decode cc_M_init 20 = .ok (.aload_n 0, 1) := by decide +kernel
theorem dd_M_init_21 : decode cc_M_init 21 = .ok (.bipush 16, 2) := by decide +kernel
theorem dd_M_init_23 : decode cc_M_init 23 = .ok (.newarray .int, 2) := by decide +kernel
theorem dd_M_init_25 : decode cc_M_init 25 = .ok (.putfield 16, 3) := by decide +kernel
theorem dd_M_init_28 : decode cc_M_init 28 = .ok (.aload_n 0, 1) := by decide +kernel
theorem dd_M_init_29 : decode cc_M_init 29 = .ok (.bipush 16, 2) := by decide +kernel
theorem dd_M_init_31 : decode cc_M_init 31 = .ok (.newarray .long, 2) := by decide +kernel
theorem dd_M_init_33 : decode cc_M_init 33 = .ok (.putfield 19, 3) := by decide +kernel
theorem dd_M_init_36 : decode cc_M_init 36 = .ok (.aload_n 0, 1) := by decide +kernel
theorem dd_M_init_37 : decode cc_M_init 37 = .ok (.bipush 16, 2) := by decide +kernel
theorem dd_M_init_39 : decode cc_M_init 39 = .ok (.newarray .int, 2) := by decide +kernel
theorem dd_M_init_41 : decode cc_M_init 41 = .ok (.putfield 23, 3) := by decide +kernel
theorem dd_M_init_44 : decode cc_M_init 44 = .ok (.aload_n 0, 1) := by decide +kernel
theorem dd_M_init_45 : decode cc_M_init 45 = .ok (.bipush 16, 2) := by decide +kernel
theorem dd_M_init_47 : decode cc_M_init 47 = .ok (.newarray .int, 2) := by decide +kernel
theorem dd_M_init_49 : decode cc_M_init 49 = .ok (.putfield 26, 3) := by decide +kernel
theorem dd_M_init_52 : decode cc_M_init 52 = .ok (.aload_n 0, 1) := by decide +kernel
theorem dd_M_init_53 : decode cc_M_init 53 = .ok (.bipush 8, 2) := by decide +kernel
theorem dd_M_init_55 : decode cc_M_init 55 = .ok (.newarray .int, 2) := by decide +kernel
theorem dd_M_init_57 : decode cc_M_init 57 = .ok (.putfield 29, 3) := by decide +kernel
theorem dd_M_init_60 : decode cc_M_init 60 = .ok (.aload_n 0, 1) := by decide +kernel
theorem dd_M_init_61 : decode cc_M_init 61 = .ok (.bipush 16, 2) := by decide +kernel
theorem dd_M_init_63 : decode cc_M_init 63 = .ok (.newarray .int, 2) := by decide +kernel
theorem dd_M_init_65 : decode cc_M_init 65 = .ok (.putfield 32, 3) := by decide +kernel
theorem dd_M_init_68 : decode cc_M_init 68 = .ok (.aload_n 0, 1) := by decide +kernel
theorem dd_M_init_69 : decode cc_M_init 69 = .ok (.bipush 16, 2) := by decide +kernel
theorem dd_M_init_71 : decode cc_M_init 71 = .ok (.newarray .int, 2) := by decide +kernel
theorem dd_M_init_73 : decode cc_M_init 73 = .ok (.putfield 35, 3) := by decide +kernel
theorem dd_M_init_76 : decode cc_M_init 76 = .ok (.aload_n 0, 1) := by decide +kernel
theorem dd_M_init_77 : decode cc_M_init 77 = .ok (.bipush 16, 2) := by decide +kernel
theorem dd_M_init_79 : decode cc_M_init 79 = .ok (.newarray .long, 2) := by decide +kernel
theorem dd_M_init_81 : decode cc_M_init 81 = .ok (.putfield 38, 3) := by decide +kernel
theorem dd_M_init_84 : decode cc_M_init 84 = .ok (.aload_n 0, 1) := by decide +kernel
theorem dd_M_init_85 : decode cc_M_init 85 = .ok (.bipush 16, 2) := by decide +kernel
theorem dd_M_init_87 : decode cc_M_init 87 = .ok (.newarray .int, 2) := by decide +kernel
theorem dd_M_init_89 : decode cc_M_init 89 = .ok (.putfield 41, 3) := by decide +kernel
theorem dd_M_init_92 : decode cc_M_init 92 = .ok (.aload_n 0, 1) := by decide +kernel
theorem dd_M_init_93 : decode cc_M_init 93 = .ok (.bipush 16, 2) := by decide +kernel
theorem dd_M_init_95 : decode cc_M_init 95 = .ok (.newarray .int, 2) := by decide +kernel
theorem dd_M_init_97 : decode cc_M_init 97 = .ok (.putfield 44, 3) := by decide +kernel
theorem dd_M_init_100 : decode cc_M_init 100 = .ok (.aload_n 0, 1) := by decide +kernel
theorem dd_M_init_101 : decode cc_M_init 101 = .ok (.sipush 4096, 3) := by decide +kernel
theorem dd_M_init_104 : decode cc_M_init 104 = .ok (.newarray .byte, 2) := by decide +kernel
theorem dd_M_init_106 : decode cc_M_init 106 = .ok (.putfield 47, 3) := by decide +kernel
theorem dd_M_init_109 : decode cc_M_init 109 = .ok (.aload_n 0, 1) := by decide +kernel
theorem dd_M_init_110 : decode cc_M_init 110 = .ok (.sipush 4096, 3) := by decide +kernel
theorem dd_M_init_113 : decode cc_M_init 113 = .ok (.newarray .byte, 2) := by decide +kernel
theorem dd_M_init_115 : decode cc_M_init 115 = .ok (.putfield 51, 3) := by decide +kernel
theorem dd_M_init_118 : decode cc_M_init 118 = .ok (.aload_n 0, 1) := by decide +kernel
theorem dd_M_init_119 : decode cc_M_init 119 = .ok (.iconst (-1), 1) := by decide +kernel
theorem dd_M_init_120 : decode cc_M_init 120 = .ok (.putfield 54, 3) := by decide +kernel
theorem dd_M_init_123 : decode cc_M_init 123 = .ok (.aload_n 0, 1) := by decide +kernel
theorem dd_M_init_124 : decode cc_M_init 124 = .ok (.sipush 1400, 3) := by decide +kernel
theorem dd_M_init_127 : decode cc_M_init 127 = .ok (.newarray .byte, 2) := by decide +kernel
theorem dd_M_init_129 : decode cc_M_init 129 = .ok (.putfield 58, 3) := by decide +kernel
theorem dd_M_init_132 : decode cc_M_init 132 = .ok (.return_, 1) := by decide +kernel
theorem dd_M_thrown_0 : decode cc_M_thrown 0 = .ok (.aload_n 0, 1) := by decide +kernel
theorem dd_M_thrown_1 : decode cc_M_thrown 1 = .ok (.getfield 61, 3) := by decide +kernel
theorem dd_M_thrown_4 : decode cc_M_thrown 4 = .ok (.ireturn, 1) := by decide +kernel
theorem dd_M_isActor_0 : decode cc_M_isActor 0 = .ok (.iload_n 0, 1) := by decide +kernel
theorem dd_M_isActor_1 : decode cc_M_isActor 1 = .ok (.ifCond .lt 13, 3) := by decide +kernel
theorem dd_M_isActor_4 : decode cc_M_isActor 4 = .ok (.iload_n 0, 1) := by decide +kernel
theorem dd_M_isActor_5 : decode cc_M_isActor 5 = .ok (.bipush 8, 2) := by decide +kernel
theorem dd_M_isActor_7 : decode cc_M_isActor 7 = .ok (.if_icmp .ge 7, 3) := by decide +kernel
theorem dd_M_isActor_10 : decode cc_M_isActor 10 = .ok (.iconst 1, 1) := by decide +kernel
theorem dd_M_isActor_11 : decode cc_M_isActor 11 = .ok (.goto 4, 3) := by decide +kernel
theorem dd_M_isActor_14 : decode cc_M_isActor 14 = .ok (.iconst 0, 1) := by decide +kernel
theorem dd_M_isActor_15 : decode cc_M_isActor 15 = .ok (.ireturn, 1) := by decide +kernel
theorem dd_M_isId_0 : decode cc_M_isId 0 = .ok (.lload_n 0, 1) := by decide +kernel
theorem dd_M_isId_1 : decode cc_M_isId 1 = .ok (.ldc2_w 64, 3) := by decide +kernel
theorem dd_M_isId_4 : decode cc_M_isId 4 = .ok (.lcmp, 1) := by decide +kernel
theorem dd_M_isId_5 : decode cc_M_isId 5 = .ok (.ifCond .lt 15, 3) := by decide +kernel
theorem dd_M_isId_8 : decode cc_M_isId 8 = .ok (.lload_n 0, 1) := by decide +kernel
theorem dd_M_isId_9 : decode cc_M_isId 9 = .ok (.ldc2_w 66, 3) := by decide +kernel
theorem dd_M_isId_12 : decode cc_M_isId 12 = .ok (.lcmp, 1) := by decide +kernel
theorem dd_M_isId_13 : decode cc_M_isId 13 = .ok (.ifCond .gt 7, 3) := by decide +kernel
theorem dd_M_isId_16 : decode cc_M_isId 16 = .ok (.iconst 1, 1) := by decide +kernel
theorem dd_M_isId_17 : decode cc_M_isId 17 = .ok (.goto 4, 3) := by decide +kernel
theorem dd_M_isId_20 : decode cc_M_isId 20 = .ok (.iconst 0, 1) := by decide +kernel
theorem dd_M_isId_21 : decode cc_M_isId 21 = .ok (.ireturn, 1) := by decide +kernel
theorem dd_M_letters_0 : decode cc_M_letters 0 = .ok (.iconst 0, 1) := by decide +kernel
theorem dd_M_letters_1 : decode cc_M_letters 1 = .ok (.istore_n 2, 1) := by decide +kernel
theorem dd_M_letters_2 : decode cc_M_letters 2 = .ok (.iconst 1, 1) := by decide +kernel
theorem dd_M_letters_3 : decode cc_M_letters 3 = .ok (.istore_n 3, 1) := by decide +kernel
theorem dd_M_letters_4 : decode cc_M_letters 4 = .ok (.lload_n 0, 1) := by decide +kernel
theorem dd_M_letters_5 : decode cc_M_letters 5 = .ok (.lstore 4, 2) := by decide +kernel
theorem dd_M_letters_7 : decode cc_M_letters 7 = .ok (.lload 4, 2) := by decide +kernel
theorem dd_M_letters_9 : decode cc_M_letters 9 = .ok (.lconst 0, 1) := by decide +kernel
theorem dd_M_letters_10 : decode cc_M_letters 10 = .ok (.lcmp, 1) := by decide +kernel
theorem dd_M_letters_11 : decode cc_M_letters 11 = .ok (.ifCond .eq 49, 3) := by decide +kernel
theorem dd_M_letters_14 : decode cc_M_letters 14 = .ok (.lload 4, 2) := by decide +kernel
theorem dd_M_letters_16 : decode cc_M_letters 16 = .ok (.ldc2_w 68, 3) := by decide +kernel
theorem dd_M_letters_19 : decode cc_M_letters 19 = .ok (.land, 1) := by decide +kernel
theorem dd_M_letters_20 : decode cc_M_letters 20 = .ok (.l2i, 1) := by decide +kernel
theorem dd_M_letters_21 : decode cc_M_letters 21 = .ok (.istore 6, 2) := by decide +kernel
theorem dd_M_letters_23 : decode cc_M_letters 23 = .ok (.iload_n 3, 1) := by decide +kernel
theorem dd_M_letters_24 : decode cc_M_letters 24 = .ok (.ifCond .eq 21, 3) := by decide +kernel
theorem dd_M_letters_27 : decode cc_M_letters 27 = .ok (.iload 6, 2) := by decide +kernel
theorem dd_M_letters_29 : decode cc_M_letters 29 = .ok (.bipush 97, 2) := by decide +kernel
theorem dd_M_letters_31 : decode cc_M_letters 31 = .ok (.if_icmp .lt 14, 3) := by decide +kernel
theorem dd_M_letters_34 : decode cc_M_letters 34 = .ok (.iload 6, 2) := by decide +kernel
theorem dd_M_letters_36 : decode cc_M_letters 36 = .ok (.bipush 122, 2) := by decide +kernel
theorem dd_M_letters_38 : decode cc_M_letters 38 = .ok (.if_icmp .gt 7, 3) := by decide +kernel
theorem dd_M_letters_41 : decode cc_M_letters 41 = .ok (.iconst 1, 1) := by decide +kernel
theorem dd_M_letters_42 : decode cc_M_letters 42 = .ok (.goto 4, 3) := by decide +kernel
theorem dd_M_letters_45 : decode cc_M_letters 45 = .ok (.iconst 0, 1) := by decide +kernel
theorem dd_M_letters_46 : decode cc_M_letters 46 = .ok (.istore_n 3, 1) := by decide +kernel
theorem dd_M_letters_47 : decode cc_M_letters 47 = .ok (.iinc 2 1, 3) := by decide +kernel
theorem dd_M_letters_50 : decode cc_M_letters 50 = .ok (.lload 4, 2) := by decide +kernel
theorem dd_M_letters_52 : decode cc_M_letters 52 = .ok (.bipush 8, 2) := by decide +kernel
theorem dd_M_letters_54 : decode cc_M_letters 54 = .ok (.lushr, 1) := by decide +kernel
theorem dd_M_letters_55 : decode cc_M_letters 55 = .ok (.lstore 4, 2) := by decide +kernel
theorem dd_M_letters_57 : decode cc_M_letters 57 = .ok (.goto (-50), 3) := by decide +kernel
theorem dd_M_letters_60 : decode cc_M_letters 60 = .ok (.iload_n 3, 1) := by decide +kernel
theorem dd_M_letters_61 : decode cc_M_letters 61 = .ok (.ifCond .eq 7, 3) := by decide +kernel
theorem dd_M_letters_64 : decode cc_M_letters 64 = .ok (.iload_n 2, 1) := by decide +kernel
theorem dd_M_letters_65 : decode cc_M_letters 65 = .ok (.goto 4, 3) := by decide +kernel
theorem dd_M_letters_68 : decode cc_M_letters 68 = .ok (.iconst (-1), 1) := by decide +kernel
theorem dd_M_letters_69 : decode cc_M_letters 69 = .ok (.ireturn, 1) := by decide +kernel
theorem dd_M_idOf_0 : decode cc_M_idOf 0 = .ok (.aload_n 0, 1) := by decide +kernel
theorem dd_M_idOf_1 : decode cc_M_idOf 1 = .ok (.getfield 84, 3) := by decide +kernel
theorem dd_M_idOf_4 : decode cc_M_idOf 4 = .ok (.iload_n 1, 1) := by decide +kernel
theorem dd_M_idOf_5 : decode cc_M_idOf 5 = .ok (.iadd, 1) := by decide +kernel
theorem dd_M_idOf_6 : decode cc_M_idOf 6 = .ok (.bipush 8, 2) := by decide +kernel
theorem dd_M_idOf_8 : decode cc_M_idOf 8 = .ok (.imul, 1) := by decide +kernel
theorem dd_M_idOf_9 : decode cc_M_idOf 9 = .ok (.aload_n 0, 1) := by decide +kernel
theorem dd_M_idOf_10 : decode cc_M_idOf 10 = .ok (.getfield 87, 3) := by decide +kernel
theorem dd_M_idOf_13 : decode cc_M_idOf 13 = .ok (.iadd, 1) := by decide +kernel
theorem dd_M_idOf_14 : decode cc_M_idOf 14 = .ok (.ireturn, 1) := by decide +kernel
theorem dd_M_begin_0 : decode cc_M_begin 0 = .ok (.aload_n 0, 1) := by decide +kernel
theorem dd_M_begin_1 : decode cc_M_begin 1 = .ok (.iload_n 1, 1) := by decide +kernel
theorem dd_M_begin_2 : decode cc_M_begin 2 = .ok (.invokestatic 90, 3) := by decide +kernel
theorem dd_M_begin_5 : decode cc_M_begin 5 = .ok (.ifCond .eq 30, 3) := by decide +kernel
theorem dd_M_begin_8 : decode cc_M_begin 8 = .ok (.iload_n 2, 1) := by decide +kernel
theorem dd_M_begin_9 : decode cc_M_begin 9 = .ok (.iconst 1, 1) := by decide +kernel
theorem dd_M_begin_10 : decode cc_M_begin 10 = .ok (.if_icmp .lt 25, 3) := by decide +kernel
theorem dd_M_begin_13 : decode cc_M_begin 13 = .ok (.iload_n 2, 1) := by decide +kernel
theorem dd_M_begin_14 : decode cc_M_begin 14 = .ok (.sipush 10000, 3) := by decide +kernel
theorem dd_M_begin_17 : decode cc_M_begin 17 = .ok (.if_icmp .gt 18, 3) := by decide +kernel
theorem dd_M_begin_20 : decode cc_M_begin 20 = .ok (.iload_n 3, 1) := by decide +kernel
theorem dd_M_begin_21 : decode cc_M_begin 21 = .ok (.iconst 1, 1) := by decide +kernel
theorem dd_M_begin_22 : decode cc_M_begin 22 = .ok (.if_icmp .lt 13, 3) := by decide +kernel
theorem dd_M_begin_25 : decode cc_M_begin 25 = .ok (.iload_n 3, 1) := by decide +kernel
theorem dd_M_begin_26 : decode cc_M_begin 26 = .ok (.ldc 94, 2) := by decide +kernel
theorem dd_M_begin_28 : decode cc_M_begin 28 = .ok (.if_icmp .gt 7, 3) := by decide +kernel
theorem dd_M_begin_31 : decode cc_M_begin 31 = .ok (.iconst 0, 1) := by decide +kernel
theorem dd_M_begin_32 : decode cc_M_begin 32 = .ok (.goto 4, 3) := by decide +kernel
theorem dd_M_begin_35 : decode cc_M_begin 35 = .ok (.iconst 1, 1) := by decide +kernel
theorem dd_M_begin_36 : decode cc_M_begin 36 = .ok (.putfield 61, 3) := by decide +kernel
theorem dd_M_begin_39 : decode cc_M_begin 39 = .ok (.aload_n 0, 1) := by decide +kernel
theorem dd_M_begin_40 : decode cc_M_begin 40 = .ok (.getfield 61, 3) := by decide +kernel
theorem dd_M_begin_43 : decode cc_M_begin 43 = .ok (.ifCond .le 4, 3) := by decide +kernel
theorem dd_M_begin_46 : decode cc_M_begin 46 = .ok (.return_, 1) := by decide +kernel
theorem dd_M_begin_47 : decode cc_M_begin 47 = .ok (.aload_n 0, 1) := by decide +kernel
theorem dd_M_begin_48 : decode cc_M_begin 48 = .ok (.iconst 1, 1) := by decide +kernel
theorem dd_M_begin_49 : decode cc_M_begin 49 = .ok (.putfield 95, 3) := by decide +kernel
theorem dd_M_begin_52 : decode cc_M_begin 52 = .ok (.aload_n 0, 1) := by decide +kernel
theorem dd_M_begin_53 : decode cc_M_begin 53 = .ok (.iload_n 1, 1) := by decide +kernel
theorem dd_M_begin_54 : decode cc_M_begin 54 = .ok (.putfield 87, 3) := by decide +kernel
theorem dd_M_begin_57 : decode cc_M_begin 57 = .ok (.aload_n 0, 1) := by decide +kernel
theorem dd_M_begin_58 : decode cc_M_begin 58 = .ok (.iload_n 2, 1) := by decide +kernel
theorem dd_M_begin_59 : decode cc_M_begin 59 = .ok (.putfield 99, 3) := by decide +kernel
theorem dd_M_begin_62 : decode cc_M_begin 62 = .ok (.aload_n 0, 1) := by decide +kernel
theorem dd_M_begin_63 : decode cc_M_begin 63 = .ok (.iload_n 3, 1) := by decide +kernel
theorem dd_M_begin_64 : decode cc_M_begin 64 = .ok (.putfield 84, 3) := by decide +kernel
theorem dd_M_begin_67 : decode cc_M_begin 67 = .ok (.aload_n 0, 1) := by decide +kernel
theorem dd_M_begin_68 : decode cc_M_begin 68 = .ok (.iconst 0, 1) := by decide +kernel
theorem dd_M_begin_69 : decode cc_M_begin 69 = .ok (.putfield 102, 3) := by decide +kernel
theorem dd_M_begin_72 : decode cc_M_begin 72 = .ok (.iconst 0, 1) := by decide +kernel
theorem dd_M_begin_73 : decode cc_M_begin 73 = .ok (.istore 4, 2) := by decide +kernel
theorem dd_M_begin_75 : decode cc_M_begin 75 = .ok (.iload 4, 2) := by decide +kernel
theorem dd_M_begin_77 : decode cc_M_begin 77 = .ok (.bipush 8, 2) := by decide +kernel
theorem dd_M_begin_79 : decode cc_M_begin 79 = .ok (.if_icmp .ge 29, 3) := by decide +kernel
theorem dd_M_begin_82 : decode cc_M_begin 82 = .ok (.aload_n 0, 1) := by decide +kernel
theorem dd_M_begin_83 : decode cc_M_begin 83 = .ok (.getfield 7, 3) := by decide +kernel
theorem dd_M_begin_86 : decode cc_M_begin 86 = .ok (.iload 4, 2) := by decide +kernel
theorem dd_M_begin_88 : decode cc_M_begin 88 = .ok (.iload 4, 2) := by decide +kernel
theorem dd_M_begin_90 : decode cc_M_begin 90 = .ok (.iload_n 1, 1) := by decide +kernel
theorem dd_M_begin_91 : decode cc_M_begin 91 = .ok (.if_icmp .ne 9, 3) := by decide +kernel
theorem dd_M_begin_94 : decode cc_M_begin 94 = .ok (.iload_n 2, 1) := by decide +kernel
theorem dd_M_begin_95 : decode cc_M_begin 95 = .ok (.iconst 1, 1) := by decide +kernel
theorem dd_M_begin_96 : decode cc_M_begin 96 = .ok (.isub, 1) := by decide +kernel
theorem dd_M_begin_97 : decode cc_M_begin 97 = .ok (.goto 4, 3) := by decide +kernel
theorem dd_M_begin_100 : decode cc_M_begin 100 = .ok (.iconst 0, 1) := by decide +kernel
theorem dd_M_begin_101 : decode cc_M_begin 101 = .ok (.iastore, 1) := by decide +kernel
theorem dd_M_begin_102 : decode cc_M_begin 102 = .ok (.iinc 4 1, 3) := by decide +kernel
theorem dd_M_begin_105 : decode cc_M_begin 105 = .ok (.goto (-30), 3) := by decide +kernel
theorem dd_M_begin_108 : decode cc_M_begin 108 = .ok (.return_, 1) := by decide +kernel
theorem dd_M_hangs_0 : decode cc_M_hangs 0 = .ok (.aload_n 0, 1) := by decide +kernel
theorem dd_M_hangs_1 : decode cc_M_hangs 1 = .ok (.iconst 0, 1) := by decide +kernel
theorem dd_M_hangs_2 : decode cc_M_hangs 2 = .ok (.putfield 61, 3) := by decide +kernel
theorem dd_M_hangs_5 : decode cc_M_hangs 5 = .ok (.aload_n 0, 1) := by decide +kernel
theorem dd_M_hangs_6 : decode cc_M_hangs 6 = .ok (.getfield 95, 3) := by decide +kernel
theorem dd_M_hangs_9 : decode cc_M_hangs 9 = .ok (.ifCond .eq 29, 3) := by decide +kernel
theorem dd_M_hangs_12 : decode cc_M_hangs 12 = .ok (.iload_n 1, 1) := by decide +kernel
theorem dd_M_hangs_13 : decode cc_M_hangs 13 = .ok (.invokestatic 90, 3) := by decide +kernel
theorem dd_M_hangs_16 : decode cc_M_hangs 16 = .ok (.ifCond .eq 22, 3) := by decide +kernel
theorem dd_M_hangs_19 : decode cc_M_hangs 19 = .ok (.iload_n 1, 1) := by decide +kernel
theorem dd_M_hangs_20 : decode cc_M_hangs 20 = .ok (.aload_n 0, 1) := by decide +kernel
theorem dd_M_hangs_21 : decode cc_M_hangs 21 = .ok (.getfield 87, 3) := by decide +kernel
theorem dd_M_hangs_24 : decode cc_M_hangs 24 = .ok (.if_icmp .eq 14, 3) := by decide +kernel
theorem dd_M_hangs_27 : decode cc_M_hangs 27 = .ok (.iload_n 2, 1) := by decide +kernel
theorem dd_M_hangs_28 : decode cc_M_hangs 28 = .ok (.ifCond .lt 10, 3) := by decide +kernel
theorem dd_M_hangs_31 : decode cc_M_hangs 31 = .ok (.iload_n 2, 1) := by decide +kernel
theorem dd_M_hangs_32 : decode cc_M_hangs 32 = .ok (.sipush 10000, 3) := by decide +kernel
theorem dd_M_hangs_35 : decode cc_M_hangs 35 = .ok (.if_icmp .le 5, 3) := by decide +kernel
theorem dd_M_hangs_38 : decode cc_M_hangs 38 = .ok (.iconst 0, 1) := by decide +kernel
theorem dd_M_hangs_39 : decode cc_M_hangs 39 = .ok (.ireturn, 1) := by decide +kernel
theorem dd_M_hangs_40 : decode cc_M_hangs 40 = .ok (.aload_n 0, 1) := by decide +kernel
theorem dd_M_hangs_41 : decode cc_M_hangs 41 = .ok (.getfield 7, 3) := by decide +kernel
theorem dd_M_hangs_44 : decode cc_M_hangs 44 = .ok (.iload_n 1, 1) := by decide +kernel
theorem dd_M_hangs_45 : decode cc_M_hangs 45 = .ok (.iload_n 2, 1) := by decide +kernel
theorem dd_M_hangs_46 : decode cc_M_hangs 46 = .ok (.iastore, 1) := by decide +kernel
theorem dd_M_hangs_47 : decode cc_M_hangs 47 = .ok (.iconst 1, 1) := by decide +kernel
theorem dd_M_hangs_48 : decode cc_M_hangs 48 = .ok (.ireturn, 1) := by decide +kernel
theorem dd_M_undo_0 : decode cc_M_undo 0 = .ok (.aload_n 0, 1) := by decide +kernel
theorem dd_M_undo_1 : decode cc_M_undo 1 = .ok (.iconst 0, 1) := by decide +kernel
theorem dd_M_undo_2 : decode cc_M_undo 2 = .ok (.putfield 61, 3) := by decide +kernel
theorem dd_M_undo_5 : decode cc_M_undo 5 = .ok (.aload_n 0, 1) := by decide +kernel
theorem dd_M_undo_6 : decode cc_M_undo 6 = .ok (.getfield 95, 3) := by decide +kernel
theorem dd_M_undo_9 : decode cc_M_undo 9 = .ok (.ifCond .eq 10, 3) := by decide +kernel
theorem dd_M_undo_12 : decode cc_M_undo 12 = .ok (.aload_n 0, 1) := by decide +kernel
theorem dd_M_undo_13 : decode cc_M_undo 13 = .ok (.getfield 102, 3) := by decide +kernel
theorem dd_M_undo_16 : decode cc_M_undo 16 = .ok (.ifCond .ne 5, 3) := by decide +kernel
theorem dd_M_undo_19 : decode cc_M_undo 19 = .ok (.iconst 0, 1) := by decide +kernel
theorem dd_M_undo_20 : decode cc_M_undo 20 = .ok (.ireturn, 1) := by decide +kernel
theorem dd_M_undo_21 : decode cc_M_undo 21 = .ok (.aload_n 0, 1) := by decide +kernel
theorem dd_M_undo_22 : decode cc_M_undo 22 = .ok (.dup, 1) := by decide +kernel
theorem dd_M_undo_23 : decode cc_M_undo 23 = .ok (.getfield 102, 3) := by decide +kernel
theorem dd_M_undo_26 : decode cc_M_undo 26 = .ok (.iconst 1, 1) := by decide +kernel
theorem dd_M_undo_27 : decode cc_M_undo 27 = .ok (.isub, 1) := by decide +kernel
theorem dd_M_undo_28 : decode cc_M_undo 28 = .ok (.putfield 102, 3) := by decide +kernel
theorem dd_M_undo_31 : decode cc_M_undo 31 = .ok (.iconst 1, 1) := by decide +kernel
theorem dd_M_undo_32 : decode cc_M_undo 32 = .ok (.ireturn, 1) := by decide +kernel
theorem dd_M_lay_0 : decode cc_M_lay 0 = .ok (.aload_n 0, 1) := by decide +kernel
theorem dd_M_lay_1 : decode cc_M_lay 1 = .ok (.getfield 58, 3) := by decide +kernel
theorem dd_M_lay_4 : decode cc_M_lay 4 = .ok (.aload_n 0, 1) := by decide +kernel
theorem dd_M_lay_5 : decode cc_M_lay 5 = .ok (.getfield 113, 3) := by decide +kernel
theorem dd_M_lay_8 : decode cc_M_lay 8 = .ok (.iload_n 1, 1) := by decide +kernel
theorem dd_M_lay_9 : decode cc_M_lay 9 = .ok (.i2b, 1) := by decide +kernel
theorem dd_M_lay_10 : decode cc_M_lay 10 = .ok (.bastore, 1) := by decide +kernel
theorem dd_M_lay_11 : decode cc_M_lay 11 = .ok (.aload_n 0, 1) := by decide +kernel
theorem dd_M_lay_12 : decode cc_M_lay 12 = .ok (.dup, 1) := by decide +kernel
theorem dd_M_lay_13 : decode cc_M_lay 13 = .ok (.getfield 113, 3) := by decide +kernel
theorem dd_M_lay_16 : decode cc_M_lay 16 = .ok (.iconst 1, 1) := by decide +kernel
theorem dd_M_lay_17 : decode cc_M_lay 17 = .ok (.iadd, 1) := by decide +kernel
theorem dd_M_lay_18 : decode cc_M_lay 18 = .ok (.putfield 113, 3) := by decide +kernel
theorem dd_M_lay_21 : decode cc_M_lay 21 = .ok (.return_, 1) := by decide +kernel
theorem dd_M_layU_0 : decode cc_M_layU 0 = .ok (.iload_n 1, 1) := by decide +kernel
theorem dd_M_layU_1 : decode cc_M_layU 1 = .ok (.istore_n 2, 1) := by decide +kernel
theorem dd_M_layU_2 : decode cc_M_layU 2 = .ok (.iload_n 2, 1) := by decide +kernel
theorem dd_M_layU_3 : decode cc_M_layU 3 = .ok (.bipush 127, 2) := by decide +kernel
theorem dd_M_layU_5 : decode cc_M_layU 5 = .ok (.if_icmp .le 25, 3) := by decide +kernel
theorem dd_M_layU_8 : decode cc_M_layU 8 = .ok (.aload_n 0, 1) := by decide +kernel
theorem dd_M_layU_9 : decode cc_M_layU 9 = .ok (.sipush 128, 3) := by decide +kernel
theorem dd_M_layU_12 : decode cc_M_layU 12 = .ok (.iload_n 2, 1) := by decide +kernel
theorem dd_M_layU_13 : decode cc_M_layU 13 = .ok (.sipush 128, 3) := by decide +kernel
theorem dd_M_layU_16 : decode cc_M_layU 16 = .ok (.irem, 1) := by decide +kernel
theorem dd_M_layU_17 : decode cc_M_layU 17 = .ok (.iadd, 1) := by decide +kernel
theorem dd_M_layU_18 : decode cc_M_layU 18 = .ok (.invokevirtual 116, 3) := by decide +kernel
theorem dd_M_layU_21 : decode cc_M_layU 21 = .ok (.iload_n 2, 1) := by decide +kernel
theorem dd_M_layU_22 : decode cc_M_layU 22 = .ok (.sipush 128, 3) := by decide +kernel
theorem dd_M_layU_25 : decode cc_M_layU 25 = .ok (.idiv, 1) := by decide +kernel
theorem dd_M_layU_26 : decode cc_M_layU 26 = .ok (.istore_n 2, 1) := by decide +kernel
theorem dd_M_layU_27 : decode cc_M_layU 27 = .ok (.goto (-25), 3) := by decide +kernel
theorem dd_M_layU_30 : decode cc_M_layU 30 = .ok (.aload_n 0, 1) := by decide +kernel
theorem dd_M_layU_31 : decode cc_M_layU 31 = .ok (.iload_n 2, 1) := by decide +kernel
theorem dd_M_layU_32 : decode cc_M_layU 32 = .ok (.invokevirtual 116, 3) := by decide +kernel
theorem dd_M_layU_35 : decode cc_M_layU 35 = .ok (.return_, 1) := by decide +kernel
theorem dd_M_layS_0 : decode cc_M_layS 0 = .ok (.iload_n 1, 1) := by decide +kernel
theorem dd_M_layS_1 : decode cc_M_layS 1 = .ok (.istore_n 2, 1) := by decide +kernel
theorem dd_M_layS_2 : decode cc_M_layS 2 = .ok (.iload_n 2, 1) := by decide +kernel
theorem dd_M_layS_3 : decode cc_M_layS 3 = .ok (.bipush (-64), 2) := by decide +kernel
theorem dd_M_layS_5 : decode cc_M_layS 5 = .ok (.if_icmp .lt 9, 3) := by decide +kernel
theorem dd_M_layS_8 : decode cc_M_layS 8 = .ok (.iload_n 2, 1) := by decide +kernel
theorem dd_M_layS_9 : decode cc_M_layS 9 = .ok (.bipush 63, 2) := by decide +kernel
theorem dd_M_layS_11 : decode cc_M_layS 11 = .ok (.if_icmp .le 23, 3) := by decide +kernel
theorem dd_M_layS_14 : decode cc_M_layS 14 = .ok (.aload_n 0, 1) := by decide +kernel
theorem dd_M_layS_15 : decode cc_M_layS 15 = .ok (.iload_n 2, 1) := by decide +kernel
theorem dd_M_layS_16 : decode cc_M_layS 16 = .ok (.bipush 127, 2) := by decide +kernel
theorem dd_M_layS_18 : decode cc_M_layS 18 = .ok (.iand, 1) := by decide +kernel
theorem dd_M_layS_19 : decode cc_M_layS 19 = .ok (.sipush 128, 3) := by decide +kernel
theorem dd_M_layS_22 : decode cc_M_layS 22 = .ok (.ior, 1) := by decide +kernel
theorem dd_M_layS_23 : decode cc_M_layS 23 = .ok (.invokevirtual 116, 3) := by decide +kernel
theorem dd_M_layS_26 : decode cc_M_layS 26 = .ok (.iload_n 2, 1) := by decide +kernel
theorem dd_M_layS_27 : decode cc_M_layS 27 = .ok (.bipush 7, 2) := by decide +kernel
theorem dd_M_layS_29 : decode cc_M_layS 29 = .ok (.ishr, 1) := by decide +kernel
theorem dd_M_layS_30 : decode cc_M_layS 30 = .ok (.istore_n 2, 1) := by decide +kernel
theorem dd_M_layS_31 : decode cc_M_layS 31 = .ok (.goto (-29), 3) := by decide +kernel
theorem dd_M_layS_34 : decode cc_M_layS 34 = .ok (.aload_n 0, 1) := by decide +kernel
theorem dd_M_layS_35 : decode cc_M_layS 35 = .ok (.iload_n 2, 1) := by decide +kernel
theorem dd_M_layS_36 : decode cc_M_layS 36 = .ok (.bipush 127, 2) := by decide +kernel
theorem dd_M_layS_38 : decode cc_M_layS 38 = .ok (.iand, 1) := by decide +kernel
theorem dd_M_layS_39 : decode cc_M_layS 39 = .ok (.invokevirtual 116, 3) := by decide +kernel
theorem dd_M_layS_42 : decode cc_M_layS 42 = .ok (.return_, 1) := by decide +kernel
theorem dd_M_layLetters_0 : decode cc_M_layLetters 0 = .ok (.lload_n 1, 1) := by decide +kernel
theorem dd_M_layLetters_1 : decode cc_M_layLetters 1 = .ok (.invokestatic 72, 3) := by decide +kernel
theorem dd_M_layLetters_4 : decode cc_M_layLetters 4 = .ok (.istore_n 3, 1) := by decide +kernel
theorem dd_M_layLetters_5 : decode cc_M_layLetters 5 = .ok (.aload_n 0, 1) := by decide +kernel
theorem dd_M_layLetters_6 : decode cc_M_layLetters 6 = .ok (.iload_n 3, 1) := by decide +kernel
theorem dd_M_layLetters_7 : decode cc_M_layLetters 7 = .ok (.invokevirtual 116, 3) := by decide +kernel
theorem dd_M_layLetters_10 : decode cc_M_layLetters 10 = .ok (.iload_n 3, 1) := by decide +kernel
theorem dd_M_layLetters_11 : decode cc_M_layLetters 11 = .ok (.iconst 1, 1) := by decide +kernel
theorem dd_M_layLetters_12 : decode cc_M_layLetters 12 = .ok (.isub, 1) := by decide +kernel
theorem dd_M_layLetters_13 : decode cc_M_layLetters 13 = .ok (.istore 4, 2) := by decide +kernel
theorem dd_M_layLetters_15 : decode cc_M_layLetters 15 = .ok (.iload 4, 2) := by decide +kernel
theorem dd_M_layLetters_17 : decode cc_M_layLetters 17 = .ok (.ifCond .lt 25, 3) := by decide +kernel
theorem dd_M_layLetters_20 : decode cc_M_layLetters 20 = .ok (.aload_n 0, 1) := by decide +kernel
theorem dd_M_layLetters_21 : decode cc_M_layLetters 21 = .ok (.lload_n 1, 1) := by decide +kernel
theorem dd_M_layLetters_22 : decode cc_M_layLetters 22 = .ok (.bipush 8, 2) := by decide +kernel
theorem dd_M_layLetters_24 : decode cc_M_layLetters 24 = .ok (.iload 4, 2) := by decide +kernel
theorem dd_M_layLetters_26 : decode cc_M_layLetters 26 = .ok (.imul, 1) := by decide +kernel
theorem dd_M_layLetters_27 : decode cc_M_layLetters 27 = .ok (.lshr, 1) := by decide +kernel
theorem dd_M_layLetters_28 : decode cc_M_layLetters 28 = .ok (.ldc2_w 68, 3) := by decide +kernel
theorem dd_M_layLetters_31 : decode cc_M_layLetters 31 = .ok (.land, 1) := by decide +kernel
theorem dd_M_layLetters_32 : decode cc_M_layLetters 32 = .ok (.l2i, 1) := by decide +kernel
theorem dd_M_layLetters_33 : decode cc_M_layLetters 33 = .ok (.invokevirtual 116, 3) := by decide +kernel
theorem dd_M_layLetters_36 : decode cc_M_layLetters 36 = .ok (.iinc 4 (-1), 3) := by decide +kernel
theorem dd_M_layLetters_39 : decode cc_M_layLetters 39 = .ok (.goto (-24), 3) := by decide +kernel
theorem dd_M_layLetters_42 : decode cc_M_layLetters 42 = .ok (.return_, 1) := by decide +kernel
theorem dd_M_layRef_0 : decode cc_M_layRef 0 = .ok (.iload_n 2, 1) := by decide +kernel
theorem dd_M_layRef_1 : decode cc_M_layRef 1 = .ok (.ifCond .ne 11, 3) := by decide +kernel
theorem dd_M_layRef_4 : decode cc_M_layRef 4 = .ok (.aload_n 0, 1) := by decide +kernel
theorem dd_M_layRef_5 : decode cc_M_layRef 5 = .ok (.iconst 0, 1) := by decide +kernel
theorem dd_M_layRef_6 : decode cc_M_layRef 6 = .ok (.invokevirtual 116, 3) := by decide +kernel
theorem dd_M_layRef_9 : decode cc_M_layRef 9 = .ok (.goto 28, 3) := by decide +kernel
theorem dd_M_layRef_12 : decode cc_M_layRef 12 = .ok (.aload_n 0, 1) := by decide +kernel
theorem dd_M_layRef_13 : decode cc_M_layRef 13 = .ok (.aload_n 0, 1) := by decide +kernel
theorem dd_M_layRef_14 : decode cc_M_layRef 14 = .ok (.getfield 84, 3) := by decide +kernel
theorem dd_M_layRef_17 : decode cc_M_layRef 17 = .ok (.iload_n 1, 1) := by decide +kernel
theorem dd_M_layRef_18 : decode cc_M_layRef 18 = .ok (.iadd, 1) := by decide +kernel
theorem dd_M_layRef_19 : decode cc_M_layRef 19 = .ok (.iload_n 2, 1) := by decide +kernel
theorem dd_M_layRef_20 : decode cc_M_layRef 20 = .ok (.bipush 8, 2) := by decide +kernel
theorem dd_M_layRef_22 : decode cc_M_layRef 22 = .ok (.idiv, 1) := by decide +kernel
theorem dd_M_layRef_23 : decode cc_M_layRef 23 = .ok (.isub, 1) := by decide +kernel
theorem dd_M_layRef_24 : decode cc_M_layRef 24 = .ok (.bipush 8, 2) := by decide +kernel
theorem dd_M_layRef_26 : decode cc_M_layRef 26 = .ok (.imul, 1) := by decide +kernel
theorem dd_M_layRef_27 : decode cc_M_layRef 27 = .ok (.iload_n 2, 1) := by decide +kernel
theorem dd_M_layRef_28 : decode cc_M_layRef 28 = .ok (.bipush 8, 2) := by decide +kernel
theorem dd_M_layRef_30 : decode cc_M_layRef 30 = .ok (.irem, 1) := by decide +kernel
theorem dd_M_layRef_31 : decode cc_M_layRef 31 = .ok (.iadd, 1) := by decide +kernel
theorem dd_M_layRef_32 : decode cc_M_layRef 32 = .ok (.iconst 1, 1) := by decide +kernel
theorem dd_M_layRef_33 : decode cc_M_layRef 33 = .ok (.iadd, 1) := by decide +kernel
theorem dd_M_layRef_34 : decode cc_M_layRef 34 = .ok (.invokevirtual 120, 3) := by decide +kernel
theorem dd_M_layRef_37 : decode cc_M_layRef 37 = .ok (.return_, 1) := by decide +kernel
theorem dd_M_layOperation_0 : decode cc_M_layOperation 0 = .ok (.aload_n 0, 1) := by decide +kernel
theorem dd_M_layOperation_1 : decode cc_M_layOperation 1 = .ok (.getfield 13, 3) := by decide +kernel
theorem dd_M_layOperation_4 : decode cc_M_layOperation 4 = .ok (.iload_n 1, 1) := by decide +kernel
theorem dd_M_layOperation_5 : decode cc_M_layOperation 5 = .ok (.iaload, 1) := by decide +kernel
theorem dd_M_layOperation_6 : decode cc_M_layOperation 6 = .ok (.istore_n 2, 1) := by decide +kernel
theorem dd_M_layOperation_7 : decode cc_M_layOperation 7 = .ok (.aload_n 0, 1) := by decide +kernel
theorem dd_M_layOperation_8 : decode cc_M_layOperation 8 = .ok (.iload_n 2, 1) := by decide +kernel
theorem dd_M_layOperation_9 : decode cc_M_layOperation 9 = .ok (.bipush 8, 2) := by decide +kernel
theorem dd_M_layOperation_11 : decode cc_M_layOperation 11 = .ok (.aload_n 0, 1) := by decide +kernel
theorem dd_M_layOperation_12 : decode cc_M_layOperation 12 = .ok (.getfield 23, 3) := by decide +kernel
theorem dd_M_layOperation_15 : decode cc_M_layOperation 15 = .ok (.iload_n 1, 1) := by decide +kernel
theorem dd_M_layOperation_16 : decode cc_M_layOperation 16 = .ok (.iaload, 1) := by decide +kernel
theorem dd_M_layOperation_17 : decode cc_M_layOperation 17 = .ok (.imul, 1) := by decide +kernel
theorem dd_M_layOperation_18 : decode cc_M_layOperation 18 = .ok (.iadd, 1) := by decide +kernel
theorem dd_M_layOperation_19 : decode cc_M_layOperation 19 = .ok (.invokevirtual 116, 3) := by decide +kernel
theorem dd_M_layOperation_22 : decode cc_M_layOperation 22 = .ok (.aload_n 0, 1) := by decide +kernel
theorem dd_M_layOperation_23 : decode cc_M_layOperation 23 = .ok (.iload_n 1, 1) := by decide +kernel
theorem dd_M_layOperation_24 : decode cc_M_layOperation 24 = .ok (.aload_n 0, 1) := by decide +kernel
theorem dd_M_layOperation_25 : decode cc_M_layOperation 25 = .ok (.getfield 16, 3) := by decide +kernel
theorem dd_M_layOperation_28 : decode cc_M_layOperation 28 = .ok (.iload_n 1, 1) := by decide +kernel
theorem dd_M_layOperation_29 : decode cc_M_layOperation 29 = .ok (.iaload, 1) := by decide +kernel
theorem dd_M_layOperation_30 : decode cc_M_layOperation 30 = .ok (.invokevirtual 123, 3) := by decide +kernel
theorem dd_M_layOperation_33 : decode cc_M_layOperation 33 = .ok (.iload_n 2, 1) := by decide +kernel
theorem dd_M_layOperation_34 : decode cc_M_layOperation 34 = .ok (.iconst 2, 1) := by decide +kernel
theorem dd_M_layOperation_35 : decode cc_M_layOperation 35 = .ok (.if_icmp .ge 16, 3) := by decide +kernel
theorem dd_M_layOperation_38 : decode cc_M_layOperation 38 = .ok (.aload_n 0, 1) := by decide +kernel
theorem dd_M_layOperation_39 : decode cc_M_layOperation 39 = .ok (.aload_n 0, 1) := by decide +kernel
theorem dd_M_layOperation_40 : decode cc_M_layOperation 40 = .ok (.getfield 19, 3) := by decide +kernel
theorem dd_M_layOperation_43 : decode cc_M_layOperation 43 = .ok (.iload_n 1, 1) := by decide +kernel
theorem dd_M_layOperation_44 : decode cc_M_layOperation 44 = .ok (.laload, 1) := by decide +kernel
theorem dd_M_layOperation_45 : decode cc_M_layOperation 45 = .ok (.invokevirtual 127, 3) := by decide +kernel
theorem dd_M_layOperation_48 : decode cc_M_layOperation 48 = .ok (.goto 20, 3) := by decide +kernel
theorem dd_M_layOperation_51 : decode cc_M_layOperation 51 = .ok (.iload_n 2, 1) := by decide +kernel
theorem dd_M_layOperation_52 : decode cc_M_layOperation 52 = .ok (.iconst 2, 1) := by decide +kernel
theorem dd_M_layOperation_53 : decode cc_M_layOperation 53 = .ok (.if_icmp .le 15, 3) := by decide +kernel
theorem dd_M_layOperation_56 : decode cc_M_layOperation 56 = .ok (.aload_n 0, 1) := by decide +kernel
theorem dd_M_layOperation_57 : decode cc_M_layOperation 57 = .ok (.iload_n 1, 1) := by decide +kernel
theorem dd_M_layOperation_58 : decode cc_M_layOperation 58 = .ok (.aload_n 0, 1) := by decide +kernel
theorem dd_M_layOperation_59 : decode cc_M_layOperation 59 = .ok (.getfield 19, 3) := by decide +kernel
theorem dd_M_layOperation_62 : decode cc_M_layOperation 62 = .ok (.iload_n 1, 1) := by decide +kernel
theorem dd_M_layOperation_63 : decode cc_M_layOperation 63 = .ok (.laload, 1) := by decide +kernel
theorem dd_M_layOperation_64 : decode cc_M_layOperation 64 = .ok (.l2i, 1) := by decide +kernel
theorem dd_M_layOperation_65 : decode cc_M_layOperation 65 = .ok (.invokevirtual 123, 3) := by decide +kernel
theorem dd_M_layOperation_68 : decode cc_M_layOperation 68 = .ok (.iload_n 2, 1) := by decide +kernel
theorem dd_M_layOperation_69 : decode cc_M_layOperation 69 = .ok (.iconst 2, 1) := by decide +kernel
theorem dd_M_layOperation_70 : decode cc_M_layOperation 70 = .ok (.if_icmp .eq 23, 3) := by decide +kernel
theorem dd_M_layOperation_73 : decode cc_M_layOperation 73 = .ok (.aload_n 0, 1) := by decide +kernel
theorem dd_M_layOperation_74 : decode cc_M_layOperation 74 = .ok (.getfield 23, 3) := by decide +kernel
theorem dd_M_layOperation_77 : decode cc_M_layOperation 77 = .ok (.iload_n 1, 1) := by decide +kernel
theorem dd_M_layOperation_78 : decode cc_M_layOperation 78 = .ok (.iaload, 1) := by decide +kernel
theorem dd_M_layOperation_79 : decode cc_M_layOperation 79 = .ok (.iconst 2, 1) := by decide +kernel
theorem dd_M_layOperation_80 : decode cc_M_layOperation 80 = .ok (.if_icmp .eq 13, 3) := by decide +kernel
theorem dd_M_layOperation_83 : decode cc_M_layOperation 83 = .ok (.aload_n 0, 1) := by decide +kernel
theorem dd_M_layOperation_84 : decode cc_M_layOperation 84 = .ok (.getfield 23, 3) := by decide +kernel
theorem dd_M_layOperation_87 : decode cc_M_layOperation 87 = .ok (.iload_n 1, 1) := by decide +kernel
theorem dd_M_layOperation_88 : decode cc_M_layOperation 88 = .ok (.iaload, 1) := by decide +kernel
theorem dd_M_layOperation_89 : decode cc_M_layOperation 89 = .ok (.iconst 4, 1) := by decide +kernel
theorem dd_M_layOperation_90 : decode cc_M_layOperation 90 = .ok (.if_icmp .ne 16, 3) := by decide +kernel
theorem dd_M_layOperation_93 : decode cc_M_layOperation 93 = .ok (.aload_n 0, 1) := by decide +kernel
theorem dd_M_layOperation_94 : decode cc_M_layOperation 94 = .ok (.aload_n 0, 1) := by decide +kernel
theorem dd_M_layOperation_95 : decode cc_M_layOperation 95 = .ok (.getfield 26, 3) := by decide +kernel
theorem dd_M_layOperation_98 : decode cc_M_layOperation 98 = .ok (.iload_n 1, 1) := by decide +kernel
theorem dd_M_layOperation_99 : decode cc_M_layOperation 99 = .ok (.iaload, 1) := by decide +kernel
theorem dd_M_layOperation_100 : decode cc_M_layOperation 100 = .ok (.invokevirtual 131, 3) := by decide +kernel
theorem dd_M_layOperation_103 : decode cc_M_layOperation 103 = .ok (.goto 51, 3) := by decide +kernel
theorem dd_M_layOperation_106 : decode cc_M_layOperation 106 = .ok (.aload_n 0, 1) := by decide +kernel
theorem dd_M_layOperation_107 : decode cc_M_layOperation 107 = .ok (.getfield 23, 3) := by decide +kernel
theorem dd_M_layOperation_110 : decode cc_M_layOperation 110 = .ok (.iload_n 1, 1) := by decide +kernel
theorem dd_M_layOperation_111 : decode cc_M_layOperation 111 = .ok (.iaload, 1) := by decide +kernel
theorem dd_M_layOperation_112 : decode cc_M_layOperation 112 = .ok (.iconst 1, 1) := by decide +kernel
theorem dd_M_layOperation_113 : decode cc_M_layOperation 113 = .ok (.if_icmp .ne 16, 3) := by decide +kernel
theorem dd_M_layOperation_116 : decode cc_M_layOperation 116 = .ok (.aload_n 0, 1) := by decide +kernel
theorem dd_M_layOperation_117 : decode cc_M_layOperation 117 = .ok (.aload_n 0, 1) := by decide +kernel
theorem dd_M_layOperation_118 : decode cc_M_layOperation 118 = .ok (.getfield 26, 3) := by decide +kernel
theorem dd_M_layOperation_121 : decode cc_M_layOperation 121 = .ok (.iload_n 1, 1) := by decide +kernel
theorem dd_M_layOperation_122 : decode cc_M_layOperation 122 = .ok (.iaload, 1) := by decide +kernel
theorem dd_M_layOperation_123 : decode cc_M_layOperation 123 = .ok (.invokevirtual 116, 3) := by decide +kernel
theorem dd_M_layOperation_126 : decode cc_M_layOperation 126 = .ok (.goto 28, 3) := by decide +kernel
theorem dd_M_layOperation_129 : decode cc_M_layOperation 129 = .ok (.aload_n 0, 1) := by decide +kernel
theorem dd_M_layOperation_130 : decode cc_M_layOperation 130 = .ok (.getfield 23, 3) := by decide +kernel
theorem dd_M_layOperation_133 : decode cc_M_layOperation 133 = .ok (.iload_n 1, 1) := by decide +kernel
theorem dd_M_layOperation_134 : decode cc_M_layOperation 134 = .ok (.iaload, 1) := by decide +kernel
theorem dd_M_layOperation_135 : decode cc_M_layOperation 135 = .ok (.iconst 3, 1) := by decide +kernel
theorem dd_M_layOperation_136 : decode cc_M_layOperation 136 = .ok (.if_icmp .ne 18, 3) := by decide +kernel
theorem dd_M_layOperation_139 : decode cc_M_layOperation 139 = .ok (.aload_n 0, 1) := by decide +kernel
theorem dd_M_layOperation_140 : decode cc_M_layOperation 140 = .ok (.aload_n 0, 1) := by decide +kernel
theorem dd_M_layOperation_141 : decode cc_M_layOperation 141 = .ok (.getfield 26, 3) := by decide +kernel
theorem dd_M_layOperation_144 : decode cc_M_layOperation 144 = .ok (.iload_n 1, 1) := by decide +kernel
theorem dd_M_layOperation_145 : decode cc_M_layOperation 145 = .ok (.iaload, 1) := by decide +kernel
theorem dd_M_layOperation_146 : decode cc_M_layOperation 146 = .ok (.i2l, 1) := by decide +kernel
theorem dd_M_layOperation_147 : decode cc_M_layOperation 147 = .ok (.ldc2_w 70, 3) := by decide +kernel
theorem dd_M_layOperation_150 : decode cc_M_layOperation 150 = .ok (.land, 1) := by decide +kernel
theorem dd_M_layOperation_151 : decode cc_M_layOperation 151 = .ok (.invokevirtual 127, 3) := by decide +kernel
theorem dd_M_layOperation_154 : decode cc_M_layOperation 154 = .ok (.return_, 1) := by decide +kernel
theorem dd_M_layBody_0 : decode cc_M_layBody 0 = .ok (.aload_n 0, 1) := by decide +kernel
theorem dd_M_layBody_1 : decode cc_M_layBody 1 = .ok (.iconst 0, 1) := by decide +kernel
theorem dd_M_layBody_2 : decode cc_M_layBody 2 = .ok (.putfield 113, 3) := by decide +kernel
theorem dd_M_layBody_5 : decode cc_M_layBody 5 = .ok (.aload_n 0, 1) := by decide +kernel
theorem dd_M_layBody_6 : decode cc_M_layBody 6 = .ok (.aload_n 0, 1) := by decide +kernel
theorem dd_M_layBody_7 : decode cc_M_layBody 7 = .ok (.getfield 87, 3) := by decide +kernel
theorem dd_M_layBody_10 : decode cc_M_layBody 10 = .ok (.invokevirtual 116, 3) := by decide +kernel
theorem dd_M_layBody_13 : decode cc_M_layBody 13 = .ok (.aload_n 0, 1) := by decide +kernel
theorem dd_M_layBody_14 : decode cc_M_layBody 14 = .ok (.aload_n 0, 1) := by decide +kernel
theorem dd_M_layBody_15 : decode cc_M_layBody 15 = .ok (.getfield 99, 3) := by decide +kernel
theorem dd_M_layBody_18 : decode cc_M_layBody 18 = .ok (.invokevirtual 120, 3) := by decide +kernel
theorem dd_M_layBody_21 : decode cc_M_layBody 21 = .ok (.aload_n 0, 1) := by decide +kernel
theorem dd_M_layBody_22 : decode cc_M_layBody 22 = .ok (.aload_n 0, 1) := by decide +kernel
theorem dd_M_layBody_23 : decode cc_M_layBody 23 = .ok (.getfield 84, 3) := by decide +kernel
theorem dd_M_layBody_26 : decode cc_M_layBody 26 = .ok (.invokevirtual 120, 3) := by decide +kernel
theorem dd_M_layBody_29 : decode cc_M_layBody 29 = .ok (.iconst 0, 1) := by decide +kernel
theorem dd_M_layBody_30 : decode cc_M_layBody 30 = .ok (.istore_n 1, 1) := by decide +kernel
theorem dd_M_layBody_31 : decode cc_M_layBody 31 = .ok (.iconst 0, 1) := by decide +kernel
theorem dd_M_layBody_32 : decode cc_M_layBody 32 = .ok (.istore_n 2, 1) := by decide +kernel
theorem dd_M_layBody_33 : decode cc_M_layBody 33 = .ok (.iload_n 2, 1) := by decide +kernel
theorem dd_M_layBody_34 : decode cc_M_layBody 34 = .ok (.bipush 8, 2) := by decide +kernel
theorem dd_M_layBody_36 : decode cc_M_layBody 36 = .ok (.if_icmp .ge 36, 3) := by decide +kernel
theorem dd_M_layBody_39 : decode cc_M_layBody 39 = .ok (.iload_n 1, 1) := by decide +kernel
theorem dd_M_layBody_40 : decode cc_M_layBody 40 = .ok (.iload_n 2, 1) := by decide +kernel
theorem dd_M_layBody_41 : decode cc_M_layBody 41 = .ok (.aload_n 0, 1) := by decide +kernel
theorem dd_M_layBody_42 : decode cc_M_layBody 42 = .ok (.getfield 87, 3) := by decide +kernel
theorem dd_M_layBody_45 : decode cc_M_layBody 45 = .ok (.if_icmp .eq 18, 3) := by decide +kernel
theorem dd_M_layBody_48 : decode cc_M_layBody 48 = .ok (.aload_n 0, 1) := by decide +kernel
theorem dd_M_layBody_49 : decode cc_M_layBody 49 = .ok (.getfield 7, 3) := by decide +kernel
theorem dd_M_layBody_52 : decode cc_M_layBody 52 = .ok (.iload_n 2, 1) := by decide +kernel
theorem dd_M_layBody_53 : decode cc_M_layBody 53 = .ok (.iaload, 1) := by decide +kernel
theorem dd_M_layBody_54 : decode cc_M_layBody 54 = .ok (.ifCond .le 9, 3) := by decide +kernel
theorem dd_M_layBody_57 : decode cc_M_layBody 57 = .ok (.iconst 1, 1) := by decide +kernel
theorem dd_M_layBody_58 : decode cc_M_layBody 58 = .ok (.iload_n 2, 1) := by decide +kernel
theorem dd_M_layBody_59 : decode cc_M_layBody 59 = .ok (.ishl, 1) := by decide +kernel
theorem dd_M_layBody_60 : decode cc_M_layBody 60 = .ok (.goto 4, 3) := by decide +kernel
theorem dd_M_layBody_63 : decode cc_M_layBody 63 = .ok (.iconst 0, 1) := by decide +kernel
theorem dd_M_layBody_64 : decode cc_M_layBody 64 = .ok (.iadd, 1) := by decide +kernel
theorem dd_M_layBody_65 : decode cc_M_layBody 65 = .ok (.istore_n 1, 1) := by decide +kernel
theorem dd_M_layBody_66 : decode cc_M_layBody 66 = .ok (.iinc 2 1, 3) := by decide +kernel
theorem dd_M_layBody_69 : decode cc_M_layBody 69 = .ok (.goto (-36), 3) := by decide +kernel
theorem dd_M_layBody_72 : decode cc_M_layBody 72 = .ok (.aload_n 0, 1) := by decide +kernel
theorem dd_M_layBody_73 : decode cc_M_layBody 73 = .ok (.iload_n 1, 1) := by decide +kernel
theorem dd_M_layBody_74 : decode cc_M_layBody 74 = .ok (.invokevirtual 116, 3) := by decide +kernel
theorem dd_M_layBody_77 : decode cc_M_layBody 77 = .ok (.iconst 0, 1) := by decide +kernel
theorem dd_M_layBody_78 : decode cc_M_layBody 78 = .ok (.istore_n 2, 1) := by decide +kernel
theorem dd_M_layBody_79 : decode cc_M_layBody 79 = .ok (.iload_n 2, 1) := by decide +kernel
theorem dd_M_layBody_80 : decode cc_M_layBody 80 = .ok (.bipush 8, 2) := by decide +kernel
theorem dd_M_layBody_82 : decode cc_M_layBody 82 = .ok (.if_icmp .ge 28, 3) := by decide +kernel
theorem dd_M_layBody_85 : decode cc_M_layBody 85 = .ok (.iload_n 1, 1) := by decide +kernel
theorem dd_M_layBody_86 : decode cc_M_layBody 86 = .ok (.iload_n 2, 1) := by decide +kernel
theorem dd_M_layBody_87 : decode cc_M_layBody 87 = .ok (.ishr, 1) := by decide +kernel
theorem dd_M_layBody_88 : decode cc_M_layBody 88 = .ok (.iconst 1, 1) := by decide +kernel
theorem dd_M_layBody_89 : decode cc_M_layBody 89 = .ok (.iand, 1) := by decide +kernel
theorem dd_M_layBody_90 : decode cc_M_layBody 90 = .ok (.iconst 1, 1) := by decide +kernel
theorem dd_M_layBody_91 : decode cc_M_layBody 91 = .ok (.if_icmp .ne 13, 3) := by decide +kernel
theorem dd_M_layBody_94 : decode cc_M_layBody 94 = .ok (.aload_n 0, 1) := by decide +kernel
theorem dd_M_layBody_95 : decode cc_M_layBody 95 = .ok (.aload_n 0, 1) := by decide +kernel
theorem dd_M_layBody_96 : decode cc_M_layBody 96 = .ok (.getfield 7, 3) := by decide +kernel
theorem dd_M_layBody_99 : decode cc_M_layBody 99 = .ok (.iload_n 2, 1) := by decide +kernel
theorem dd_M_layBody_100 : decode cc_M_layBody 100 = .ok (.iaload, 1) := by decide +kernel
theorem dd_M_layBody_101 : decode cc_M_layBody 101 = .ok (.invokevirtual 120, 3) := by decide +kernel
theorem dd_M_layBody_104 : decode cc_M_layBody 104 = .ok (.iinc 2 1, 3) := by decide +kernel
theorem dd_M_layBody_107 : decode cc_M_layBody 107 = .ok (.goto (-28), 3) := by decide +kernel
theorem dd_M_layBody_110 : decode cc_M_layBody 110 = .ok (.aload_n 0, 1) := by decide +kernel
theorem dd_M_layBody_111 : decode cc_M_layBody 111 = .ok (.aload_n 0, 1) := by decide +kernel
theorem dd_M_layBody_112 : decode cc_M_layBody 112 = .ok (.getfield 102, 3) := by decide +kernel
theorem dd_M_layBody_115 : decode cc_M_layBody 115 = .ok (.invokevirtual 120, 3) := by decide +kernel
theorem dd_M_layBody_118 : decode cc_M_layBody 118 = .ok (.iconst 0, 1) := by decide +kernel
theorem dd_M_layBody_119 : decode cc_M_layBody 119 = .ok (.istore_n 2, 1) := by decide +kernel
theorem dd_M_layBody_120 : decode cc_M_layBody 120 = .ok (.iload_n 2, 1) := by decide +kernel
theorem dd_M_layBody_121 : decode cc_M_layBody 121 = .ok (.aload_n 0, 1) := by decide +kernel
theorem dd_M_layBody_122 : decode cc_M_layBody 122 = .ok (.getfield 102, 3) := by decide +kernel
theorem dd_M_layBody_125 : decode cc_M_layBody 125 = .ok (.if_icmp .ge 14, 3) := by decide +kernel
theorem dd_M_layBody_128 : decode cc_M_layBody 128 = .ok (.aload_n 0, 1) := by decide +kernel
theorem dd_M_layBody_129 : decode cc_M_layBody 129 = .ok (.iload_n 2, 1) := by decide +kernel
theorem dd_M_layBody_130 : decode cc_M_layBody 130 = .ok (.invokevirtual 134, 3) := by decide +kernel
theorem dd_M_layBody_133 : decode cc_M_layBody 133 = .ok (.iinc 2 1, 3) := by decide +kernel
theorem dd_M_layBody_136 : decode cc_M_layBody 136 = .ok (.goto (-16), 3) := by decide +kernel
theorem dd_M_layBody_139 : decode cc_M_layBody 139 = .ok (.return_, 1) := by decide +kernel
theorem dd_M_checkOf_0 : decode cc_M_checkOf 0 = .ok (.iconst (-1), 1) := by decide +kernel
theorem dd_M_checkOf_1 : decode cc_M_checkOf 1 = .ok (.istore_n 3, 1) := by decide +kernel
theorem dd_M_checkOf_2 : decode cc_M_checkOf 2 = .ok (.iload_n 1, 1) := by decide +kernel
theorem dd_M_checkOf_3 : decode cc_M_checkOf 3 = .ok (.istore 4, 2) := by decide +kernel
theorem dd_M_checkOf_5 : decode cc_M_checkOf 5 = .ok (.iload 4, 2) := by decide +kernel
theorem dd_M_checkOf_7 : decode cc_M_checkOf 7 = .ok (.iload_n 2, 1) := by decide +kernel
theorem dd_M_checkOf_8 : decode cc_M_checkOf 8 = .ok (.if_icmp .ge 56, 3) := by decide +kernel
theorem dd_M_checkOf_11 : decode cc_M_checkOf 11 = .ok (.iload_n 3, 1) := by decide +kernel
theorem dd_M_checkOf_12 : decode cc_M_checkOf 12 = .ok (.aload_n 0, 1) := by decide +kernel
theorem dd_M_checkOf_13 : decode cc_M_checkOf 13 = .ok (.iload 4, 2) := by decide +kernel
theorem dd_M_checkOf_15 : decode cc_M_checkOf 15 = .ok (.baload, 1) := by decide +kernel
theorem dd_M_checkOf_16 : decode cc_M_checkOf 16 = .ok (.sipush 255, 3) := by decide +kernel
theorem dd_M_checkOf_19 : decode cc_M_checkOf 19 = .ok (.iand, 1) := by decide +kernel
theorem dd_M_checkOf_20 : decode cc_M_checkOf 20 = .ok (.ixor, 1) := by decide +kernel
theorem dd_M_checkOf_21 : decode cc_M_checkOf 21 = .ok (.istore_n 3, 1) := by decide +kernel
theorem dd_M_checkOf_22 : decode cc_M_checkOf 22 = .ok (.iconst 0, 1) := by decide +kernel
theorem dd_M_checkOf_23 : decode cc_M_checkOf 23 = .ok (.istore 5, 2) := by decide +kernel
theorem dd_M_checkOf_25 : decode cc_M_checkOf 25 = .ok (.iload 5, 2) := by decide +kernel
theorem dd_M_checkOf_27 : decode cc_M_checkOf 27 = .ok (.bipush 8, 2) := by decide +kernel
theorem dd_M_checkOf_29 : decode cc_M_checkOf 29 = .ok (.if_icmp .ge 29, 3) := by decide +kernel
theorem dd_M_checkOf_32 : decode cc_M_checkOf 32 = .ok (.iload_n 3, 1) := by decide +kernel
theorem dd_M_checkOf_33 : decode cc_M_checkOf 33 = .ok (.iconst 1, 1) := by decide +kernel
theorem dd_M_checkOf_34 : decode cc_M_checkOf 34 = .ok (.iand, 1) := by decide +kernel
theorem dd_M_checkOf_35 : decode cc_M_checkOf 35 = .ok (.iconst 1, 1) := by decide +kernel
theorem dd_M_checkOf_36 : decode cc_M_checkOf 36 = .ok (.if_icmp .ne 12, 3) := by decide +kernel
theorem dd_M_checkOf_39 : decode cc_M_checkOf 39 = .ok (.iload_n 3, 1) := by decide +kernel
theorem dd_M_checkOf_40 : decode cc_M_checkOf 40 = .ok (.iconst 1, 1) := by decide +kernel
theorem dd_M_checkOf_41 : decode cc_M_checkOf 41 = .ok (.iushr, 1) := by decide +kernel
theorem dd_M_checkOf_42 : decode cc_M_checkOf 42 = .ok (.ldc 137, 2) := by decide +kernel
theorem dd_M_checkOf_44 : decode cc_M_checkOf 44 = .ok (.ixor, 1) := by decide +kernel
theorem dd_M_checkOf_45 : decode cc_M_checkOf 45 = .ok (.goto 6, 3) := by decide +kernel
theorem dd_M_checkOf_48 : decode cc_M_checkOf 48 = .ok (.iload_n 3, 1) := by decide +kernel
theorem dd_M_checkOf_49 : decode cc_M_checkOf 49 = .ok (.iconst 1, 1) := by decide +kernel
theorem dd_M_checkOf_50 : decode cc_M_checkOf 50 = .ok (.iushr, 1) := by decide +kernel
theorem dd_M_checkOf_51 : decode cc_M_checkOf 51 = .ok (.istore_n 3, 1) := by decide +kernel
theorem dd_M_checkOf_52 : decode cc_M_checkOf 52 = .ok (.iinc 5 1, 3) := by decide +kernel
theorem dd_M_checkOf_55 : decode cc_M_checkOf 55 = .ok (.goto (-30), 3) := by decide +kernel
theorem dd_M_checkOf_58 : decode cc_M_checkOf 58 = .ok (.iinc 4 1, 3) := by decide +kernel
theorem dd_M_checkOf_61 : decode cc_M_checkOf 61 = .ok (.goto (-56), 3) := by decide +kernel
theorem dd_M_checkOf_64 : decode cc_M_checkOf 64 = .ok (.iload_n 3, 1) := by decide +kernel
theorem dd_M_checkOf_65 : decode cc_M_checkOf 65 = .ok (.iconst (-1), 1) := by decide +kernel
theorem dd_M_checkOf_66 : decode cc_M_checkOf 66 = .ok (.ixor, 1) := by decide +kernel
theorem dd_M_checkOf_67 : decode cc_M_checkOf 67 = .ok (.ireturn, 1) := by decide +kernel
theorem dd_M_isWhole_0 : decode cc_M_isWhole 0 = .ok (.aload_n 0, 1) := by decide +kernel
theorem dd_M_isWhole_1 : decode cc_M_isWhole 1 = .ok (.aload_n 0, 1) := by decide +kernel
theorem dd_M_isWhole_2 : decode cc_M_isWhole 2 = .ok (.getfield 95, 3) := by decide +kernel
theorem dd_M_isWhole_5 : decode cc_M_isWhole 5 = .ok (.ifCond .eq 14, 3) := by decide +kernel
theorem dd_M_isWhole_8 : decode cc_M_isWhole 8 = .ok (.aload_n 0, 1) := by decide +kernel
theorem dd_M_isWhole_9 : decode cc_M_isWhole 9 = .ok (.getfield 102, 3) := by decide +kernel
theorem dd_M_isWhole_12 : decode cc_M_isWhole 12 = .ok (.ifCond .le 7, 3) := by decide +kernel
theorem dd_M_isWhole_15 : decode cc_M_isWhole 15 = .ok (.iconst 0, 1) := by decide +kernel
theorem dd_M_isWhole_16 : decode cc_M_isWhole 16 = .ok (.goto 4, 3) := by decide +kernel
theorem dd_M_isWhole_19 : decode cc_M_isWhole 19 = .ok (.iconst 1, 1) := by decide +kernel
theorem dd_M_isWhole_20 : decode cc_M_isWhole 20 = .ok (.putfield 61, 3) := by decide +kernel
theorem dd_M_isWhole_23 : decode cc_M_isWhole 23 = .ok (.aload_n 0, 1) := by decide +kernel
theorem dd_M_isWhole_24 : decode cc_M_isWhole 24 = .ok (.getfield 61, 3) := by decide +kernel
theorem dd_M_isWhole_27 : decode cc_M_isWhole 27 = .ok (.ifCond .ne 7, 3) := by decide +kernel
theorem dd_M_isWhole_30 : decode cc_M_isWhole 30 = .ok (.iconst 1, 1) := by decide +kernel
theorem dd_M_isWhole_31 : decode cc_M_isWhole 31 = .ok (.goto 4, 3) := by decide +kernel
theorem dd_M_isWhole_34 : decode cc_M_isWhole 34 = .ok (.iconst 0, 1) := by decide +kernel
theorem dd_M_isWhole_35 : decode cc_M_isWhole 35 = .ok (.ireturn, 1) := by decide +kernel
theorem dd_M_ahead_0 : decode cc_M_ahead 0 = .ok (.aload_n 0, 1) := by decide +kernel
theorem dd_M_ahead_1 : decode cc_M_ahead 1 = .ok (.getfield 113, 3) := by decide +kernel
theorem dd_M_ahead_4 : decode cc_M_ahead 4 = .ok (.bipush 127, 2) := by decide +kernel
theorem dd_M_ahead_6 : decode cc_M_ahead 6 = .ok (.if_icmp .le 7, 3) := by decide +kernel
theorem dd_M_ahead_9 : decode cc_M_ahead 9 = .ok (.iconst 2, 1) := by decide +kernel
theorem dd_M_ahead_10 : decode cc_M_ahead 10 = .ok (.goto 4, 3) := by decide +kernel
theorem dd_M_ahead_13 : decode cc_M_ahead 13 = .ok (.iconst 1, 1) := by decide +kernel
theorem dd_M_ahead_14 : decode cc_M_ahead 14 = .ok (.ireturn, 1) := by decide +kernel
theorem dd_M_clear_0 : decode cc_M_clear 0 = .ok (.aload_n 0, 1) := by decide +kernel
theorem dd_M_clear_1 : decode cc_M_clear 1 = .ok (.iconst 0, 1) := by decide +kernel
theorem dd_M_clear_2 : decode cc_M_clear 2 = .ok (.putfield 61, 3) := by decide +kernel
theorem dd_M_clear_5 : decode cc_M_clear 5 = .ok (.aload_n 0, 1) := by decide +kernel
theorem dd_M_clear_6 : decode cc_M_clear 6 = .ok (.iconst 0, 1) := by decide +kernel
theorem dd_M_clear_7 : decode cc_M_clear 7 = .ok (.putfield 149, 3) := by decide +kernel
theorem dd_M_clear_10 : decode cc_M_clear 10 = .ok (.return_, 1) := by decide +kernel
theorem dd_M_cut_0 : decode cc_M_cut 0 = .ok (.aload_n 0, 1) := by decide +kernel
theorem dd_M_cut_1 : decode cc_M_cut 1 = .ok (.iconst 0, 1) := by decide +kernel
theorem dd_M_cut_2 : decode cc_M_cut 2 = .ok (.putfield 61, 3) := by decide +kernel
theorem dd_M_cut_5 : decode cc_M_cut 5 = .ok (.iload_n 1, 1) := by decide +kernel
theorem dd_M_cut_6 : decode cc_M_cut 6 = .ok (.ifCond .lt 11, 3) := by decide +kernel
theorem dd_M_cut_9 : decode cc_M_cut 9 = .ok (.iload_n 1, 1) := by decide +kernel
theorem dd_M_cut_10 : decode cc_M_cut 10 = .ok (.aload_n 0, 1) := by decide +kernel
theorem dd_M_cut_11 : decode cc_M_cut 11 = .ok (.getfield 156, 3) := by decide +kernel
theorem dd_M_cut_14 : decode cc_M_cut 14 = .ok (.if_icmp .le 5, 3) := by decide +kernel
theorem dd_M_cut_17 : decode cc_M_cut 17 = .ok (.iconst 0, 1) := by decide +kernel
theorem dd_M_cut_18 : decode cc_M_cut 18 = .ok (.ireturn, 1) := by decide +kernel
theorem dd_M_cut_19 : decode cc_M_cut 19 = .ok (.aload_n 0, 1) := by decide +kernel
theorem dd_M_cut_20 : decode cc_M_cut 20 = .ok (.iload_n 1, 1) := by decide +kernel
theorem dd_M_cut_21 : decode cc_M_cut 21 = .ok (.putfield 156, 3) := by decide +kernel
theorem dd_M_cut_24 : decode cc_M_cut 24 = .ok (.aload_n 0, 1) := by decide +kernel
theorem dd_M_cut_25 : decode cc_M_cut 25 = .ok (.iconst 0, 1) := by decide +kernel
theorem dd_M_cut_26 : decode cc_M_cut 26 = .ok (.putfield 159, 3) := by decide +kernel
theorem dd_M_cut_29 : decode cc_M_cut 29 = .ok (.iconst 1, 1) := by decide +kernel
theorem dd_M_cut_30 : decode cc_M_cut 30 = .ok (.ireturn, 1) := by decide +kernel
theorem dd_M_isIn_0 : decode cc_M_isIn 0 = .ok (.aload_n 0, 1) := by decide +kernel
theorem dd_M_isIn_1 : decode cc_M_isIn 1 = .ok (.getfield 95, 3) := by decide +kernel
theorem dd_M_isIn_4 : decode cc_M_isIn 4 = .ok (.ifCond .eq 19, 3) := by decide +kernel
theorem dd_M_isIn_7 : decode cc_M_isIn 7 = .ok (.iload_n 1, 1) := by decide +kernel
theorem dd_M_isIn_8 : decode cc_M_isIn 8 = .ok (.ifCond .lt 15, 3) := by decide +kernel
theorem dd_M_isIn_11 : decode cc_M_isIn 11 = .ok (.iload_n 1, 1) := by decide +kernel
theorem dd_M_isIn_12 : decode cc_M_isIn 12 = .ok (.aload_n 0, 1) := by decide +kernel
theorem dd_M_isIn_13 : decode cc_M_isIn 13 = .ok (.getfield 102, 3) := by decide +kernel
theorem dd_M_isIn_16 : decode cc_M_isIn 16 = .ok (.if_icmp .ge 7, 3) := by decide +kernel
theorem dd_M_isIn_19 : decode cc_M_isIn 19 = .ok (.iconst 1, 1) := by decide +kernel
theorem dd_M_isIn_20 : decode cc_M_isIn 20 = .ok (.goto 4, 3) := by decide +kernel
theorem dd_M_isIn_23 : decode cc_M_isIn 23 = .ok (.iconst 0, 1) := by decide +kernel
theorem dd_M_isIn_24 : decode cc_M_isIn 24 = .ok (.ireturn, 1) := by decide +kernel
end
section
theorem dd_W_law_0 : decode cc_W_law 0 = .ok (.new 8, 3) := by decide +kernel
theorem dd_W_law_3 : decode cc_W_law 3 = .ok (.dup, 1) := by decide +kernel
theorem dd_W_law_4 : decode cc_W_law 4 = .ok (.invokespecial 40, 3) := by decide +kernel
theorem dd_W_law_7 : decode cc_W_law 7 = .ok (.astore_n 1, 1) := by decide +kernel
theorem dd_W_law_8 : decode cc_W_law 8 = .ok (.new 41, 3) := by decide +kernel
theorem dd_W_law_11 : decode cc_W_law 11 = .ok (.dup, 1) := by decide +kernel
theorem dd_W_law_12 : decode cc_W_law 12 = .ok (.invokespecial 43, 3) := by decide +kernel
theorem dd_W_law_15 : decode cc_W_law 15 = .ok (.astore_n 2, 1) := by decide +kernel
theorem dd_W_law_16 : decode cc_W_law 16 = .ok (.iconst 1, 1) := by decide +kernel
theorem dd_W_law_17 : decode cc_W_law 17 = .ok (.newarray .long, 2) := by decide +kernel
theorem dd_W_law_19 : decode cc_W_law 19 = .ok (.astore_n 3, 1) := by decide +kernel
theorem dd_W_law_20 : decode cc_W_law 20 = .ok (.iconst 0, 1) := by decide +kernel
theorem dd_W_law_21 : decode cc_W_law 21 = .ok (.istore 4, 2) := by decide +kernel
theorem dd_W_law_23 : decode cc_W_law 23 = .ok (.iload 4, 2) := by decide +kernel
theorem dd_W_law_25 : decode cc_W_law 25 = .ok (.aload_n 0, 1) := by decide +kernel
theorem dd_W_law_26 : decode cc_W_law 26 = .ok (.arraylength, 1) := by decide +kernel
theorem dd_W_law_27 : decode cc_W_law 27 = .ok (.bipush 7, 2) := by decide +kernel
theorem dd_W_law_29 : decode cc_W_law 29 = .ok (.isub, 1) := by decide +kernel
theorem dd_W_law_30 : decode cc_W_law 30 = .ok (.if_icmp .gt 759, 3) := by decide +kernel
theorem dd_W_law_789 : decode cc_W_law 789 = .ok (.iconst 1, 1) := by decide +kernel
theorem dd_W_law_790 : decode cc_W_law 790 = .ok (.ireturn, 1) := by decide +kernel
end
section
theorem qq_1 : (Cond.initialized "ChangeCodec") ∈ gw := gw_at 1 (by decide +kernel) rfl
theorem qq_2 : (Cond.initialized "ChangeCodec$Bytes") ∈ gw := gw_at 2 (by decide +kernel) rfl
theorem qq_3 : (Cond.initialized "ChangeCodec$Reader") ∈ gw := gw_at 3 (by decide +kernel) rfl
theorem qq_4 : (Cond.initialized "ChangeCodec$Change") ∈ gw := gw_at 4 (by decide +kernel) rfl
theorem qq_5 : (Cond.initialized "ChangeCodecModel") ∈ gw := gw_at 5 (by decide +kernel) rfl
theorem qq_17 : (Cond.classLink "ChangeCodecLaw" 8 "ChangeCodec") ∈ gw := gw_at 17 (by decide +kernel) rfl
theorem qq_18 : (Cond.instantiable "ChangeCodec" 8) ∈ gw := gw_at 18 (by decide +kernel) rfl
theorem qq_19 : (Cond.methodLink "ChangeCodecLaw" 40 ⟨"ChangeCodec", "<init>", "()V"⟩) ∈ gw := gw_at 19 (by decide +kernel) rfl
theorem qq_20 : (Cond.instanceMethod ⟨"ChangeCodec", "<init>", "()V"⟩) ∈ gw := gw_at 20 (by decide +kernel) rfl
set_option maxRecDepth 100000 in
theorem qq_21 : (Cond.code ⟨"ChangeCodec", "<init>", "()V"⟩ prog_1_method_1_code 1 (Option.none : Option FieldType)) ∈ gw := gw_at 21 rfl rfl
theorem qq_22 : (Cond.methodLink "ChangeCodec" 1 ⟨"java/lang/Object", "<init>", "()V"⟩) ∈ gw := gw_at 22 (by decide +kernel) rfl
theorem qq_23 : (Cond.instanceMethod ⟨"java/lang/Object", "<init>", "()V"⟩) ∈ gw := gw_at 23 (by decide +kernel) rfl
set_option maxRecDepth 100000 in
theorem qq_24 : (Cond.code ⟨"java/lang/Object", "<init>", "()V"⟩ object_method_1_code 1 (Option.none : Option FieldType)) ∈ gw := gw_at 24 rfl rfl
theorem qq_25 : (Cond.classLink "ChangeCodec" 7 "ChangeCodec$Bytes") ∈ gw := gw_at 25 (by decide +kernel) rfl
theorem qq_26 : (Cond.instantiable "ChangeCodec$Bytes" 2) ∈ gw := gw_at 26 (by decide +kernel) rfl
theorem qq_27 : (Cond.methodLink "ChangeCodec" 11 ⟨"ChangeCodec$Bytes", "<init>", "(I)V"⟩) ∈ gw := gw_at 27 (by decide +kernel) rfl
theorem qq_28 : (Cond.instanceMethod ⟨"ChangeCodec$Bytes", "<init>", "(I)V"⟩) ∈ gw := gw_at 28 (by decide +kernel) rfl
set_option maxRecDepth 100000 in
theorem qq_29 : (Cond.code ⟨"ChangeCodec$Bytes", "<init>", "(I)V"⟩ prog_2_method_1_code 2 (Option.none : Option FieldType)) ∈ gw := gw_at 29 rfl rfl
theorem qq_30 : (Cond.methodLink "ChangeCodec$Bytes" 3 ⟨"java/lang/Object", "<init>", "()V"⟩) ∈ gw := gw_at 30 (by decide +kernel) rfl
theorem qq_31 : (Cond.fieldLink "ChangeCodec$Bytes" 9 "ChangeCodec$Bytes" "cells" "[B") ∈ gw := gw_at 31 (by decide +kernel) rfl
theorem qq_33 : (Cond.fieldLink "ChangeCodec$Bytes" 15 "ChangeCodec$Bytes" "used" "I") ∈ gw := gw_at 33 (by decide +kernel) rfl
theorem qq_41 : (Cond.arrayClass FieldType.byte) ∈ gw := gw_at 41 (by decide +kernel) rfl
theorem qq_42 : (Cond.classLink "ChangeCodec" 18 "ChangeCodec$Reader") ∈ gw := gw_at 42 (by decide +kernel) rfl
theorem qq_43 : (Cond.instantiable "ChangeCodec$Reader" 5) ∈ gw := gw_at 43 (by decide +kernel) rfl
theorem qq_44 : (Cond.methodLink "ChangeCodec" 20 ⟨"ChangeCodec$Reader", "<init>", "()V"⟩) ∈ gw := gw_at 44 (by decide +kernel) rfl
theorem qq_45 : (Cond.instanceMethod ⟨"ChangeCodec$Reader", "<init>", "()V"⟩) ∈ gw := gw_at 45 (by decide +kernel) rfl
set_option maxRecDepth 100000 in
theorem qq_46 : (Cond.code ⟨"ChangeCodec$Reader", "<init>", "()V"⟩ prog_4_method_1_code 1 (Option.none : Option FieldType)) ∈ gw := gw_at 46 rfl rfl
theorem qq_47 : (Cond.methodLink "ChangeCodec$Reader" 3 ⟨"java/lang/Object", "<init>", "()V"⟩) ∈ gw := gw_at 47 (by decide +kernel) rfl
theorem qq_48 : (Cond.classLink "ChangeCodec$Reader" 9 "ChangeCodec$Bytes") ∈ gw := gw_at 48 (by decide +kernel) rfl
theorem qq_49 : (Cond.methodLink "ChangeCodec$Reader" 11 ⟨"ChangeCodec$Bytes", "<init>", "(I)V"⟩) ∈ gw := gw_at 49 (by decide +kernel) rfl
theorem qq_50 : (Cond.fieldLink "ChangeCodec$Reader" 14 "ChangeCodec$Reader" "source" "LChangeCodec$Bytes;") ∈ gw := gw_at 50 (by decide +kernel) rfl
theorem qq_51 : (Cond.fieldLink "ChangeCodec" 25 "ChangeCodec$Reader" "source" "LChangeCodec$Bytes;") ∈ gw := gw_at 51 (by decide +kernel) rfl
theorem qq_52 : (Cond.fieldLink "ChangeCodec$Reader" 20 "ChangeCodec$Reader" "here" "I") ∈ gw := gw_at 52 (by decide +kernel) rfl
theorem qq_54 : (Cond.fieldLink "ChangeCodec$Reader" 24 "ChangeCodec$Reader" "end" "I") ∈ gw := gw_at 54 (by decide +kernel) rfl
theorem qq_55 : (Cond.fieldLink "ChangeCodec$Reader" 27 "ChangeCodec$Reader" "fault" "I") ∈ gw := gw_at 55 (by decide +kernel) rfl
theorem qq_57 : (Cond.fieldLink "ChangeCodec$Reader" 30 "ChangeCodec$Reader" "place" "I") ∈ gw := gw_at 57 (by decide +kernel) rfl
theorem qq_70 : (Cond.classLink "ChangeCodec" 34 "ChangeCodec$Change") ∈ gw := gw_at 70 (by decide +kernel) rfl
theorem qq_71 : (Cond.instantiable "ChangeCodec$Change" 10) ∈ gw := gw_at 71 (by decide +kernel) rfl
theorem qq_72 : (Cond.methodLink "ChangeCodec" 36 ⟨"ChangeCodec$Change", "<init>", "()V"⟩) ∈ gw := gw_at 72 (by decide +kernel) rfl
theorem qq_73 : (Cond.instanceMethod ⟨"ChangeCodec$Change", "<init>", "()V"⟩) ∈ gw := gw_at 73 (by decide +kernel) rfl
set_option maxRecDepth 100000 in
theorem qq_74 : (Cond.code ⟨"ChangeCodec$Change", "<init>", "()V"⟩ prog_3_method_1_code 1 (Option.none : Option FieldType)) ∈ gw := gw_at 74 rfl rfl
theorem qq_75 : (Cond.methodLink "ChangeCodec$Change" 3 ⟨"java/lang/Object", "<init>", "()V"⟩) ∈ gw := gw_at 75 (by decide +kernel) rfl
theorem qq_86 : (Cond.fieldLink "ChangeCodec$Change" 9 "ChangeCodec$Change" "clock" "[I") ∈ gw := gw_at 86 (by decide +kernel) rfl
theorem qq_89 : (Cond.fieldLink "ChangeCodec$Change" 15 "ChangeCodec$Change" "types" "[I") ∈ gw := gw_at 89 (by decide +kernel) rfl
theorem qq_91 : (Cond.fieldLink "ChangeCodec$Change" 18 "ChangeCodec$Change" "objects" "[I") ∈ gw := gw_at 91 (by decide +kernel) rfl
theorem qq_93 : (Cond.fieldLink "ChangeCodec$Change" 21 "ChangeCodec$Change" "keys" "[J") ∈ gw := gw_at 93 (by decide +kernel) rfl
theorem qq_95 : (Cond.fieldLink "ChangeCodec$Change" 25 "ChangeCodec$Change" "kinds" "[I") ∈ gw := gw_at 95 (by decide +kernel) rfl
theorem qq_97 : (Cond.fieldLink "ChangeCodec$Change" 28 "ChangeCodec$Change" "values" "[I") ∈ gw := gw_at 97 (by decide +kernel) rfl
theorem qq_120 : (Cond.arrayClass FieldType.int) ∈ gw := gw_at 120 (by decide +kernel) rfl
theorem qq_121 : (Cond.arrayClass FieldType.long) ∈ gw := gw_at 121 (by decide +kernel) rfl
theorem qq_122 : (Cond.fieldLink "ChangeCodec" 14 "ChangeCodec" "written" "LChangeCodec$Bytes;") ∈ gw := gw_at 122 (by decide +kernel) rfl
theorem qq_123 : (Cond.fieldLink "ChangeCodec" 28 "ChangeCodec" "given" "LChangeCodec$Bytes;") ∈ gw := gw_at 123 (by decide +kernel) rfl
theorem qq_124 : (Cond.fieldLink "ChangeCodec" 31 "ChangeCodec" "body" "LChangeCodec$Bytes;") ∈ gw := gw_at 124 (by decide +kernel) rfl
theorem qq_125 : (Cond.fieldLink "ChangeCodec" 21 "ChangeCodec" "reader" "LChangeCodec$Reader;") ∈ gw := gw_at 125 (by decide +kernel) rfl
theorem qq_126 : (Cond.fieldLink "ChangeCodec" 37 "ChangeCodec" "change" "LChangeCodec$Change;") ∈ gw := gw_at 126 (by decide +kernel) rfl
theorem qq_127 : (Cond.fieldLink "ChangeCodec" 41 "ChangeCodec" "draft" "LChangeCodec$Change;") ∈ gw := gw_at 127 (by decide +kernel) rfl
theorem qq_128 : (Cond.fieldLink "ChangeCodec" 44 "ChangeCodec" "begun" "Z") ∈ gw := gw_at 128 (by decide +kernel) rfl
theorem qq_129 : (Cond.fieldLink "ChangeCodec" 48 "ChangeCodec" "at" "I") ∈ gw := gw_at 129 (by decide +kernel) rfl
theorem qq_573 : (Cond.classLink "ChangeCodecLaw" 41 "ChangeCodecModel") ∈ gw := gw_at 573 (by decide +kernel) rfl
theorem qq_574 : (Cond.instantiable "ChangeCodecModel" 33) ∈ gw := gw_at 574 (by decide +kernel) rfl
theorem qq_575 : (Cond.methodLink "ChangeCodecLaw" 43 ⟨"ChangeCodecModel", "<init>", "()V"⟩) ∈ gw := gw_at 575 (by decide +kernel) rfl
theorem qq_576 : (Cond.instanceMethod ⟨"ChangeCodecModel", "<init>", "()V"⟩) ∈ gw := gw_at 576 (by decide +kernel) rfl
set_option maxRecDepth 100000 in
theorem qq_577 : (Cond.code ⟨"ChangeCodecModel", "<init>", "()V"⟩ prog_7_method_1_code 1 (Option.none : Option FieldType)) ∈ gw := gw_at 577 rfl rfl
theorem qq_578 : (Cond.methodLink "ChangeCodecModel" 1 ⟨"java/lang/Object", "<init>", "()V"⟩) ∈ gw := gw_at 578 (by decide +kernel) rfl
theorem qq_579 : (Cond.fieldLink "ChangeCodecModel" 61 "ChangeCodecModel" "thrown" "I") ∈ gw := gw_at 579 (by decide +kernel) rfl
theorem qq_580 : (Cond.fieldLink "ChangeCodecModel" 95 "ChangeCodecModel" "there" "Z") ∈ gw := gw_at 580 (by decide +kernel) rfl
theorem qq_581 : (Cond.fieldLink "ChangeCodecModel" 87 "ChangeCodecModel" "actor" "I") ∈ gw := gw_at 581 (by decide +kernel) rfl
theorem qq_582 : (Cond.fieldLink "ChangeCodecModel" 99 "ChangeCodecModel" "seq" "I") ∈ gw := gw_at 582 (by decide +kernel) rfl
theorem qq_583 : (Cond.fieldLink "ChangeCodecModel" 84 "ChangeCodecModel" "counter" "I") ∈ gw := gw_at 583 (by decide +kernel) rfl
theorem qq_584 : (Cond.fieldLink "ChangeCodecModel" 7 "ChangeCodecModel" "clock" "[I") ∈ gw := gw_at 584 (by decide +kernel) rfl
theorem qq_585 : (Cond.fieldLink "ChangeCodecModel" 102 "ChangeCodecModel" "many" "I") ∈ gw := gw_at 585 (by decide +kernel) rfl
theorem qq_586 : (Cond.fieldLink "ChangeCodecModel" 13 "ChangeCodecModel" "types" "[I") ∈ gw := gw_at 586 (by decide +kernel) rfl
theorem qq_587 : (Cond.fieldLink "ChangeCodecModel" 16 "ChangeCodecModel" "objects" "[I") ∈ gw := gw_at 587 (by decide +kernel) rfl
theorem qq_588 : (Cond.fieldLink "ChangeCodecModel" 19 "ChangeCodecModel" "keys" "[J") ∈ gw := gw_at 588 (by decide +kernel) rfl
theorem qq_589 : (Cond.fieldLink "ChangeCodecModel" 23 "ChangeCodecModel" "kinds" "[I") ∈ gw := gw_at 589 (by decide +kernel) rfl
theorem qq_590 : (Cond.fieldLink "ChangeCodecModel" 26 "ChangeCodecModel" "values" "[I") ∈ gw := gw_at 590 (by decide +kernel) rfl
theorem qq_594 : (Cond.fieldLink "ChangeCodecModel" 29 "ChangeCodecModel" "newClock" "[I") ∈ gw := gw_at 594 (by decide +kernel) rfl
theorem qq_596 : (Cond.fieldLink "ChangeCodecModel" 32 "ChangeCodecModel" "newTypes" "[I") ∈ gw := gw_at 596 (by decide +kernel) rfl
theorem qq_597 : (Cond.fieldLink "ChangeCodecModel" 35 "ChangeCodecModel" "newObjects" "[I") ∈ gw := gw_at 597 (by decide +kernel) rfl
theorem qq_598 : (Cond.fieldLink "ChangeCodecModel" 38 "ChangeCodecModel" "newKeys" "[J") ∈ gw := gw_at 598 (by decide +kernel) rfl
theorem qq_599 : (Cond.fieldLink "ChangeCodecModel" 41 "ChangeCodecModel" "newKinds" "[I") ∈ gw := gw_at 599 (by decide +kernel) rfl
theorem qq_600 : (Cond.fieldLink "ChangeCodecModel" 44 "ChangeCodecModel" "newValues" "[I") ∈ gw := gw_at 600 (by decide +kernel) rfl
theorem qq_601 : (Cond.fieldLink "ChangeCodecModel" 47 "ChangeCodecModel" "output" "[B") ∈ gw := gw_at 601 (by decide +kernel) rfl
theorem qq_602 : (Cond.fieldLink "ChangeCodecModel" 149 "ChangeCodecModel" "outputs" "I") ∈ gw := gw_at 602 (by decide +kernel) rfl
theorem qq_603 : (Cond.fieldLink "ChangeCodecModel" 51 "ChangeCodecModel" "input" "[B") ∈ gw := gw_at 603 (by decide +kernel) rfl
theorem qq_604 : (Cond.fieldLink "ChangeCodecModel" 156 "ChangeCodecModel" "inputs" "I") ∈ gw := gw_at 604 (by decide +kernel) rfl
theorem qq_605 : (Cond.fieldLink "ChangeCodecModel" 159 "ChangeCodecModel" "at" "I") ∈ gw := gw_at 605 (by decide +kernel) rfl
theorem qq_607 : (Cond.fieldLink "ChangeCodecModel" 54 "ChangeCodecModel" "place" "I") ∈ gw := gw_at 607 (by decide +kernel) rfl
theorem qq_608 : (Cond.fieldLink "ChangeCodecModel" 58 "ChangeCodecModel" "body" "[B") ∈ gw := gw_at 608 (by decide +kernel) rfl
theorem qq_609 : (Cond.fieldLink "ChangeCodecModel" 113 "ChangeCodecModel" "length" "I") ∈ gw := gw_at 609 (by decide +kernel) rfl
theorem qq_687 : (Cond.methodLink "ChangeCodecModel" 90 ⟨"ChangeCodecModel", "isActor", "(I)Z"⟩) ∈ gw := gw_at 687 (by decide +kernel) rfl
theorem qq_688 : (Cond.static ⟨"ChangeCodecModel", "isActor", "(I)Z"⟩) ∈ gw := gw_at 688 (by decide +kernel) rfl
set_option maxRecDepth 100000 in
theorem qq_689 : (Cond.code ⟨"ChangeCodecModel", "isActor", "(I)Z"⟩ prog_7_method_3_code 1 (Option.some FieldType.boolean)) ∈ gw := gw_at 689 rfl rfl
theorem qq_690 : (Cond.constant "ChangeCodecModel" 94 (100000 : Int32)) ∈ gw := gw_at 690 (by decide +kernel) rfl
theorem qq_709 : (Cond.constantLong "ChangeCodecModel" 64 (8 : Int64)) ∈ gw := gw_at 709 (by decide +kernel) rfl
theorem qq_710 : (Cond.constantLong "ChangeCodecModel" 66 (800007 : Int64)) ∈ gw := gw_at 710 (by decide +kernel) rfl
theorem qq_711 : (Cond.methodLink "ChangeCodecModel" 72 ⟨"ChangeCodecModel", "letters", "(J)I"⟩) ∈ gw := gw_at 711 (by decide +kernel) rfl
theorem qq_712 : (Cond.static ⟨"ChangeCodecModel", "letters", "(J)I"⟩) ∈ gw := gw_at 712 (by decide +kernel) rfl
set_option maxRecDepth 100000 in
theorem qq_713 : (Cond.code ⟨"ChangeCodecModel", "letters", "(J)I"⟩ prog_7_method_5_code 7 (Option.some FieldType.int)) ∈ gw := gw_at 713 rfl rfl
theorem qq_714 : (Cond.constantLong "ChangeCodecModel" 68 (255 : Int64)) ∈ gw := gw_at 714 (by decide +kernel) rfl
theorem qq_718 : (Cond.constantLong "ChangeCodecModel" 70 (4294967295 : Int64)) ∈ gw := gw_at 718 (by decide +kernel) rfl
theorem qq_735 : (Cond.methodLink "ChangeCodecModel" 116 ⟨"ChangeCodecModel", "lay", "(I)V"⟩) ∈ gw := gw_at 735 (by decide +kernel) rfl
theorem qq_737 : (Cond.instanceMethod ⟨"ChangeCodecModel", "lay", "(I)V"⟩) ∈ gw := gw_at 737 (by decide +kernel) rfl
set_option maxRecDepth 100000 in
theorem qq_738 : (Cond.code ⟨"ChangeCodecModel", "lay", "(I)V"⟩ prog_7_method_13_code 2 (Option.none : Option FieldType)) ∈ gw := gw_at 738 rfl rfl
theorem qq_739 : (Cond.methodLink "ChangeCodecModel" 120 ⟨"ChangeCodecModel", "layU", "(I)V"⟩) ∈ gw := gw_at 739 (by decide +kernel) rfl
theorem qq_741 : (Cond.instanceMethod ⟨"ChangeCodecModel", "layU", "(I)V"⟩) ∈ gw := gw_at 741 (by decide +kernel) rfl
set_option maxRecDepth 100000 in
theorem qq_742 : (Cond.code ⟨"ChangeCodecModel", "layU", "(I)V"⟩ prog_7_method_14_code 3 (Option.none : Option FieldType)) ∈ gw := gw_at 742 rfl rfl
theorem qq_743 : (Cond.methodLink "ChangeCodecModel" 134 ⟨"ChangeCodecModel", "layOperation", "(I)V"⟩) ∈ gw := gw_at 743 (by decide +kernel) rfl
theorem qq_745 : (Cond.instanceMethod ⟨"ChangeCodecModel", "layOperation", "(I)V"⟩) ∈ gw := gw_at 745 (by decide +kernel) rfl
set_option maxRecDepth 100000 in
theorem qq_746 : (Cond.code ⟨"ChangeCodecModel", "layOperation", "(I)V"⟩ prog_7_method_18_code 3 (Option.none : Option FieldType)) ∈ gw := gw_at 746 rfl rfl
theorem qq_747 : (Cond.methodLink "ChangeCodecModel" 123 ⟨"ChangeCodecModel", "layRef", "(II)V"⟩) ∈ gw := gw_at 747 (by decide +kernel) rfl
theorem qq_749 : (Cond.instanceMethod ⟨"ChangeCodecModel", "layRef", "(II)V"⟩) ∈ gw := gw_at 749 (by decide +kernel) rfl
set_option maxRecDepth 100000 in
theorem qq_750 : (Cond.code ⟨"ChangeCodecModel", "layRef", "(II)V"⟩ prog_7_method_17_code 3 (Option.none : Option FieldType)) ∈ gw := gw_at 750 rfl rfl
theorem qq_751 : (Cond.methodLink "ChangeCodecModel" 127 ⟨"ChangeCodecModel", "layLetters", "(J)V"⟩) ∈ gw := gw_at 751 (by decide +kernel) rfl
theorem qq_753 : (Cond.instanceMethod ⟨"ChangeCodecModel", "layLetters", "(J)V"⟩) ∈ gw := gw_at 753 (by decide +kernel) rfl
set_option maxRecDepth 100000 in
theorem qq_754 : (Cond.code ⟨"ChangeCodecModel", "layLetters", "(J)V"⟩ prog_7_method_16_code 5 (Option.none : Option FieldType)) ∈ gw := gw_at 754 rfl rfl
theorem qq_755 : (Cond.methodLink "ChangeCodecModel" 131 ⟨"ChangeCodecModel", "layS", "(I)V"⟩) ∈ gw := gw_at 755 (by decide +kernel) rfl
theorem qq_757 : (Cond.instanceMethod ⟨"ChangeCodecModel", "layS", "(I)V"⟩) ∈ gw := gw_at 757 (by decide +kernel) rfl
set_option maxRecDepth 100000 in
theorem qq_758 : (Cond.code ⟨"ChangeCodecModel", "layS", "(I)V"⟩ prog_7_method_15_code 3 (Option.none : Option FieldType)) ∈ gw := gw_at 758 rfl rfl
theorem qq_770 : (Cond.constant "ChangeCodecModel" 137 (-306674912 : Int32)) ∈ gw := gw_at 770 (by decide +kernel) rfl
theorem qs_M_lay : Cond.selects "ChangeCodecModel" yy_M_lay yy_M_lay ∈ gw := gw_sel (y := yy_M_lay) (n := 33) 23 (by decide +kernel)
theorem qs_M_layLetters : Cond.selects "ChangeCodecModel" yy_M_layLetters yy_M_layLetters ∈ gw := gw_sel (y := yy_M_layLetters) (n := 33) 27 (by decide +kernel)
theorem qs_M_layOperation : Cond.selects "ChangeCodecModel" yy_M_layOperation yy_M_layOperation ∈ gw := gw_sel (y := yy_M_layOperation) (n := 33) 25 (by decide +kernel)
theorem qs_M_layRef : Cond.selects "ChangeCodecModel" yy_M_layRef yy_M_layRef ∈ gw := gw_sel (y := yy_M_layRef) (n := 33) 26 (by decide +kernel)
theorem qs_M_layS : Cond.selects "ChangeCodecModel" yy_M_layS yy_M_layS ∈ gw := gw_sel (y := yy_M_layS) (n := 33) 28 (by decide +kernel)
theorem qs_M_layU : Cond.selects "ChangeCodecModel" yy_M_layU yy_M_layU ∈ gw := gw_sel (y := yy_M_layU) (n := 33) 24 (by decide +kernel)
end
section
set_option maxHeartbeats 4000000 in
set_option maxRecDepth 100000 in
/-- Bytes(k): a row of k bytes, all 0, none used -/
theorem cb_B_init (l : Launch) (dC : Nat → ClassId) (dI : Nat → Nat → Nat) (cB cI cJ : ClassId) (sz : Nat) (h0 k : Nat) (hk : k ≤ 4096) : Met l yy_B_init (Cond.code yy_B_init cc_B_init 2 none :: gw) { frames := 1, cells := 1, slots := k, locals := 12 } (va_Pc [.ref h0, .int (nI k)] (ks_pre dC dI [(cB, .byte), (cI, .int), (cJ, .long)] [(h0, .inr (2, [.null, .int 0]))] sz)) (va_Qv (fun (u : Nat) => True) (fun (u : Nat) => ks_post dC dI [(cB, .byte), (cI, .int), (cJ, .long)] (va_A [(h0, .inr (2, [.null, .int 0]))] sz) [(h0, .inr (2, [.ref u, .int 0])), (u, .inl (cB, k, .inl (fun _ => 0)))]) (va_A [(h0, .inr (2, [.null, .int 0]))] sz)) 1 k (va_A [(h0, .inr (2, [.null, .int 0]))] sz) := by
  refine Met.ofW (cc := cc_B_init) (maxL := 2) (ret := none) (by decide) rfl ?_
  intro p e s m args below meth c s₁ B hml hv
  obtain ⟨rfl, hsz, hP, hK, hD0⟩ := hv
  have hx := B.exec
  have hb := B.bytes
  have hr := B.returns
  have hw : ∀ w ∈ gw, w.before _ s = true := fun w h => atoms_spec (ws := (Cond.code yy_B_init cc_B_init 2 none :: gw)) B.pre w (List.mem_cons_of_mem _ h)
  have hown : s.vm.findClass RR_B = some m.cls := findClass_of_methodNamed B.named
  have hlocks := B.notSynchronized
  have hin : meth.name = "<init>" := (name_of_methodNamed B.named B.method).1
  subst hsz
  have hD := hD0.self (sz := s.heap.size)
  generalize hAe : va_A [(h0, .inr (2, [.null, .int 0]))] s.heap.size = A at hD ⊢
  have hA : ∀ q : Nat, s.heap.size ≤ q → A q := fun q h => by rw [← hAe]; exact Or.inr h
  have hS : va_S A s.heap s.heap [] := va_S.rf
  have hP : va_P (dC, dI) vcl [(h0, .inr (2, [.null, .int 0]))] s.heap := hP
  have hl := lv_entry ([.ref h0, .int (nI k)]) (n := 2) (Nat.le_of_ble_eq_true rfl)
  rw [lg_entry_eq]
  generalize (lg_sl ([.ref h0, .int (nI k)]) ++ List.replicate (2 - (lg_sl ([.ref h0, .int (nI k)])).length) Slot.unset).toArray = ls at hl ⊢
  have hl : lv_has ls 2 [(0, .ref h0), (1, .int (nI k))] := hl
  refine lv_aload_n hx hb dd_B_init_0 rfl (lv_at hl 0 rfl) ?_
  refine W.objInit hx hb hown (hw _ qq_30) (hw _ qq_23) (hw _ qq_24) rfl (by rw [hml]; exact hl.1) rfl dd_B_init_1 (Nat.le_of_ble_eq_true rfl) (Nat.le_of_ble_eq_true rfl) ?_
  refine W.eq (g2 := F0 m 4 ls []) rfl ?_
  refine lv_aload_n hx hb dd_B_init_4 rfl (lv_at hl 0 rfl) ?_
  refine lv_iload_n hx hb dd_B_init_5 rfl (lv_at hl 1 rfl) ?_
  refine lv_if_lt (tgt := 13) hx hb dd_B_init_6 (by decide) (fun c_1 => ?_) (fun c_1 => ?_)
  · exact absurd c_1 (nI_pos (by omega))
  · refine lv_iload_n hx hb dd_B_init_9 rfl (lv_at hl 1 rfl) ?_
    refine lv_goto (tgt := 14) hx hb dd_B_init_10 (by decide) ?_
    refine va_newa (atype := .byte) (ty := .byte) (N' := k) (a0 := (k, .inl (fun _ => 0))) hx hb (hw _ qq_41) rfl hK hP hD hS hA (fun _ => rfl) (nI_pos (by omega)) (nI_clamp (by omega)) (by first | decide | (simp only [componentBytes]; omega)) (by first | exact Nat.le_of_ble_eq_true rfl | (simp only [headSpec]; omega)) (by first | exact Nat.le_of_ble_eq_true rfl | (simp only [headSpec]; omega)) dd_B_init_14 (fun q_2 cA_3 H hK hP hD hS => ?_)
    obtain rfl : cB = cA_3 := ks_eqB hK 0 3 rfl rfl
    have hK : va_K (dC, dI) vcl [(cB, .byte), (cI, .int), (cJ, .long)] s := hK.sub [0, 1, 2] rfl
    have hP : va_P (dC, dI) vcl [(h0, .inr (2, [.null, .int 0])), (q_2, .inl (cB, k, .inl (fun _ => 0)))] H := hP
    have hD : va_D A [(h0, .inr (2, [.null, .int 0])), (q_2, .inl (cB, k, .inl (fun _ => 0)))] := hD
    refine W.widen (k := 1) (n := k) (by first | exact Nat.le_refl _ | omega) (by first | exact Nat.le_refl _ | omega) ?_
    refine va_putF (D := (dC, dI)) (ci := 2) (v := .ref q_2) (ty := .array .byte) (C := RR_B) (T := TT_B) (N := 2) hx hb hw hh_B ty_B ty_B_ok nm_B hown hK hP hD hS 0 rfl rfl 0 (by decide) (hw _ qq_31) (fun _ h9 => h9) rfl hin rfl (by decide +kernel) rfl rfl (Nat.le_of_ble_eq_true rfl) dd_B_init_16 (fun H locs hP hD hS => ?_)
    have hP : va_P (dC, dI) vcl [(h0, .inr (2, [.ref q_2, .int 0])), (q_2, .inl (cB, k, .inl (fun _ => 0)))] H := hP
    have hD : va_D A [(h0, .inr (2, [.ref q_2, .int 0])), (q_2, .inl (cB, k, .inl (fun _ => 0)))] := hD
    refine lv_aload_n hx hb dd_B_init_19 rfl (lv_at hl 0 rfl) ?_
    refine lv_iconst (v := 0) hx hb dd_B_init_20 (by decide) ?_
    refine va_put (D := (dC, dI)) (ci := 2) (v := .int 0) (ty := .int) (C := RR_B) (T := TT_B) (N := 2) hx hb hw hh_B ty_B ty_B_ok nm_B hown hK hP hD hS 0 rfl rfl 1 (by decide) (hw _ qq_33) (fun _ h9 => h9) rfl (by decide +kernel) rfl rfl (Nat.le_of_ble_eq_true rfl) dd_B_init_21 (fun H locs hP hD hS => ?_)
    have hP : va_P (dC, dI) vcl [(h0, .inr (2, [.ref q_2, .int 0])), (q_2, .inl (cB, k, .inl (fun _ => 0)))] H := hP
    have hD : va_D A [(h0, .inr (2, [.ref q_2, .int 0])), (q_2, .inl (cB, k, .inl (fun _ => 0)))] := hD
    have hP9 := hP.sub (ws' := [(h0, .inr (2, [.ref q_2, .int 0])), (q_2, .inl (cB, k, .inl (fun _ => 0)))]) [0, 1] rfl
    have hD9 := hD.sub (ws' := [(h0, .inr (2, [.ref q_2, .int 0])), (q_2, .inl (cB, k, .inl (fun _ => 0)))]) [0, 1] (by decide) rfl
    refine W.widen (k := 1) (n := k) (by first | exact Nat.le_refl _ | omega) (by first | exact Nat.le_refl _ | omega) ?_
    exact W.vret hx hb hr (fun t ht hW => ⟨⟨q_2, rfl, trivial, by rw [ht]; exact hP9, va_K.moved hW.alike hK, hD9⟩, hS.F ht⟩) hS.2.2 dd_B_init_24

set_option maxHeartbeats 4000000 in
set_option maxRecDepth 100000 in
/-- Change(): six rows, all 0 -/
theorem cb_C_init (l : Launch) (dC : Nat → ClassId) (dI : Nat → Nat → Nat) (cB cI cJ : ClassId) (sz : Nat) (h0 : Nat) : Met l yy_C_init (Cond.code yy_C_init cc_C_init 1 none :: gw) { frames := 1, cells := 6, slots := 88, locals := 12 } (va_Pc [.ref h0] (ks_pre dC dI [(cB, .byte), (cI, .int), (cJ, .long)] [(h0, .inr (3, [.int 0, .int 0, .int 0, .int 0, .null, .null, .null, .null, .null, .null]))] sz)) (va_Qv (fun (u : Nat → Nat) => True) (fun (u : Nat → Nat) => ks_post dC dI [(cB, .byte), (cI, .int), (cJ, .long)] (va_A [(h0, .inr (3, [.int 0, .int 0, .int 0, .int 0, .null, .null, .null, .null, .null, .null]))] sz) [(h0, .inr (3, [.int 0, .int 0, .int 0, .int 0, .ref (u 0), .ref (u 1), .ref (u 2), .ref (u 3), .ref (u 4), .ref (u 5)])), ((u 0), .inl (cI, 8, .inl (fun _ => 0))), ((u 1), .inl (cI, 16, .inl (fun _ => 0))), ((u 2), .inl (cI, 16, .inl (fun _ => 0))), ((u 3), .inl (cJ, 16, .inr (.inl (fun _ => 0)))), ((u 4), .inl (cI, 16, .inl (fun _ => 0))), ((u 5), .inl (cI, 16, .inl (fun _ => 0)))]) (va_A [(h0, .inr (3, [.int 0, .int 0, .int 0, .int 0, .null, .null, .null, .null, .null, .null]))] sz)) 6 88 (va_A [(h0, .inr (3, [.int 0, .int 0, .int 0, .int 0, .null, .null, .null, .null, .null, .null]))] sz) := by
  refine Met.ofW (cc := cc_C_init) (maxL := 1) (ret := none) (by decide) rfl ?_
  intro p e s m args below meth c s₁ B hml hv
  obtain ⟨rfl, hsz, hP, hK, hD0⟩ := hv
  have hx := B.exec
  have hb := B.bytes
  have hr := B.returns
  have hw : ∀ w ∈ gw, w.before _ s = true := fun w h => atoms_spec (ws := (Cond.code yy_C_init cc_C_init 1 none :: gw)) B.pre w (List.mem_cons_of_mem _ h)
  have hown : s.vm.findClass RR_C = some m.cls := findClass_of_methodNamed B.named
  have hlocks := B.notSynchronized
  have hin : meth.name = "<init>" := (name_of_methodNamed B.named B.method).1
  subst hsz
  have hD := hD0.self (sz := s.heap.size)
  generalize hAe : va_A [(h0, .inr (3, [.int 0, .int 0, .int 0, .int 0, .null, .null, .null, .null, .null, .null]))] s.heap.size = A at hD ⊢
  have hA : ∀ q : Nat, s.heap.size ≤ q → A q := fun q h => by rw [← hAe]; exact Or.inr h
  have hS : va_S A s.heap s.heap [] := va_S.rf
  have hP : va_P (dC, dI) vcl [(h0, .inr (3, [.int 0, .int 0, .int 0, .int 0, .null, .null, .null, .null, .null, .null]))] s.heap := hP
  have hl := lv_entry ([.ref h0]) (n := 1) (Nat.le_of_ble_eq_true rfl)
  rw [lg_entry_eq]
  generalize (lg_sl ([.ref h0]) ++ List.replicate (1 - (lg_sl ([.ref h0])).length) Slot.unset).toArray = ls at hl ⊢
  have hl : lv_has ls 1 [(0, .ref h0)] := hl
  refine lv_aload_n hx hb dd_C_init_0 rfl (lv_at hl 0 rfl) ?_
  refine W.objInit hx hb hown (hw _ qq_75) (hw _ qq_23) (hw _ qq_24) rfl (by rw [hml]; exact hl.1) rfl dd_C_init_1 (Nat.le_of_ble_eq_true rfl) (Nat.le_of_ble_eq_true rfl) ?_
  refine W.eq (g2 := F0 m 4 ls []) rfl ?_
  refine lv_aload_n hx hb dd_C_init_4 rfl (lv_at hl 0 rfl) ?_
  refine lv_bipush (v := 8) hx hb dd_C_init_5 (by decide) ?_
  refine va_newa (atype := .int) (ty := .int) (N' := 8) (a0 := (8, .inl (fun _ => 0))) hx hb (hw _ qq_120) rfl hK hP hD hS hA (fun _ => rfl) (by decide) (by decide) (by first | decide | (simp only [componentBytes]; omega)) (by first | exact Nat.le_of_ble_eq_true rfl | (simp only [headSpec]; omega)) (by first | exact Nat.le_of_ble_eq_true rfl | (simp only [headSpec]; omega)) dd_C_init_7 (fun q_1 cA_2 H hK hP hD hS => ?_)
  obtain rfl : cI = cA_2 := ks_eqI hK 1 3 rfl rfl
  have hK : va_K (dC, dI) vcl [(cB, .byte), (cI, .int), (cJ, .long)] s := hK.sub [0, 1, 2] rfl
  have hP : va_P (dC, dI) vcl [(h0, .inr (3, [.int 0, .int 0, .int 0, .int 0, .null, .null, .null, .null, .null, .null])), (q_1, .inl (cI, 8, .inl (fun _ => 0)))] H := hP
  have hD : va_D A [(h0, .inr (3, [.int 0, .int 0, .int 0, .int 0, .null, .null, .null, .null, .null, .null])), (q_1, .inl (cI, 8, .inl (fun _ => 0)))] := hD
  refine W.widen (k := 1) (n := 8) (by first | exact Nat.le_refl _ | omega) (by first | exact Nat.le_refl _ | omega) ?_
  refine va_putF (D := (dC, dI)) (ci := 3) (v := .ref q_1) (ty := .array .int) (C := RR_C) (T := TT_C) (N := 10) hx hb hw hh_C ty_C ty_C_ok nm_C hown hK hP hD hS 0 rfl rfl 4 (by decide) (hw _ qq_86) (fun _ h9 => h9) rfl hin rfl (by decide +kernel) rfl rfl (Nat.le_of_ble_eq_true rfl) dd_C_init_9 (fun H locs hP hD hS => ?_)
  have hP : va_P (dC, dI) vcl [(h0, .inr (3, [.int 0, .int 0, .int 0, .int 0, .ref q_1, .null, .null, .null, .null, .null])), (q_1, .inl (cI, 8, .inl (fun _ => 0)))] H := hP
  have hD : va_D A [(h0, .inr (3, [.int 0, .int 0, .int 0, .int 0, .ref q_1, .null, .null, .null, .null, .null])), (q_1, .inl (cI, 8, .inl (fun _ => 0)))] := hD
  refine lv_aload_n hx hb dd_C_init_12 rfl (lv_at hl 0 rfl) ?_
  refine lv_bipush (v := 16) hx hb dd_C_init_13 (by decide) ?_
  refine va_newa (atype := .int) (ty := .int) (N' := 16) (a0 := (16, .inl (fun _ => 0))) hx hb (hw _ qq_120) rfl hK hP hD hS hA (fun _ => rfl) (by decide) (by decide) (by first | decide | (simp only [componentBytes]; omega)) (by first | exact Nat.le_of_ble_eq_true rfl | (simp only [headSpec]; omega)) (by first | exact Nat.le_of_ble_eq_true rfl | (simp only [headSpec]; omega)) dd_C_init_15 (fun q_3 cA_4 H hK hP hD hS => ?_)
  obtain rfl : cI = cA_4 := ks_eqI hK 1 3 rfl rfl
  have hK : va_K (dC, dI) vcl [(cB, .byte), (cI, .int), (cJ, .long)] s := hK.sub [0, 1, 2] rfl
  have hP : va_P (dC, dI) vcl [(h0, .inr (3, [.int 0, .int 0, .int 0, .int 0, .ref q_1, .null, .null, .null, .null, .null])), (q_1, .inl (cI, 8, .inl (fun _ => 0))), (q_3, .inl (cI, 16, .inl (fun _ => 0)))] H := hP
  have hD : va_D A [(h0, .inr (3, [.int 0, .int 0, .int 0, .int 0, .ref q_1, .null, .null, .null, .null, .null])), (q_1, .inl (cI, 8, .inl (fun _ => 0))), (q_3, .inl (cI, 16, .inl (fun _ => 0)))] := hD
  refine W.widen (k := 2) (n := 24) (by first | exact Nat.le_refl _ | omega) (by first | exact Nat.le_refl _ | omega) ?_
  refine va_putF (D := (dC, dI)) (ci := 3) (v := .ref q_3) (ty := .array .int) (C := RR_C) (T := TT_C) (N := 10) hx hb hw hh_C ty_C ty_C_ok nm_C hown hK hP hD hS 0 rfl rfl 5 (by decide) (hw _ qq_89) (fun _ h9 => h9) rfl hin rfl (by decide +kernel) rfl rfl (Nat.le_of_ble_eq_true rfl) dd_C_init_17 (fun H locs hP hD hS => ?_)
  have hP : va_P (dC, dI) vcl [(h0, .inr (3, [.int 0, .int 0, .int 0, .int 0, .ref q_1, .ref q_3, .null, .null, .null, .null])), (q_1, .inl (cI, 8, .inl (fun _ => 0))), (q_3, .inl (cI, 16, .inl (fun _ => 0)))] H := hP
  have hD : va_D A [(h0, .inr (3, [.int 0, .int 0, .int 0, .int 0, .ref q_1, .ref q_3, .null, .null, .null, .null])), (q_1, .inl (cI, 8, .inl (fun _ => 0))), (q_3, .inl (cI, 16, .inl (fun _ => 0)))] := hD
  refine lv_aload_n hx hb dd_C_init_20 rfl (lv_at hl 0 rfl) ?_
  refine lv_bipush (v := 16) hx hb dd_C_init_21 (by decide) ?_
  refine va_newa (atype := .int) (ty := .int) (N' := 16) (a0 := (16, .inl (fun _ => 0))) hx hb (hw _ qq_120) rfl hK hP hD hS hA (fun _ => rfl) (by decide) (by decide) (by first | decide | (simp only [componentBytes]; omega)) (by first | exact Nat.le_of_ble_eq_true rfl | (simp only [headSpec]; omega)) (by first | exact Nat.le_of_ble_eq_true rfl | (simp only [headSpec]; omega)) dd_C_init_23 (fun q_5 cA_6 H hK hP hD hS => ?_)
  obtain rfl : cI = cA_6 := ks_eqI hK 1 3 rfl rfl
  have hK : va_K (dC, dI) vcl [(cB, .byte), (cI, .int), (cJ, .long)] s := hK.sub [0, 1, 2] rfl
  have hP : va_P (dC, dI) vcl [(h0, .inr (3, [.int 0, .int 0, .int 0, .int 0, .ref q_1, .ref q_3, .null, .null, .null, .null])), (q_1, .inl (cI, 8, .inl (fun _ => 0))), (q_3, .inl (cI, 16, .inl (fun _ => 0))), (q_5, .inl (cI, 16, .inl (fun _ => 0)))] H := hP
  have hD : va_D A [(h0, .inr (3, [.int 0, .int 0, .int 0, .int 0, .ref q_1, .ref q_3, .null, .null, .null, .null])), (q_1, .inl (cI, 8, .inl (fun _ => 0))), (q_3, .inl (cI, 16, .inl (fun _ => 0))), (q_5, .inl (cI, 16, .inl (fun _ => 0)))] := hD
  refine W.widen (k := 3) (n := 40) (by first | exact Nat.le_refl _ | omega) (by first | exact Nat.le_refl _ | omega) ?_
  refine va_putF (D := (dC, dI)) (ci := 3) (v := .ref q_5) (ty := .array .int) (C := RR_C) (T := TT_C) (N := 10) hx hb hw hh_C ty_C ty_C_ok nm_C hown hK hP hD hS 0 rfl rfl 6 (by decide) (hw _ qq_91) (fun _ h9 => h9) rfl hin rfl (by decide +kernel) rfl rfl (Nat.le_of_ble_eq_true rfl) dd_C_init_25 (fun H locs hP hD hS => ?_)
  have hP : va_P (dC, dI) vcl [(h0, .inr (3, [.int 0, .int 0, .int 0, .int 0, .ref q_1, .ref q_3, .ref q_5, .null, .null, .null])), (q_1, .inl (cI, 8, .inl (fun _ => 0))), (q_3, .inl (cI, 16, .inl (fun _ => 0))), (q_5, .inl (cI, 16, .inl (fun _ => 0)))] H := hP
  have hD : va_D A [(h0, .inr (3, [.int 0, .int 0, .int 0, .int 0, .ref q_1, .ref q_3, .ref q_5, .null, .null, .null])), (q_1, .inl (cI, 8, .inl (fun _ => 0))), (q_3, .inl (cI, 16, .inl (fun _ => 0))), (q_5, .inl (cI, 16, .inl (fun _ => 0)))] := hD
  refine lv_aload_n hx hb dd_C_init_28 rfl (lv_at hl 0 rfl) ?_
  refine lv_bipush (v := 16) hx hb dd_C_init_29 (by decide) ?_
  refine va_newa (atype := .long) (ty := .long) (N' := 16) (a0 := (16, .inr (.inl (fun _ => 0)))) hx hb (hw _ qq_121) rfl hK hP hD hS hA (fun _ => rfl) (by decide) (by decide) (by first | decide | (simp only [componentBytes]; omega)) (by first | exact Nat.le_of_ble_eq_true rfl | (simp only [headSpec]; omega)) (by first | exact Nat.le_of_ble_eq_true rfl | (simp only [headSpec]; omega)) dd_C_init_31 (fun q_7 cA_8 H hK hP hD hS => ?_)
  obtain rfl : cJ = cA_8 := ks_eqJ hK 2 3 rfl rfl
  have hK : va_K (dC, dI) vcl [(cB, .byte), (cI, .int), (cJ, .long)] s := hK.sub [0, 1, 2] rfl
  have hP : va_P (dC, dI) vcl [(h0, .inr (3, [.int 0, .int 0, .int 0, .int 0, .ref q_1, .ref q_3, .ref q_5, .null, .null, .null])), (q_1, .inl (cI, 8, .inl (fun _ => 0))), (q_3, .inl (cI, 16, .inl (fun _ => 0))), (q_5, .inl (cI, 16, .inl (fun _ => 0))), (q_7, .inl (cJ, 16, .inr (.inl (fun _ => 0))))] H := hP
  have hD : va_D A [(h0, .inr (3, [.int 0, .int 0, .int 0, .int 0, .ref q_1, .ref q_3, .ref q_5, .null, .null, .null])), (q_1, .inl (cI, 8, .inl (fun _ => 0))), (q_3, .inl (cI, 16, .inl (fun _ => 0))), (q_5, .inl (cI, 16, .inl (fun _ => 0))), (q_7, .inl (cJ, 16, .inr (.inl (fun _ => 0))))] := hD
  refine W.widen (k := 4) (n := 56) (by first | exact Nat.le_refl _ | omega) (by first | exact Nat.le_refl _ | omega) ?_
  refine va_putF (D := (dC, dI)) (ci := 3) (v := .ref q_7) (ty := .array .long) (C := RR_C) (T := TT_C) (N := 10) hx hb hw hh_C ty_C ty_C_ok nm_C hown hK hP hD hS 0 rfl rfl 7 (by decide) (hw _ qq_93) (fun _ h9 => h9) rfl hin rfl (by decide +kernel) rfl rfl (Nat.le_of_ble_eq_true rfl) dd_C_init_33 (fun H locs hP hD hS => ?_)
  have hP : va_P (dC, dI) vcl [(h0, .inr (3, [.int 0, .int 0, .int 0, .int 0, .ref q_1, .ref q_3, .ref q_5, .ref q_7, .null, .null])), (q_1, .inl (cI, 8, .inl (fun _ => 0))), (q_3, .inl (cI, 16, .inl (fun _ => 0))), (q_5, .inl (cI, 16, .inl (fun _ => 0))), (q_7, .inl (cJ, 16, .inr (.inl (fun _ => 0))))] H := hP
  have hD : va_D A [(h0, .inr (3, [.int 0, .int 0, .int 0, .int 0, .ref q_1, .ref q_3, .ref q_5, .ref q_7, .null, .null])), (q_1, .inl (cI, 8, .inl (fun _ => 0))), (q_3, .inl (cI, 16, .inl (fun _ => 0))), (q_5, .inl (cI, 16, .inl (fun _ => 0))), (q_7, .inl (cJ, 16, .inr (.inl (fun _ => 0))))] := hD
  refine lv_aload_n hx hb dd_C_init_36 rfl (lv_at hl 0 rfl) ?_
  refine lv_bipush (v := 16) hx hb dd_C_init_37 (by decide) ?_
  refine va_newa (atype := .int) (ty := .int) (N' := 16) (a0 := (16, .inl (fun _ => 0))) hx hb (hw _ qq_120) rfl hK hP hD hS hA (fun _ => rfl) (by decide) (by decide) (by first | decide | (simp only [componentBytes]; omega)) (by first | exact Nat.le_of_ble_eq_true rfl | (simp only [headSpec]; omega)) (by first | exact Nat.le_of_ble_eq_true rfl | (simp only [headSpec]; omega)) dd_C_init_39 (fun q_9 cA_10 H hK hP hD hS => ?_)
  obtain rfl : cI = cA_10 := ks_eqI hK 1 3 rfl rfl
  have hK : va_K (dC, dI) vcl [(cB, .byte), (cI, .int), (cJ, .long)] s := hK.sub [0, 1, 2] rfl
  have hP : va_P (dC, dI) vcl [(h0, .inr (3, [.int 0, .int 0, .int 0, .int 0, .ref q_1, .ref q_3, .ref q_5, .ref q_7, .null, .null])), (q_1, .inl (cI, 8, .inl (fun _ => 0))), (q_3, .inl (cI, 16, .inl (fun _ => 0))), (q_5, .inl (cI, 16, .inl (fun _ => 0))), (q_7, .inl (cJ, 16, .inr (.inl (fun _ => 0)))), (q_9, .inl (cI, 16, .inl (fun _ => 0)))] H := hP
  have hD : va_D A [(h0, .inr (3, [.int 0, .int 0, .int 0, .int 0, .ref q_1, .ref q_3, .ref q_5, .ref q_7, .null, .null])), (q_1, .inl (cI, 8, .inl (fun _ => 0))), (q_3, .inl (cI, 16, .inl (fun _ => 0))), (q_5, .inl (cI, 16, .inl (fun _ => 0))), (q_7, .inl (cJ, 16, .inr (.inl (fun _ => 0)))), (q_9, .inl (cI, 16, .inl (fun _ => 0)))] := hD
  refine W.widen (k := 5) (n := 72) (by first | exact Nat.le_refl _ | omega) (by first | exact Nat.le_refl _ | omega) ?_
  refine va_putF (D := (dC, dI)) (ci := 3) (v := .ref q_9) (ty := .array .int) (C := RR_C) (T := TT_C) (N := 10) hx hb hw hh_C ty_C ty_C_ok nm_C hown hK hP hD hS 0 rfl rfl 8 (by decide) (hw _ qq_95) (fun _ h9 => h9) rfl hin rfl (by decide +kernel) rfl rfl (Nat.le_of_ble_eq_true rfl) dd_C_init_41 (fun H locs hP hD hS => ?_)
  have hP : va_P (dC, dI) vcl [(h0, .inr (3, [.int 0, .int 0, .int 0, .int 0, .ref q_1, .ref q_3, .ref q_5, .ref q_7, .ref q_9, .null])), (q_1, .inl (cI, 8, .inl (fun _ => 0))), (q_3, .inl (cI, 16, .inl (fun _ => 0))), (q_5, .inl (cI, 16, .inl (fun _ => 0))), (q_7, .inl (cJ, 16, .inr (.inl (fun _ => 0)))), (q_9, .inl (cI, 16, .inl (fun _ => 0)))] H := hP
  have hD : va_D A [(h0, .inr (3, [.int 0, .int 0, .int 0, .int 0, .ref q_1, .ref q_3, .ref q_5, .ref q_7, .ref q_9, .null])), (q_1, .inl (cI, 8, .inl (fun _ => 0))), (q_3, .inl (cI, 16, .inl (fun _ => 0))), (q_5, .inl (cI, 16, .inl (fun _ => 0))), (q_7, .inl (cJ, 16, .inr (.inl (fun _ => 0)))), (q_9, .inl (cI, 16, .inl (fun _ => 0)))] := hD
  refine lv_aload_n hx hb dd_C_init_44 rfl (lv_at hl 0 rfl) ?_
  refine lv_bipush (v := 16) hx hb dd_C_init_45 (by decide) ?_
  refine va_newa (atype := .int) (ty := .int) (N' := 16) (a0 := (16, .inl (fun _ => 0))) hx hb (hw _ qq_120) rfl hK hP hD hS hA (fun _ => rfl) (by decide) (by decide) (by first | decide | (simp only [componentBytes]; omega)) (by first | exact Nat.le_of_ble_eq_true rfl | (simp only [headSpec]; omega)) (by first | exact Nat.le_of_ble_eq_true rfl | (simp only [headSpec]; omega)) dd_C_init_47 (fun q_11 cA_12 H hK hP hD hS => ?_)
  obtain rfl : cI = cA_12 := ks_eqI hK 1 3 rfl rfl
  have hK : va_K (dC, dI) vcl [(cB, .byte), (cI, .int), (cJ, .long)] s := hK.sub [0, 1, 2] rfl
  have hP : va_P (dC, dI) vcl [(h0, .inr (3, [.int 0, .int 0, .int 0, .int 0, .ref q_1, .ref q_3, .ref q_5, .ref q_7, .ref q_9, .null])), (q_1, .inl (cI, 8, .inl (fun _ => 0))), (q_3, .inl (cI, 16, .inl (fun _ => 0))), (q_5, .inl (cI, 16, .inl (fun _ => 0))), (q_7, .inl (cJ, 16, .inr (.inl (fun _ => 0)))), (q_9, .inl (cI, 16, .inl (fun _ => 0))), (q_11, .inl (cI, 16, .inl (fun _ => 0)))] H := hP
  have hD : va_D A [(h0, .inr (3, [.int 0, .int 0, .int 0, .int 0, .ref q_1, .ref q_3, .ref q_5, .ref q_7, .ref q_9, .null])), (q_1, .inl (cI, 8, .inl (fun _ => 0))), (q_3, .inl (cI, 16, .inl (fun _ => 0))), (q_5, .inl (cI, 16, .inl (fun _ => 0))), (q_7, .inl (cJ, 16, .inr (.inl (fun _ => 0)))), (q_9, .inl (cI, 16, .inl (fun _ => 0))), (q_11, .inl (cI, 16, .inl (fun _ => 0)))] := hD
  refine W.widen (k := 6) (n := 88) (by first | exact Nat.le_refl _ | omega) (by first | exact Nat.le_refl _ | omega) ?_
  refine va_putF (D := (dC, dI)) (ci := 3) (v := .ref q_11) (ty := .array .int) (C := RR_C) (T := TT_C) (N := 10) hx hb hw hh_C ty_C ty_C_ok nm_C hown hK hP hD hS 0 rfl rfl 9 (by decide) (hw _ qq_97) (fun _ h9 => h9) rfl hin rfl (by decide +kernel) rfl rfl (Nat.le_of_ble_eq_true rfl) dd_C_init_49 (fun H locs hP hD hS => ?_)
  have hP : va_P (dC, dI) vcl [(h0, .inr (3, [.int 0, .int 0, .int 0, .int 0, .ref q_1, .ref q_3, .ref q_5, .ref q_7, .ref q_9, .ref q_11])), (q_1, .inl (cI, 8, .inl (fun _ => 0))), (q_3, .inl (cI, 16, .inl (fun _ => 0))), (q_5, .inl (cI, 16, .inl (fun _ => 0))), (q_7, .inl (cJ, 16, .inr (.inl (fun _ => 0)))), (q_9, .inl (cI, 16, .inl (fun _ => 0))), (q_11, .inl (cI, 16, .inl (fun _ => 0)))] H := hP
  have hD : va_D A [(h0, .inr (3, [.int 0, .int 0, .int 0, .int 0, .ref q_1, .ref q_3, .ref q_5, .ref q_7, .ref q_9, .ref q_11])), (q_1, .inl (cI, 8, .inl (fun _ => 0))), (q_3, .inl (cI, 16, .inl (fun _ => 0))), (q_5, .inl (cI, 16, .inl (fun _ => 0))), (q_7, .inl (cJ, 16, .inr (.inl (fun _ => 0)))), (q_9, .inl (cI, 16, .inl (fun _ => 0))), (q_11, .inl (cI, 16, .inl (fun _ => 0)))] := hD
  have hP9 := hP.sub (ws' := [(h0, .inr (3, [.int 0, .int 0, .int 0, .int 0, .ref q_1, .ref q_3, .ref q_5, .ref q_7, .ref q_9, .ref q_11])), (q_1, .inl (cI, 8, .inl (fun _ => 0))), (q_3, .inl (cI, 16, .inl (fun _ => 0))), (q_5, .inl (cI, 16, .inl (fun _ => 0))), (q_7, .inl (cJ, 16, .inr (.inl (fun _ => 0)))), (q_9, .inl (cI, 16, .inl (fun _ => 0))), (q_11, .inl (cI, 16, .inl (fun _ => 0)))]) [0, 1, 2, 3, 4, 5, 6] rfl
  have hD9 := hD.sub (ws' := [(h0, .inr (3, [.int 0, .int 0, .int 0, .int 0, .ref q_1, .ref q_3, .ref q_5, .ref q_7, .ref q_9, .ref q_11])), (q_1, .inl (cI, 8, .inl (fun _ => 0))), (q_3, .inl (cI, 16, .inl (fun _ => 0))), (q_5, .inl (cI, 16, .inl (fun _ => 0))), (q_7, .inl (cJ, 16, .inr (.inl (fun _ => 0)))), (q_9, .inl (cI, 16, .inl (fun _ => 0))), (q_11, .inl (cI, 16, .inl (fun _ => 0)))]) [0, 1, 2, 3, 4, 5, 6] (by decide) rfl
  refine W.widen (k := 6) (n := 88) (by first | exact Nat.le_refl _ | omega) (by first | exact Nat.le_refl _ | omega) ?_
  exact W.vret hx hb hr (fun t ht hW => ⟨⟨(fun j => match j with | 0 => q_1 | 1 => q_3 | 2 => q_5 | 3 => q_7 | 4 => q_9 | _ => q_11), rfl, trivial, by rw [ht]; exact hP9, va_K.moved hW.alike hK, hD9⟩, hS.F ht⟩) hS.2.2 dd_C_init_52

set_option maxHeartbeats 4000000 in
set_option maxRecDepth 100000 in
/-- Reader(): a row of 4096 bytes, nothing read -/
theorem cb_D_init (l : Launch) (dC : Nat → ClassId) (dI : Nat → Nat → Nat) (cB cI cJ : ClassId) (sz : Nat) (h0 : Nat) : Met l yy_D_init (Cond.code yy_D_init cc_D_init 1 none :: gw) { frames := 2, cells := 2, slots := 4098, locals := 33 } (va_Pc [.ref h0] (ks_pre dC dI [(cB, .byte), (cI, .int), (cJ, .long)] [(h0, .inr (4, [.null, .int 0, .int 0, .int 0, .int 0]))] sz)) (va_Qv (fun (u : Nat → Nat) => True) (fun (u : Nat → Nat) => ks_post dC dI [(cB, .byte), (cI, .int), (cJ, .long)] (va_A [(h0, .inr (4, [.null, .int 0, .int 0, .int 0, .int 0]))] sz) [(h0, .inr (4, [.ref (u 0), .int 0, .int (-1), .int 0, .int (-1)])), ((u 0), .inr (2, [.ref (u 1), .int 0])), ((u 1), .inl (cB, 4096, .inl (fun _ => 0)))]) (va_A [(h0, .inr (4, [.null, .int 0, .int 0, .int 0, .int 0]))] sz)) 2 4098 (va_A [(h0, .inr (4, [.null, .int 0, .int 0, .int 0, .int 0]))] sz) := by
  refine Met.ofW (cc := cc_D_init) (maxL := 1) (ret := none) (by decide) rfl ?_
  intro p e s m args below meth c s₁ B hml hv
  obtain ⟨rfl, hsz, hP, hK, hD0⟩ := hv
  have hx := B.exec
  have hb := B.bytes
  have hr := B.returns
  have hw : ∀ w ∈ gw, w.before _ s = true := fun w h => atoms_spec (ws := (Cond.code yy_D_init cc_D_init 1 none :: gw)) B.pre w (List.mem_cons_of_mem _ h)
  have hown : s.vm.findClass RR_D = some m.cls := findClass_of_methodNamed B.named
  have hlocks := B.notSynchronized
  have hin : meth.name = "<init>" := (name_of_methodNamed B.named B.method).1
  subst hsz
  have hD := hD0.self (sz := s.heap.size)
  generalize hAe : va_A [(h0, .inr (4, [.null, .int 0, .int 0, .int 0, .int 0]))] s.heap.size = A at hD ⊢
  have hA : ∀ q : Nat, s.heap.size ≤ q → A q := fun q h => by rw [← hAe]; exact Or.inr h
  have hS : va_S A s.heap s.heap [] := va_S.rf
  have hP : va_P (dC, dI) vcl [(h0, .inr (4, [.null, .int 0, .int 0, .int 0, .int 0]))] s.heap := hP
  have hl := lv_entry ([.ref h0]) (n := 1) (Nat.le_of_ble_eq_true rfl)
  rw [lg_entry_eq]
  generalize (lg_sl ([.ref h0]) ++ List.replicate (1 - (lg_sl ([.ref h0])).length) Slot.unset).toArray = ls at hl ⊢
  have hl : lv_has ls 1 [(0, .ref h0)] := hl
  refine lv_aload_n hx hb dd_D_init_0 rfl (lv_at hl 0 rfl) ?_
  refine W.objInit hx hb hown (hw _ qq_47) (hw _ qq_23) (hw _ qq_24) rfl (by rw [hml]; exact hl.1) rfl dd_D_init_1 (Nat.le_of_ble_eq_true rfl) (Nat.le_of_ble_eq_true rfl) ?_
  refine W.eq (g2 := F0 m 4 ls []) rfl ?_
  refine lv_aload_n hx hb dd_D_init_4 rfl (lv_at hl 0 rfl) ?_
  refine va_new (ci := 2) (fs := [.null, .int 0]) (C := RR_B) (T := TT_B) (N := 2) hx hb hw hh_B ty_B ty_B_ok hown (hw _ qq_48) (hw _ qq_26) (hw _ qq_2) hK hP hD hS hA rfl (by decide +kernel) (by first | exact Nat.le_of_ble_eq_true rfl | (simp only [headSpec]; omega)) (by first | exact Nat.le_of_ble_eq_true rfl | (simp only [headSpec]; omega)) dd_D_init_5 (fun q_1 H hP hD hS => ?_)
  have hP : va_P (dC, dI) vcl [(h0, .inr (4, [.null, .int 0, .int 0, .int 0, .int 0])), (q_1, .inr (2, [.null, .int 0]))] H := hP
  have hD : va_D A [(h0, .inr (4, [.null, .int 0, .int 0, .int 0, .int 0])), (q_1, .inr (2, [.null, .int 0]))] := hD
  refine W.widen (k := 1) (n := 2) (by first | exact Nat.le_refl _ | omega) (by first | exact Nat.le_refl _ | omega) ?_
  refine lv_dup hx hb dd_D_init_8 rfl ?_
  refine lv_sipush (v := 4096) hx hb dd_D_init_9 (by decide) ?_
  have hPc := hP.sub (ws' := [(q_1, .inr (2, [.null, .int 0]))]) [1] rfl
  have hDc := hD.sub (ws' := [(q_1, .inr (2, [.null, .int 0]))]) [1] (by decide) rfl
  have hFc := va_free (wc := [(q_1, .inr (2, [.null, .int 0]))]) hD hS hA [1] rfl
  refine va_callv (va_runI (As := [.int 4096]) (rest := [.ref q_1, .ref h0]) ⟨hx, hb, hml, hown, hw⟩ (cb_B_init l dC dI cB cI cJ H.size q_1 4096 (by decide)) (kw_I 1 hw qq_49 qq_2 qq_29 qq_28 rfl rfl rfl (by decide +kernel) ⟨Nat.le_of_ble_eq_true rfl, Nat.le_of_ble_eq_true rfl⟩) ⟨fun a U g mk q => by obtain ⟨q0, q1, qP, qK, qD⟩ := q; exact ⟨q0, q1, qP, va_K.moved (u := U) (U := U.calling g mk a) (Vm.Alike.refl U.vm) qK, qD⟩, fun U hU hW => ⟨rfl, by rw [hU], by rw [hU]; exact hPc, va_K.moved hW.alike hK, hDc.weaken (fun _ _ _ _ => trivial)⟩⟩ rfl rfl hl.1 rfl (lv_room (Nat.le_of_ble_eq_true rfl)) dd_D_init_12 ⟨by first | exact Nat.le_of_ble_eq_true rfl | (simp only [headSpec]; omega), by first | exact Nat.le_of_ble_eq_true rfl | (simp only [headSpec]; omega)⟩) hS (fun q _ h => hFc q h) hFc (fun u_2 t H1 locs ht hvm hq_3 hB hz1 hk1 hS => ?_)
  obtain ⟨hP1, hK1, hD1⟩ := hB
  rw [ht] at hP1
  obtain ⟨hP, hD⟩ := va_join (wr := [(h0, .inr (4, [.null, .int 0, .int 0, .int 0, .int 0]))]) (w1 := [(q_1, .inr (2, [.ref u_2, .int 0])), (u_2, .inl (cB, 4096, .inl (fun _ => 0)))]) hP hD [1] [0] rfl rfl (by decide) (by decide) hk1 hFc hP1 hD1
  clear hP1 hK1 hD1 ht hvm hz1 hk1 hPc hDc hFc
  generalize H1 = H at hP hS ⊢
  have hP : va_P (dC, dI) vcl [(h0, .inr (4, [.null, .int 0, .int 0, .int 0, .int 0])), (q_1, .inr (2, [.ref u_2, .int 0])), (u_2, .inl (cB, 4096, .inl (fun _ => 0)))] H := hP
  have hD : va_D A [(h0, .inr (4, [.null, .int 0, .int 0, .int 0, .int 0])), (q_1, .inr (2, [.ref u_2, .int 0])), (u_2, .inl (cB, 4096, .inl (fun _ => 0)))] := hD
  refine W.widen (k := 2) (n := 4098) (by first | exact Nat.le_refl _ | omega) (by first | exact Nat.le_refl _ | omega) ?_
  refine va_putF (D := (dC, dI)) (ci := 4) (v := .ref q_1) (ty := .object "ChangeCodec$Bytes") (C := RR_D) (T := TT_D) (N := 5) hx hb hw hh_D ty_D ty_D_ok nm_D hown hK hP hD hS 0 rfl rfl 0 (by decide) (hw _ qq_50) (fun _ h9 => h9) rfl hin rfl (by decide +kernel) rfl rfl (Nat.le_of_ble_eq_true rfl) dd_D_init_15 (fun H locs hP hD hS => ?_)
  have hP : va_P (dC, dI) vcl [(h0, .inr (4, [.ref q_1, .int 0, .int 0, .int 0, .int 0])), (q_1, .inr (2, [.ref u_2, .int 0])), (u_2, .inl (cB, 4096, .inl (fun _ => 0)))] H := hP
  have hD : va_D A [(h0, .inr (4, [.ref q_1, .int 0, .int 0, .int 0, .int 0])), (q_1, .inr (2, [.ref u_2, .int 0])), (u_2, .inl (cB, 4096, .inl (fun _ => 0)))] := hD
  refine lv_aload_n hx hb dd_D_init_18 rfl (lv_at hl 0 rfl) ?_
  refine lv_iconst (v := 0) hx hb dd_D_init_19 (by decide) ?_
  refine va_put (D := (dC, dI)) (ci := 4) (v := .int 0) (ty := .int) (C := RR_D) (T := TT_D) (N := 5) hx hb hw hh_D ty_D ty_D_ok nm_D hown hK hP hD hS 0 rfl rfl 1 (by decide) (hw _ qq_52) (fun _ h9 => h9) rfl (by decide +kernel) rfl rfl (Nat.le_of_ble_eq_true rfl) dd_D_init_20 (fun H locs hP hD hS => ?_)
  have hP : va_P (dC, dI) vcl [(h0, .inr (4, [.ref q_1, .int 0, .int 0, .int 0, .int 0])), (q_1, .inr (2, [.ref u_2, .int 0])), (u_2, .inl (cB, 4096, .inl (fun _ => 0)))] H := hP
  have hD : va_D A [(h0, .inr (4, [.ref q_1, .int 0, .int 0, .int 0, .int 0])), (q_1, .inr (2, [.ref u_2, .int 0])), (u_2, .inl (cB, 4096, .inl (fun _ => 0)))] := hD
  refine lv_aload_n hx hb dd_D_init_23 rfl (lv_at hl 0 rfl) ?_
  refine lv_iconst (v := -1) hx hb dd_D_init_24 (by decide) ?_
  refine va_put (D := (dC, dI)) (ci := 4) (v := .int (-1)) (ty := .int) (C := RR_D) (T := TT_D) (N := 5) hx hb hw hh_D ty_D ty_D_ok nm_D hown hK hP hD hS 0 rfl rfl 2 (by decide) (hw _ qq_54) (fun _ h9 => h9) rfl (by decide +kernel) rfl rfl (Nat.le_of_ble_eq_true rfl) dd_D_init_25 (fun H locs hP hD hS => ?_)
  have hP : va_P (dC, dI) vcl [(h0, .inr (4, [.ref q_1, .int 0, .int (-1), .int 0, .int 0])), (q_1, .inr (2, [.ref u_2, .int 0])), (u_2, .inl (cB, 4096, .inl (fun _ => 0)))] H := hP
  have hD : va_D A [(h0, .inr (4, [.ref q_1, .int 0, .int (-1), .int 0, .int 0])), (q_1, .inr (2, [.ref u_2, .int 0])), (u_2, .inl (cB, 4096, .inl (fun _ => 0)))] := hD
  refine lv_aload_n hx hb dd_D_init_28 rfl (lv_at hl 0 rfl) ?_
  refine lv_iconst (v := 0) hx hb dd_D_init_29 (by decide) ?_
  refine va_put (D := (dC, dI)) (ci := 4) (v := .int 0) (ty := .int) (C := RR_D) (T := TT_D) (N := 5) hx hb hw hh_D ty_D ty_D_ok nm_D hown hK hP hD hS 0 rfl rfl 3 (by decide) (hw _ qq_55) (fun _ h9 => h9) rfl (by decide +kernel) rfl rfl (Nat.le_of_ble_eq_true rfl) dd_D_init_30 (fun H locs hP hD hS => ?_)
  have hP : va_P (dC, dI) vcl [(h0, .inr (4, [.ref q_1, .int 0, .int (-1), .int 0, .int 0])), (q_1, .inr (2, [.ref u_2, .int 0])), (u_2, .inl (cB, 4096, .inl (fun _ => 0)))] H := hP
  have hD : va_D A [(h0, .inr (4, [.ref q_1, .int 0, .int (-1), .int 0, .int 0])), (q_1, .inr (2, [.ref u_2, .int 0])), (u_2, .inl (cB, 4096, .inl (fun _ => 0)))] := hD
  refine lv_aload_n hx hb dd_D_init_33 rfl (lv_at hl 0 rfl) ?_
  refine lv_iconst (v := -1) hx hb dd_D_init_34 (by decide) ?_
  refine va_put (D := (dC, dI)) (ci := 4) (v := .int (-1)) (ty := .int) (C := RR_D) (T := TT_D) (N := 5) hx hb hw hh_D ty_D ty_D_ok nm_D hown hK hP hD hS 0 rfl rfl 4 (by decide) (hw _ qq_57) (fun _ h9 => h9) rfl (by decide +kernel) rfl rfl (Nat.le_of_ble_eq_true rfl) dd_D_init_35 (fun H locs hP hD hS => ?_)
  have hP : va_P (dC, dI) vcl [(h0, .inr (4, [.ref q_1, .int 0, .int (-1), .int 0, .int (-1)])), (q_1, .inr (2, [.ref u_2, .int 0])), (u_2, .inl (cB, 4096, .inl (fun _ => 0)))] H := hP
  have hD : va_D A [(h0, .inr (4, [.ref q_1, .int 0, .int (-1), .int 0, .int (-1)])), (q_1, .inr (2, [.ref u_2, .int 0])), (u_2, .inl (cB, 4096, .inl (fun _ => 0)))] := hD
  have hP9 := hP.sub (ws' := [(h0, .inr (4, [.ref q_1, .int 0, .int (-1), .int 0, .int (-1)])), (q_1, .inr (2, [.ref u_2, .int 0])), (u_2, .inl (cB, 4096, .inl (fun _ => 0)))]) [0, 1, 2] rfl
  have hD9 := hD.sub (ws' := [(h0, .inr (4, [.ref q_1, .int 0, .int (-1), .int 0, .int (-1)])), (q_1, .inr (2, [.ref u_2, .int 0])), (u_2, .inl (cB, 4096, .inl (fun _ => 0)))]) [0, 1, 2] (by decide) rfl
  refine W.widen (k := 2) (n := 4098) (by first | exact Nat.le_refl _ | omega) (by first | exact Nat.le_refl _ | omega) ?_
  exact W.vret hx hb hr (fun t ht hW => ⟨⟨(fun j => match j with | 0 => q_1 | _ => u_2), rfl, trivial, by rw [ht]; exact hP9, va_K.moved hW.alike hK, hD9⟩, hS.F ht⟩) hS.2.2 dd_D_init_38

set_option maxHeartbeats 4000000 in
set_option maxRecDepth 100000 in
/-- ChangeCodec(): nothing written, nothing given, no change -/
theorem cb_X_init (l : Launch) (dC : Nat → ClassId) (dI : Nat → Nat → Nat) (cB cI cJ : ClassId) (sz : Nat) (h0 : Nat) : Met l yy_X_init (Cond.code yy_X_init cc_X_init 1 none :: gw) { frames := 3, cells := 21, slots := 8719, locals := 53 } (va_Pc [.ref h0] (ks_pre dC dI [(cB, .byte), (cI, .int), (cJ, .long)] [(h0, .inr (0, [.null, .null, .null, .null, .null, .null, .int 0, .int 0]))] sz)) (va_Qv (fun (u : Nat → Nat) => True) (fun (u : Nat → Nat) => ks_post dC dI [(cB, .byte), (cI, .int), (cJ, .long)] (va_A [(h0, .inr (0, [.null, .null, .null, .null, .null, .null, .int 0, .int 0]))] sz) [(h0, .inr (0, [.ref (u 0), .ref (u 2), .ref (u 4), .ref (u 6), .ref (u 7), .ref (u 14), .int 0, .int 0])), ((u 0), .inr (2, [.ref (u 1), .int 0])), ((u 1), .inl (cB, 4096, .inl (fun _ => 0))), ((u 2), .inr (2, [.ref (u 3), .int 0])), ((u 3), .inl (cB, 4096, .inl (fun _ => 0))), ((u 4), .inr (2, [.ref (u 5), .int 0])), ((u 5), .inl (cB, 320, .inl (fun _ => 0))), ((u 6), .inr (4, [.ref (u 2), .int 0, .int (-1), .int 0, .int (-1)])), ((u 7), .inr (3, [.int 0, .int 0, .int 0, .int 0, .ref (u 8), .ref (u 9), .ref (u 10), .ref (u 11), .ref (u 12), .ref (u 13)])), ((u 8), .inl (cI, 8, .inl (fun _ => 0))), ((u 9), .inl (cI, 16, .inl (fun _ => 0))), ((u 10), .inl (cI, 16, .inl (fun _ => 0))), ((u 11), .inl (cJ, 16, .inr (.inl (fun _ => 0)))), ((u 12), .inl (cI, 16, .inl (fun _ => 0))), ((u 13), .inl (cI, 16, .inl (fun _ => 0))), ((u 14), .inr (3, [.int 0, .int 0, .int 0, .int 0, .ref (u 15), .ref (u 16), .ref (u 17), .ref (u 18), .ref (u 19), .ref (u 20)])), ((u 15), .inl (cI, 8, .inl (fun _ => 0))), ((u 16), .inl (cI, 16, .inl (fun _ => 0))), ((u 17), .inl (cI, 16, .inl (fun _ => 0))), ((u 18), .inl (cJ, 16, .inr (.inl (fun _ => 0)))), ((u 19), .inl (cI, 16, .inl (fun _ => 0))), ((u 20), .inl (cI, 16, .inl (fun _ => 0)))]) (va_A [(h0, .inr (0, [.null, .null, .null, .null, .null, .null, .int 0, .int 0]))] sz)) 21 8719 (va_A [(h0, .inr (0, [.null, .null, .null, .null, .null, .null, .int 0, .int 0]))] sz) := by
  refine Met.ofW (cc := cc_X_init) (maxL := 1) (ret := none) (by decide) rfl ?_
  intro p e s m args below meth c s₁ B hml hv
  obtain ⟨rfl, hsz, hP, hK, hD0⟩ := hv
  have hx := B.exec
  have hb := B.bytes
  have hr := B.returns
  have hw : ∀ w ∈ gw, w.before _ s = true := fun w h => atoms_spec (ws := (Cond.code yy_X_init cc_X_init 1 none :: gw)) B.pre w (List.mem_cons_of_mem _ h)
  have hown : s.vm.findClass RR_X = some m.cls := findClass_of_methodNamed B.named
  have hlocks := B.notSynchronized
  have hin : meth.name = "<init>" := (name_of_methodNamed B.named B.method).1
  subst hsz
  have hD := hD0.self (sz := s.heap.size)
  generalize hAe : va_A [(h0, .inr (0, [.null, .null, .null, .null, .null, .null, .int 0, .int 0]))] s.heap.size = A at hD ⊢
  have hA : ∀ q : Nat, s.heap.size ≤ q → A q := fun q h => by rw [← hAe]; exact Or.inr h
  have hS : va_S A s.heap s.heap [] := va_S.rf
  have hP : va_P (dC, dI) vcl [(h0, .inr (0, [.null, .null, .null, .null, .null, .null, .int 0, .int 0]))] s.heap := hP
  have hl := lv_entry ([.ref h0]) (n := 1) (Nat.le_of_ble_eq_true rfl)
  rw [lg_entry_eq]
  generalize (lg_sl ([.ref h0]) ++ List.replicate (1 - (lg_sl ([.ref h0])).length) Slot.unset).toArray = ls at hl ⊢
  have hl : lv_has ls 1 [(0, .ref h0)] := hl
  refine lv_aload_n hx hb dd_X_init_0 rfl (lv_at hl 0 rfl) ?_
  refine W.objInit hx hb hown (hw _ qq_22) (hw _ qq_23) (hw _ qq_24) rfl (by rw [hml]; exact hl.1) rfl dd_X_init_1 (Nat.le_of_ble_eq_true rfl) (Nat.le_of_ble_eq_true rfl) ?_
  refine W.eq (g2 := F0 m 4 ls []) rfl ?_
  refine lv_aload_n hx hb dd_X_init_4 rfl (lv_at hl 0 rfl) ?_
  refine va_new (ci := 2) (fs := [.null, .int 0]) (C := RR_B) (T := TT_B) (N := 2) hx hb hw hh_B ty_B ty_B_ok hown (hw _ qq_25) (hw _ qq_26) (hw _ qq_2) hK hP hD hS hA rfl (by decide +kernel) (by first | exact Nat.le_of_ble_eq_true rfl | (simp only [headSpec]; omega)) (by first | exact Nat.le_of_ble_eq_true rfl | (simp only [headSpec]; omega)) dd_X_init_5 (fun q_1 H hP hD hS => ?_)
  have hP : va_P (dC, dI) vcl [(h0, .inr (0, [.null, .null, .null, .null, .null, .null, .int 0, .int 0])), (q_1, .inr (2, [.null, .int 0]))] H := hP
  have hD : va_D A [(h0, .inr (0, [.null, .null, .null, .null, .null, .null, .int 0, .int 0])), (q_1, .inr (2, [.null, .int 0]))] := hD
  refine W.widen (k := 1) (n := 2) (by first | exact Nat.le_refl _ | omega) (by first | exact Nat.le_refl _ | omega) ?_
  refine lv_dup hx hb dd_X_init_8 rfl ?_
  refine lv_sipush (v := 4096) hx hb dd_X_init_9 (by decide) ?_
  have hPc := hP.sub (ws' := [(q_1, .inr (2, [.null, .int 0]))]) [1] rfl
  have hDc := hD.sub (ws' := [(q_1, .inr (2, [.null, .int 0]))]) [1] (by decide) rfl
  have hFc := va_free (wc := [(q_1, .inr (2, [.null, .int 0]))]) hD hS hA [1] rfl
  refine va_callv (va_runI (As := [.int 4096]) (rest := [.ref q_1, .ref h0]) ⟨hx, hb, hml, hown, hw⟩ (cb_B_init l dC dI cB cI cJ H.size q_1 4096 (by decide)) (kw_I 1 hw qq_27 qq_2 qq_29 qq_28 rfl rfl rfl (by decide +kernel) ⟨Nat.le_of_ble_eq_true rfl, Nat.le_of_ble_eq_true rfl⟩) ⟨fun a U g mk q => by obtain ⟨q0, q1, qP, qK, qD⟩ := q; exact ⟨q0, q1, qP, va_K.moved (u := U) (U := U.calling g mk a) (Vm.Alike.refl U.vm) qK, qD⟩, fun U hU hW => ⟨rfl, by rw [hU], by rw [hU]; exact hPc, va_K.moved hW.alike hK, hDc.weaken (fun _ _ _ _ => trivial)⟩⟩ rfl rfl hl.1 rfl (lv_room (Nat.le_of_ble_eq_true rfl)) dd_X_init_12 ⟨by first | exact Nat.le_of_ble_eq_true rfl | (simp only [headSpec]; omega), by first | exact Nat.le_of_ble_eq_true rfl | (simp only [headSpec]; omega)⟩) hS (fun q _ h => hFc q h) hFc (fun u_2 t H1 locs ht hvm hq_3 hB hz1 hk1 hS => ?_)
  obtain ⟨hP1, hK1, hD1⟩ := hB
  rw [ht] at hP1
  obtain ⟨hP, hD⟩ := va_join (wr := [(h0, .inr (0, [.null, .null, .null, .null, .null, .null, .int 0, .int 0]))]) (w1 := [(q_1, .inr (2, [.ref u_2, .int 0])), (u_2, .inl (cB, 4096, .inl (fun _ => 0)))]) hP hD [1] [0] rfl rfl (by decide) (by decide) hk1 hFc hP1 hD1
  clear hP1 hK1 hD1 ht hvm hz1 hk1 hPc hDc hFc
  generalize H1 = H at hP hS ⊢
  have hP : va_P (dC, dI) vcl [(h0, .inr (0, [.null, .null, .null, .null, .null, .null, .int 0, .int 0])), (q_1, .inr (2, [.ref u_2, .int 0])), (u_2, .inl (cB, 4096, .inl (fun _ => 0)))] H := hP
  have hD : va_D A [(h0, .inr (0, [.null, .null, .null, .null, .null, .null, .int 0, .int 0])), (q_1, .inr (2, [.ref u_2, .int 0])), (u_2, .inl (cB, 4096, .inl (fun _ => 0)))] := hD
  refine W.widen (k := 2) (n := 4098) (by first | exact Nat.le_refl _ | omega) (by first | exact Nat.le_refl _ | omega) ?_
  refine va_putF (D := (dC, dI)) (ci := 0) (v := .ref q_1) (ty := .object "ChangeCodec$Bytes") (C := RR_X) (T := TT_X) (N := 8) hx hb hw hh_X ty_X ty_X_ok nm_X hown hK hP hD hS 0 rfl rfl 0 (by decide) (hw _ qq_122) (fun _ h9 => h9) rfl hin rfl (by decide +kernel) rfl rfl (Nat.le_of_ble_eq_true rfl) dd_X_init_15 (fun H locs hP hD hS => ?_)
  have hP : va_P (dC, dI) vcl [(h0, .inr (0, [.ref q_1, .null, .null, .null, .null, .null, .int 0, .int 0])), (q_1, .inr (2, [.ref u_2, .int 0])), (u_2, .inl (cB, 4096, .inl (fun _ => 0)))] H := hP
  have hD : va_D A [(h0, .inr (0, [.ref q_1, .null, .null, .null, .null, .null, .int 0, .int 0])), (q_1, .inr (2, [.ref u_2, .int 0])), (u_2, .inl (cB, 4096, .inl (fun _ => 0)))] := hD
  refine lv_aload_n hx hb dd_X_init_18 rfl (lv_at hl 0 rfl) ?_
  refine va_new (ci := 4) (fs := [.null, .int 0, .int 0, .int 0, .int 0]) (C := RR_D) (T := TT_D) (N := 5) hx hb hw hh_D ty_D ty_D_ok hown (hw _ qq_42) (hw _ qq_43) (hw _ qq_3) hK hP hD hS hA rfl (by decide +kernel) (by first | exact Nat.le_of_ble_eq_true rfl | (simp only [headSpec]; omega)) (by first | exact Nat.le_of_ble_eq_true rfl | (simp only [headSpec]; omega)) dd_X_init_19 (fun q_4 H hP hD hS => ?_)
  have hP : va_P (dC, dI) vcl [(h0, .inr (0, [.ref q_1, .null, .null, .null, .null, .null, .int 0, .int 0])), (q_1, .inr (2, [.ref u_2, .int 0])), (u_2, .inl (cB, 4096, .inl (fun _ => 0))), (q_4, .inr (4, [.null, .int 0, .int 0, .int 0, .int 0]))] H := hP
  have hD : va_D A [(h0, .inr (0, [.ref q_1, .null, .null, .null, .null, .null, .int 0, .int 0])), (q_1, .inr (2, [.ref u_2, .int 0])), (u_2, .inl (cB, 4096, .inl (fun _ => 0))), (q_4, .inr (4, [.null, .int 0, .int 0, .int 0, .int 0]))] := hD
  refine W.widen (k := 3) (n := 4103) (by first | exact Nat.le_refl _ | omega) (by first | exact Nat.le_refl _ | omega) ?_
  refine lv_dup hx hb dd_X_init_22 rfl ?_
  have hPc := hP.sub (ws' := [(q_4, .inr (4, [.null, .int 0, .int 0, .int 0, .int 0]))]) [3] rfl
  have hDc := hD.sub (ws' := [(q_4, .inr (4, [.null, .int 0, .int 0, .int 0, .int 0]))]) [3] (by decide) rfl
  have hFc := va_free (wc := [(q_4, .inr (4, [.null, .int 0, .int 0, .int 0, .int 0]))]) hD hS hA [3] rfl
  refine va_callv (va_runI (As := []) (rest := [.ref q_4, .ref h0]) ⟨hx, hb, hml, hown, hw⟩ (cb_D_init l dC dI cB cI cJ H.size q_4) (kw_I 0 hw qq_44 qq_3 qq_46 qq_45 rfl rfl rfl (by decide +kernel) ⟨Nat.le_of_ble_eq_true rfl, Nat.le_of_ble_eq_true rfl⟩) ⟨fun a U g mk q => by obtain ⟨q0, q1, qP, qK, qD⟩ := q; exact ⟨q0, q1, qP, va_K.moved (u := U) (U := U.calling g mk a) (Vm.Alike.refl U.vm) qK, qD⟩, fun U hU hW => ⟨rfl, by rw [hU], by rw [hU]; exact hPc, va_K.moved hW.alike hK, hDc.weaken (fun _ _ _ _ => trivial)⟩⟩ rfl rfl hl.1 rfl (lv_room (Nat.le_of_ble_eq_true rfl)) dd_X_init_23 ⟨by first | exact Nat.le_of_ble_eq_true rfl | (simp only [headSpec]; omega), by first | exact Nat.le_of_ble_eq_true rfl | (simp only [headSpec]; omega)⟩) hS (fun q _ h => hFc q h) hFc (fun u_5 t H1 locs ht hvm hq_6 hB hz1 hk1 hS => ?_)
  obtain ⟨hP1, hK1, hD1⟩ := hB
  rw [ht] at hP1
  obtain ⟨hP, hD⟩ := va_join (wr := [(h0, .inr (0, [.ref q_1, .null, .null, .null, .null, .null, .int 0, .int 0])), (q_1, .inr (2, [.ref u_2, .int 0])), (u_2, .inl (cB, 4096, .inl (fun _ => 0)))]) (w1 := [(q_4, .inr (4, [.ref (u_5 0), .int 0, .int (-1), .int 0, .int (-1)])), ((u_5 0), .inr (2, [.ref (u_5 1), .int 0])), ((u_5 1), .inl (cB, 4096, .inl (fun _ => 0)))]) hP hD [3] [0, 1, 2] rfl rfl (by decide) (by decide) hk1 hFc hP1 hD1
  clear hP1 hK1 hD1 ht hvm hz1 hk1 hPc hDc hFc
  generalize H1 = H at hP hS ⊢
  have hP : va_P (dC, dI) vcl [(h0, .inr (0, [.ref q_1, .null, .null, .null, .null, .null, .int 0, .int 0])), (q_1, .inr (2, [.ref u_2, .int 0])), (u_2, .inl (cB, 4096, .inl (fun _ => 0))), (q_4, .inr (4, [.ref (u_5 0), .int 0, .int (-1), .int 0, .int (-1)])), ((u_5 0), .inr (2, [.ref (u_5 1), .int 0])), ((u_5 1), .inl (cB, 4096, .inl (fun _ => 0)))] H := hP
  have hD : va_D A [(h0, .inr (0, [.ref q_1, .null, .null, .null, .null, .null, .int 0, .int 0])), (q_1, .inr (2, [.ref u_2, .int 0])), (u_2, .inl (cB, 4096, .inl (fun _ => 0))), (q_4, .inr (4, [.ref (u_5 0), .int 0, .int (-1), .int 0, .int (-1)])), ((u_5 0), .inr (2, [.ref (u_5 1), .int 0])), ((u_5 1), .inl (cB, 4096, .inl (fun _ => 0)))] := hD
  refine W.widen (k := 5) (n := 8201) (by first | exact Nat.le_refl _ | omega) (by first | exact Nat.le_refl _ | omega) ?_
  refine va_putF (D := (dC, dI)) (ci := 0) (v := .ref q_4) (ty := .object "ChangeCodec$Reader") (C := RR_X) (T := TT_X) (N := 8) hx hb hw hh_X ty_X ty_X_ok nm_X hown hK hP hD hS 0 rfl rfl 3 (by decide) (hw _ qq_125) (fun _ h9 => h9) rfl hin rfl (by decide +kernel) rfl rfl (Nat.le_of_ble_eq_true rfl) dd_X_init_26 (fun H locs hP hD hS => ?_)
  have hP : va_P (dC, dI) vcl [(h0, .inr (0, [.ref q_1, .null, .null, .ref q_4, .null, .null, .int 0, .int 0])), (q_1, .inr (2, [.ref u_2, .int 0])), (u_2, .inl (cB, 4096, .inl (fun _ => 0))), (q_4, .inr (4, [.ref (u_5 0), .int 0, .int (-1), .int 0, .int (-1)])), ((u_5 0), .inr (2, [.ref (u_5 1), .int 0])), ((u_5 1), .inl (cB, 4096, .inl (fun _ => 0)))] H := hP
  have hD : va_D A [(h0, .inr (0, [.ref q_1, .null, .null, .ref q_4, .null, .null, .int 0, .int 0])), (q_1, .inr (2, [.ref u_2, .int 0])), (u_2, .inl (cB, 4096, .inl (fun _ => 0))), (q_4, .inr (4, [.ref (u_5 0), .int 0, .int (-1), .int 0, .int (-1)])), ((u_5 0), .inr (2, [.ref (u_5 1), .int 0])), ((u_5 1), .inl (cB, 4096, .inl (fun _ => 0)))] := hD
  refine lv_aload_n hx hb dd_X_init_29 rfl (lv_at hl 0 rfl) ?_
  refine lv_aload_n hx hb dd_X_init_30 rfl (lv_at hl 0 rfl) ?_
  refine va_get (D := (dC, dI)) (ci := 0) (v := .ref q_4) (C := RR_X) (T := TT_X) (N := 8) hx hb hw hh_X hown hK hP 0 rfl rfl 3 (by decide) (hw _ qq_125) (fun _ h9 => h9) rfl dd_X_init_31 ?_
  refine va_get (D := (dC, dI)) (ci := 4) (v := .ref (u_5 0)) (C := RR_D) (T := TT_D) (N := 5) hx hb hw hh_D hown hK hP 3 rfl rfl 0 (by decide) (hw _ qq_51) (fun _ h9 => h9) rfl dd_X_init_34 ?_
  refine va_putF (D := (dC, dI)) (ci := 0) (v := .ref (u_5 0)) (ty := .object "ChangeCodec$Bytes") (C := RR_X) (T := TT_X) (N := 8) hx hb hw hh_X ty_X ty_X_ok nm_X hown hK hP hD hS 0 rfl rfl 1 (by decide) (hw _ qq_123) (fun _ h9 => h9) rfl hin rfl (by decide +kernel) rfl rfl (Nat.le_of_ble_eq_true rfl) dd_X_init_37 (fun H locs hP hD hS => ?_)
  have hP : va_P (dC, dI) vcl [(h0, .inr (0, [.ref q_1, .ref (u_5 0), .null, .ref q_4, .null, .null, .int 0, .int 0])), (q_1, .inr (2, [.ref u_2, .int 0])), (u_2, .inl (cB, 4096, .inl (fun _ => 0))), (q_4, .inr (4, [.ref (u_5 0), .int 0, .int (-1), .int 0, .int (-1)])), ((u_5 0), .inr (2, [.ref (u_5 1), .int 0])), ((u_5 1), .inl (cB, 4096, .inl (fun _ => 0)))] H := hP
  have hD : va_D A [(h0, .inr (0, [.ref q_1, .ref (u_5 0), .null, .ref q_4, .null, .null, .int 0, .int 0])), (q_1, .inr (2, [.ref u_2, .int 0])), (u_2, .inl (cB, 4096, .inl (fun _ => 0))), (q_4, .inr (4, [.ref (u_5 0), .int 0, .int (-1), .int 0, .int (-1)])), ((u_5 0), .inr (2, [.ref (u_5 1), .int 0])), ((u_5 1), .inl (cB, 4096, .inl (fun _ => 0)))] := hD
  refine lv_aload_n hx hb dd_X_init_40 rfl (lv_at hl 0 rfl) ?_
  refine va_new (ci := 2) (fs := [.null, .int 0]) (C := RR_B) (T := TT_B) (N := 2) hx hb hw hh_B ty_B ty_B_ok hown (hw _ qq_25) (hw _ qq_26) (hw _ qq_2) hK hP hD hS hA rfl (by decide +kernel) (by first | exact Nat.le_of_ble_eq_true rfl | (simp only [headSpec]; omega)) (by first | exact Nat.le_of_ble_eq_true rfl | (simp only [headSpec]; omega)) dd_X_init_41 (fun q_7 H hP hD hS => ?_)
  have hP : va_P (dC, dI) vcl [(h0, .inr (0, [.ref q_1, .ref (u_5 0), .null, .ref q_4, .null, .null, .int 0, .int 0])), (q_1, .inr (2, [.ref u_2, .int 0])), (u_2, .inl (cB, 4096, .inl (fun _ => 0))), (q_4, .inr (4, [.ref (u_5 0), .int 0, .int (-1), .int 0, .int (-1)])), ((u_5 0), .inr (2, [.ref (u_5 1), .int 0])), ((u_5 1), .inl (cB, 4096, .inl (fun _ => 0))), (q_7, .inr (2, [.null, .int 0]))] H := hP
  have hD : va_D A [(h0, .inr (0, [.ref q_1, .ref (u_5 0), .null, .ref q_4, .null, .null, .int 0, .int 0])), (q_1, .inr (2, [.ref u_2, .int 0])), (u_2, .inl (cB, 4096, .inl (fun _ => 0))), (q_4, .inr (4, [.ref (u_5 0), .int 0, .int (-1), .int 0, .int (-1)])), ((u_5 0), .inr (2, [.ref (u_5 1), .int 0])), ((u_5 1), .inl (cB, 4096, .inl (fun _ => 0))), (q_7, .inr (2, [.null, .int 0]))] := hD
  refine W.widen (k := 6) (n := 8203) (by first | exact Nat.le_refl _ | omega) (by first | exact Nat.le_refl _ | omega) ?_
  refine lv_dup hx hb dd_X_init_44 rfl ?_
  refine lv_sipush (v := 320) hx hb dd_X_init_45 (by decide) ?_
  have hPc := hP.sub (ws' := [(q_7, .inr (2, [.null, .int 0]))]) [6] rfl
  have hDc := hD.sub (ws' := [(q_7, .inr (2, [.null, .int 0]))]) [6] (by decide) rfl
  have hFc := va_free (wc := [(q_7, .inr (2, [.null, .int 0]))]) hD hS hA [6] rfl
  refine va_callv (va_runI (As := [.int 320]) (rest := [.ref q_7, .ref h0]) ⟨hx, hb, hml, hown, hw⟩ (cb_B_init l dC dI cB cI cJ H.size q_7 320 (by decide)) (kw_I 1 hw qq_27 qq_2 qq_29 qq_28 rfl rfl rfl (by decide +kernel) ⟨Nat.le_of_ble_eq_true rfl, Nat.le_of_ble_eq_true rfl⟩) ⟨fun a U g mk q => by obtain ⟨q0, q1, qP, qK, qD⟩ := q; exact ⟨q0, q1, qP, va_K.moved (u := U) (U := U.calling g mk a) (Vm.Alike.refl U.vm) qK, qD⟩, fun U hU hW => ⟨rfl, by rw [hU], by rw [hU]; exact hPc, va_K.moved hW.alike hK, hDc.weaken (fun _ _ _ _ => trivial)⟩⟩ rfl rfl hl.1 rfl (lv_room (Nat.le_of_ble_eq_true rfl)) dd_X_init_48 ⟨by first | exact Nat.le_of_ble_eq_true rfl | (simp only [headSpec]; omega), by first | exact Nat.le_of_ble_eq_true rfl | (simp only [headSpec]; omega)⟩) hS (fun q _ h => hFc q h) hFc (fun u_8 t H1 locs ht hvm hq_9 hB hz1 hk1 hS => ?_)
  obtain ⟨hP1, hK1, hD1⟩ := hB
  rw [ht] at hP1
  obtain ⟨hP, hD⟩ := va_join (wr := [(h0, .inr (0, [.ref q_1, .ref (u_5 0), .null, .ref q_4, .null, .null, .int 0, .int 0])), (q_1, .inr (2, [.ref u_2, .int 0])), (u_2, .inl (cB, 4096, .inl (fun _ => 0))), (q_4, .inr (4, [.ref (u_5 0), .int 0, .int (-1), .int 0, .int (-1)])), ((u_5 0), .inr (2, [.ref (u_5 1), .int 0])), ((u_5 1), .inl (cB, 4096, .inl (fun _ => 0)))]) (w1 := [(q_7, .inr (2, [.ref u_8, .int 0])), (u_8, .inl (cB, 320, .inl (fun _ => 0)))]) hP hD [6] [0, 1, 2, 3, 4, 5] rfl rfl (by decide) (by decide) hk1 hFc hP1 hD1
  clear hP1 hK1 hD1 ht hvm hz1 hk1 hPc hDc hFc
  generalize H1 = H at hP hS ⊢
  have hP : va_P (dC, dI) vcl [(h0, .inr (0, [.ref q_1, .ref (u_5 0), .null, .ref q_4, .null, .null, .int 0, .int 0])), (q_1, .inr (2, [.ref u_2, .int 0])), (u_2, .inl (cB, 4096, .inl (fun _ => 0))), (q_4, .inr (4, [.ref (u_5 0), .int 0, .int (-1), .int 0, .int (-1)])), ((u_5 0), .inr (2, [.ref (u_5 1), .int 0])), ((u_5 1), .inl (cB, 4096, .inl (fun _ => 0))), (q_7, .inr (2, [.ref u_8, .int 0])), (u_8, .inl (cB, 320, .inl (fun _ => 0)))] H := hP
  have hD : va_D A [(h0, .inr (0, [.ref q_1, .ref (u_5 0), .null, .ref q_4, .null, .null, .int 0, .int 0])), (q_1, .inr (2, [.ref u_2, .int 0])), (u_2, .inl (cB, 4096, .inl (fun _ => 0))), (q_4, .inr (4, [.ref (u_5 0), .int 0, .int (-1), .int 0, .int (-1)])), ((u_5 0), .inr (2, [.ref (u_5 1), .int 0])), ((u_5 1), .inl (cB, 4096, .inl (fun _ => 0))), (q_7, .inr (2, [.ref u_8, .int 0])), (u_8, .inl (cB, 320, .inl (fun _ => 0)))] := hD
  refine W.widen (k := 7) (n := 8523) (by first | exact Nat.le_refl _ | omega) (by first | exact Nat.le_refl _ | omega) ?_
  refine va_putF (D := (dC, dI)) (ci := 0) (v := .ref q_7) (ty := .object "ChangeCodec$Bytes") (C := RR_X) (T := TT_X) (N := 8) hx hb hw hh_X ty_X ty_X_ok nm_X hown hK hP hD hS 0 rfl rfl 2 (by decide) (hw _ qq_124) (fun _ h9 => h9) rfl hin rfl (by decide +kernel) rfl rfl (Nat.le_of_ble_eq_true rfl) dd_X_init_51 (fun H locs hP hD hS => ?_)
  have hP : va_P (dC, dI) vcl [(h0, .inr (0, [.ref q_1, .ref (u_5 0), .ref q_7, .ref q_4, .null, .null, .int 0, .int 0])), (q_1, .inr (2, [.ref u_2, .int 0])), (u_2, .inl (cB, 4096, .inl (fun _ => 0))), (q_4, .inr (4, [.ref (u_5 0), .int 0, .int (-1), .int 0, .int (-1)])), ((u_5 0), .inr (2, [.ref (u_5 1), .int 0])), ((u_5 1), .inl (cB, 4096, .inl (fun _ => 0))), (q_7, .inr (2, [.ref u_8, .int 0])), (u_8, .inl (cB, 320, .inl (fun _ => 0)))] H := hP
  have hD : va_D A [(h0, .inr (0, [.ref q_1, .ref (u_5 0), .ref q_7, .ref q_4, .null, .null, .int 0, .int 0])), (q_1, .inr (2, [.ref u_2, .int 0])), (u_2, .inl (cB, 4096, .inl (fun _ => 0))), (q_4, .inr (4, [.ref (u_5 0), .int 0, .int (-1), .int 0, .int (-1)])), ((u_5 0), .inr (2, [.ref (u_5 1), .int 0])), ((u_5 1), .inl (cB, 4096, .inl (fun _ => 0))), (q_7, .inr (2, [.ref u_8, .int 0])), (u_8, .inl (cB, 320, .inl (fun _ => 0)))] := hD
  refine lv_aload_n hx hb dd_X_init_54 rfl (lv_at hl 0 rfl) ?_
  refine va_new (ci := 3) (fs := [.int 0, .int 0, .int 0, .int 0, .null, .null, .null, .null, .null, .null]) (C := RR_C) (T := TT_C) (N := 10) hx hb hw hh_C ty_C ty_C_ok hown (hw _ qq_70) (hw _ qq_71) (hw _ qq_4) hK hP hD hS hA rfl (by decide +kernel) (by first | exact Nat.le_of_ble_eq_true rfl | (simp only [headSpec]; omega)) (by first | exact Nat.le_of_ble_eq_true rfl | (simp only [headSpec]; omega)) dd_X_init_55 (fun q_10 H hP hD hS => ?_)
  have hP : va_P (dC, dI) vcl [(h0, .inr (0, [.ref q_1, .ref (u_5 0), .ref q_7, .ref q_4, .null, .null, .int 0, .int 0])), (q_1, .inr (2, [.ref u_2, .int 0])), (u_2, .inl (cB, 4096, .inl (fun _ => 0))), (q_4, .inr (4, [.ref (u_5 0), .int 0, .int (-1), .int 0, .int (-1)])), ((u_5 0), .inr (2, [.ref (u_5 1), .int 0])), ((u_5 1), .inl (cB, 4096, .inl (fun _ => 0))), (q_7, .inr (2, [.ref u_8, .int 0])), (u_8, .inl (cB, 320, .inl (fun _ => 0))), (q_10, .inr (3, [.int 0, .int 0, .int 0, .int 0, .null, .null, .null, .null, .null, .null]))] H := hP
  have hD : va_D A [(h0, .inr (0, [.ref q_1, .ref (u_5 0), .ref q_7, .ref q_4, .null, .null, .int 0, .int 0])), (q_1, .inr (2, [.ref u_2, .int 0])), (u_2, .inl (cB, 4096, .inl (fun _ => 0))), (q_4, .inr (4, [.ref (u_5 0), .int 0, .int (-1), .int 0, .int (-1)])), ((u_5 0), .inr (2, [.ref (u_5 1), .int 0])), ((u_5 1), .inl (cB, 4096, .inl (fun _ => 0))), (q_7, .inr (2, [.ref u_8, .int 0])), (u_8, .inl (cB, 320, .inl (fun _ => 0))), (q_10, .inr (3, [.int 0, .int 0, .int 0, .int 0, .null, .null, .null, .null, .null, .null]))] := hD
  refine W.widen (k := 8) (n := 8533) (by first | exact Nat.le_refl _ | omega) (by first | exact Nat.le_refl _ | omega) ?_
  refine lv_dup hx hb dd_X_init_58 rfl ?_
  have hPc := hP.sub (ws' := [(q_10, .inr (3, [.int 0, .int 0, .int 0, .int 0, .null, .null, .null, .null, .null, .null]))]) [8] rfl
  have hDc := hD.sub (ws' := [(q_10, .inr (3, [.int 0, .int 0, .int 0, .int 0, .null, .null, .null, .null, .null, .null]))]) [8] (by decide) rfl
  have hFc := va_free (wc := [(q_10, .inr (3, [.int 0, .int 0, .int 0, .int 0, .null, .null, .null, .null, .null, .null]))]) hD hS hA [8] rfl
  refine va_callv (va_runI (As := []) (rest := [.ref q_10, .ref h0]) ⟨hx, hb, hml, hown, hw⟩ (cb_C_init l dC dI cB cI cJ H.size q_10) (kw_I 0 hw qq_72 qq_4 qq_74 qq_73 rfl rfl rfl (by decide +kernel) ⟨Nat.le_of_ble_eq_true rfl, Nat.le_of_ble_eq_true rfl⟩) ⟨fun a U g mk q => by obtain ⟨q0, q1, qP, qK, qD⟩ := q; exact ⟨q0, q1, qP, va_K.moved (u := U) (U := U.calling g mk a) (Vm.Alike.refl U.vm) qK, qD⟩, fun U hU hW => ⟨rfl, by rw [hU], by rw [hU]; exact hPc, va_K.moved hW.alike hK, hDc.weaken (fun _ _ _ _ => trivial)⟩⟩ rfl rfl hl.1 rfl (lv_room (Nat.le_of_ble_eq_true rfl)) dd_X_init_59 ⟨by first | exact Nat.le_of_ble_eq_true rfl | (simp only [headSpec]; omega), by first | exact Nat.le_of_ble_eq_true rfl | (simp only [headSpec]; omega)⟩) hS (fun q _ h => hFc q h) hFc (fun u_11 t H1 locs ht hvm hq_12 hB hz1 hk1 hS => ?_)
  obtain ⟨hP1, hK1, hD1⟩ := hB
  rw [ht] at hP1
  obtain ⟨hP, hD⟩ := va_join (wr := [(h0, .inr (0, [.ref q_1, .ref (u_5 0), .ref q_7, .ref q_4, .null, .null, .int 0, .int 0])), (q_1, .inr (2, [.ref u_2, .int 0])), (u_2, .inl (cB, 4096, .inl (fun _ => 0))), (q_4, .inr (4, [.ref (u_5 0), .int 0, .int (-1), .int 0, .int (-1)])), ((u_5 0), .inr (2, [.ref (u_5 1), .int 0])), ((u_5 1), .inl (cB, 4096, .inl (fun _ => 0))), (q_7, .inr (2, [.ref u_8, .int 0])), (u_8, .inl (cB, 320, .inl (fun _ => 0)))]) (w1 := [(q_10, .inr (3, [.int 0, .int 0, .int 0, .int 0, .ref (u_11 0), .ref (u_11 1), .ref (u_11 2), .ref (u_11 3), .ref (u_11 4), .ref (u_11 5)])), ((u_11 0), .inl (cI, 8, .inl (fun _ => 0))), ((u_11 1), .inl (cI, 16, .inl (fun _ => 0))), ((u_11 2), .inl (cI, 16, .inl (fun _ => 0))), ((u_11 3), .inl (cJ, 16, .inr (.inl (fun _ => 0)))), ((u_11 4), .inl (cI, 16, .inl (fun _ => 0))), ((u_11 5), .inl (cI, 16, .inl (fun _ => 0)))]) hP hD [8] [0, 1, 2, 3, 4, 5, 6, 7] rfl rfl (by decide) (by decide) hk1 hFc hP1 hD1
  clear hP1 hK1 hD1 ht hvm hz1 hk1 hPc hDc hFc
  generalize H1 = H at hP hS ⊢
  have hP : va_P (dC, dI) vcl [(h0, .inr (0, [.ref q_1, .ref (u_5 0), .ref q_7, .ref q_4, .null, .null, .int 0, .int 0])), (q_1, .inr (2, [.ref u_2, .int 0])), (u_2, .inl (cB, 4096, .inl (fun _ => 0))), (q_4, .inr (4, [.ref (u_5 0), .int 0, .int (-1), .int 0, .int (-1)])), ((u_5 0), .inr (2, [.ref (u_5 1), .int 0])), ((u_5 1), .inl (cB, 4096, .inl (fun _ => 0))), (q_7, .inr (2, [.ref u_8, .int 0])), (u_8, .inl (cB, 320, .inl (fun _ => 0))), (q_10, .inr (3, [.int 0, .int 0, .int 0, .int 0, .ref (u_11 0), .ref (u_11 1), .ref (u_11 2), .ref (u_11 3), .ref (u_11 4), .ref (u_11 5)])), ((u_11 0), .inl (cI, 8, .inl (fun _ => 0))), ((u_11 1), .inl (cI, 16, .inl (fun _ => 0))), ((u_11 2), .inl (cI, 16, .inl (fun _ => 0))), ((u_11 3), .inl (cJ, 16, .inr (.inl (fun _ => 0)))), ((u_11 4), .inl (cI, 16, .inl (fun _ => 0))), ((u_11 5), .inl (cI, 16, .inl (fun _ => 0)))] H := hP
  have hD : va_D A [(h0, .inr (0, [.ref q_1, .ref (u_5 0), .ref q_7, .ref q_4, .null, .null, .int 0, .int 0])), (q_1, .inr (2, [.ref u_2, .int 0])), (u_2, .inl (cB, 4096, .inl (fun _ => 0))), (q_4, .inr (4, [.ref (u_5 0), .int 0, .int (-1), .int 0, .int (-1)])), ((u_5 0), .inr (2, [.ref (u_5 1), .int 0])), ((u_5 1), .inl (cB, 4096, .inl (fun _ => 0))), (q_7, .inr (2, [.ref u_8, .int 0])), (u_8, .inl (cB, 320, .inl (fun _ => 0))), (q_10, .inr (3, [.int 0, .int 0, .int 0, .int 0, .ref (u_11 0), .ref (u_11 1), .ref (u_11 2), .ref (u_11 3), .ref (u_11 4), .ref (u_11 5)])), ((u_11 0), .inl (cI, 8, .inl (fun _ => 0))), ((u_11 1), .inl (cI, 16, .inl (fun _ => 0))), ((u_11 2), .inl (cI, 16, .inl (fun _ => 0))), ((u_11 3), .inl (cJ, 16, .inr (.inl (fun _ => 0)))), ((u_11 4), .inl (cI, 16, .inl (fun _ => 0))), ((u_11 5), .inl (cI, 16, .inl (fun _ => 0)))] := hD
  refine W.widen (k := 14) (n := 8621) (by first | exact Nat.le_refl _ | omega) (by first | exact Nat.le_refl _ | omega) ?_
  refine va_put (D := (dC, dI)) (ci := 0) (v := .ref q_10) (ty := .object "ChangeCodec$Change") (C := RR_X) (T := TT_X) (N := 8) hx hb hw hh_X ty_X ty_X_ok nm_X hown hK hP hD hS 0 rfl rfl 4 (by decide) (hw _ qq_126) (fun _ h9 => h9) rfl (by decide +kernel) rfl rfl (Nat.le_of_ble_eq_true rfl) dd_X_init_62 (fun H locs hP hD hS => ?_)
  have hP : va_P (dC, dI) vcl [(h0, .inr (0, [.ref q_1, .ref (u_5 0), .ref q_7, .ref q_4, .ref q_10, .null, .int 0, .int 0])), (q_1, .inr (2, [.ref u_2, .int 0])), (u_2, .inl (cB, 4096, .inl (fun _ => 0))), (q_4, .inr (4, [.ref (u_5 0), .int 0, .int (-1), .int 0, .int (-1)])), ((u_5 0), .inr (2, [.ref (u_5 1), .int 0])), ((u_5 1), .inl (cB, 4096, .inl (fun _ => 0))), (q_7, .inr (2, [.ref u_8, .int 0])), (u_8, .inl (cB, 320, .inl (fun _ => 0))), (q_10, .inr (3, [.int 0, .int 0, .int 0, .int 0, .ref (u_11 0), .ref (u_11 1), .ref (u_11 2), .ref (u_11 3), .ref (u_11 4), .ref (u_11 5)])), ((u_11 0), .inl (cI, 8, .inl (fun _ => 0))), ((u_11 1), .inl (cI, 16, .inl (fun _ => 0))), ((u_11 2), .inl (cI, 16, .inl (fun _ => 0))), ((u_11 3), .inl (cJ, 16, .inr (.inl (fun _ => 0)))), ((u_11 4), .inl (cI, 16, .inl (fun _ => 0))), ((u_11 5), .inl (cI, 16, .inl (fun _ => 0)))] H := hP
  have hD : va_D A [(h0, .inr (0, [.ref q_1, .ref (u_5 0), .ref q_7, .ref q_4, .ref q_10, .null, .int 0, .int 0])), (q_1, .inr (2, [.ref u_2, .int 0])), (u_2, .inl (cB, 4096, .inl (fun _ => 0))), (q_4, .inr (4, [.ref (u_5 0), .int 0, .int (-1), .int 0, .int (-1)])), ((u_5 0), .inr (2, [.ref (u_5 1), .int 0])), ((u_5 1), .inl (cB, 4096, .inl (fun _ => 0))), (q_7, .inr (2, [.ref u_8, .int 0])), (u_8, .inl (cB, 320, .inl (fun _ => 0))), (q_10, .inr (3, [.int 0, .int 0, .int 0, .int 0, .ref (u_11 0), .ref (u_11 1), .ref (u_11 2), .ref (u_11 3), .ref (u_11 4), .ref (u_11 5)])), ((u_11 0), .inl (cI, 8, .inl (fun _ => 0))), ((u_11 1), .inl (cI, 16, .inl (fun _ => 0))), ((u_11 2), .inl (cI, 16, .inl (fun _ => 0))), ((u_11 3), .inl (cJ, 16, .inr (.inl (fun _ => 0)))), ((u_11 4), .inl (cI, 16, .inl (fun _ => 0))), ((u_11 5), .inl (cI, 16, .inl (fun _ => 0)))] := hD
  refine lv_aload_n hx hb dd_X_init_65 rfl (lv_at hl 0 rfl) ?_
  refine va_new (ci := 3) (fs := [.int 0, .int 0, .int 0, .int 0, .null, .null, .null, .null, .null, .null]) (C := RR_C) (T := TT_C) (N := 10) hx hb hw hh_C ty_C ty_C_ok hown (hw _ qq_70) (hw _ qq_71) (hw _ qq_4) hK hP hD hS hA rfl (by decide +kernel) (by first | exact Nat.le_of_ble_eq_true rfl | (simp only [headSpec]; omega)) (by first | exact Nat.le_of_ble_eq_true rfl | (simp only [headSpec]; omega)) dd_X_init_66 (fun q_13 H hP hD hS => ?_)
  have hP : va_P (dC, dI) vcl [(h0, .inr (0, [.ref q_1, .ref (u_5 0), .ref q_7, .ref q_4, .ref q_10, .null, .int 0, .int 0])), (q_1, .inr (2, [.ref u_2, .int 0])), (u_2, .inl (cB, 4096, .inl (fun _ => 0))), (q_4, .inr (4, [.ref (u_5 0), .int 0, .int (-1), .int 0, .int (-1)])), ((u_5 0), .inr (2, [.ref (u_5 1), .int 0])), ((u_5 1), .inl (cB, 4096, .inl (fun _ => 0))), (q_7, .inr (2, [.ref u_8, .int 0])), (u_8, .inl (cB, 320, .inl (fun _ => 0))), (q_10, .inr (3, [.int 0, .int 0, .int 0, .int 0, .ref (u_11 0), .ref (u_11 1), .ref (u_11 2), .ref (u_11 3), .ref (u_11 4), .ref (u_11 5)])), ((u_11 0), .inl (cI, 8, .inl (fun _ => 0))), ((u_11 1), .inl (cI, 16, .inl (fun _ => 0))), ((u_11 2), .inl (cI, 16, .inl (fun _ => 0))), ((u_11 3), .inl (cJ, 16, .inr (.inl (fun _ => 0)))), ((u_11 4), .inl (cI, 16, .inl (fun _ => 0))), ((u_11 5), .inl (cI, 16, .inl (fun _ => 0))), (q_13, .inr (3, [.int 0, .int 0, .int 0, .int 0, .null, .null, .null, .null, .null, .null]))] H := hP
  have hD : va_D A [(h0, .inr (0, [.ref q_1, .ref (u_5 0), .ref q_7, .ref q_4, .ref q_10, .null, .int 0, .int 0])), (q_1, .inr (2, [.ref u_2, .int 0])), (u_2, .inl (cB, 4096, .inl (fun _ => 0))), (q_4, .inr (4, [.ref (u_5 0), .int 0, .int (-1), .int 0, .int (-1)])), ((u_5 0), .inr (2, [.ref (u_5 1), .int 0])), ((u_5 1), .inl (cB, 4096, .inl (fun _ => 0))), (q_7, .inr (2, [.ref u_8, .int 0])), (u_8, .inl (cB, 320, .inl (fun _ => 0))), (q_10, .inr (3, [.int 0, .int 0, .int 0, .int 0, .ref (u_11 0), .ref (u_11 1), .ref (u_11 2), .ref (u_11 3), .ref (u_11 4), .ref (u_11 5)])), ((u_11 0), .inl (cI, 8, .inl (fun _ => 0))), ((u_11 1), .inl (cI, 16, .inl (fun _ => 0))), ((u_11 2), .inl (cI, 16, .inl (fun _ => 0))), ((u_11 3), .inl (cJ, 16, .inr (.inl (fun _ => 0)))), ((u_11 4), .inl (cI, 16, .inl (fun _ => 0))), ((u_11 5), .inl (cI, 16, .inl (fun _ => 0))), (q_13, .inr (3, [.int 0, .int 0, .int 0, .int 0, .null, .null, .null, .null, .null, .null]))] := hD
  refine W.widen (k := 15) (n := 8631) (by first | exact Nat.le_refl _ | omega) (by first | exact Nat.le_refl _ | omega) ?_
  refine lv_dup hx hb dd_X_init_69 rfl ?_
  have hPc := hP.sub (ws' := [(q_13, .inr (3, [.int 0, .int 0, .int 0, .int 0, .null, .null, .null, .null, .null, .null]))]) [15] rfl
  have hDc := hD.sub (ws' := [(q_13, .inr (3, [.int 0, .int 0, .int 0, .int 0, .null, .null, .null, .null, .null, .null]))]) [15] (by decide) rfl
  have hFc := va_free (wc := [(q_13, .inr (3, [.int 0, .int 0, .int 0, .int 0, .null, .null, .null, .null, .null, .null]))]) hD hS hA [15] rfl
  refine va_callv (va_runI (As := []) (rest := [.ref q_13, .ref h0]) ⟨hx, hb, hml, hown, hw⟩ (cb_C_init l dC dI cB cI cJ H.size q_13) (kw_I 0 hw qq_72 qq_4 qq_74 qq_73 rfl rfl rfl (by decide +kernel) ⟨Nat.le_of_ble_eq_true rfl, Nat.le_of_ble_eq_true rfl⟩) ⟨fun a U g mk q => by obtain ⟨q0, q1, qP, qK, qD⟩ := q; exact ⟨q0, q1, qP, va_K.moved (u := U) (U := U.calling g mk a) (Vm.Alike.refl U.vm) qK, qD⟩, fun U hU hW => ⟨rfl, by rw [hU], by rw [hU]; exact hPc, va_K.moved hW.alike hK, hDc.weaken (fun _ _ _ _ => trivial)⟩⟩ rfl rfl hl.1 rfl (lv_room (Nat.le_of_ble_eq_true rfl)) dd_X_init_70 ⟨by first | exact Nat.le_of_ble_eq_true rfl | (simp only [headSpec]; omega), by first | exact Nat.le_of_ble_eq_true rfl | (simp only [headSpec]; omega)⟩) hS (fun q _ h => hFc q h) hFc (fun u_14 t H1 locs ht hvm hq_15 hB hz1 hk1 hS => ?_)
  obtain ⟨hP1, hK1, hD1⟩ := hB
  rw [ht] at hP1
  obtain ⟨hP, hD⟩ := va_join (wr := [(h0, .inr (0, [.ref q_1, .ref (u_5 0), .ref q_7, .ref q_4, .ref q_10, .null, .int 0, .int 0])), (q_1, .inr (2, [.ref u_2, .int 0])), (u_2, .inl (cB, 4096, .inl (fun _ => 0))), (q_4, .inr (4, [.ref (u_5 0), .int 0, .int (-1), .int 0, .int (-1)])), ((u_5 0), .inr (2, [.ref (u_5 1), .int 0])), ((u_5 1), .inl (cB, 4096, .inl (fun _ => 0))), (q_7, .inr (2, [.ref u_8, .int 0])), (u_8, .inl (cB, 320, .inl (fun _ => 0))), (q_10, .inr (3, [.int 0, .int 0, .int 0, .int 0, .ref (u_11 0), .ref (u_11 1), .ref (u_11 2), .ref (u_11 3), .ref (u_11 4), .ref (u_11 5)])), ((u_11 0), .inl (cI, 8, .inl (fun _ => 0))), ((u_11 1), .inl (cI, 16, .inl (fun _ => 0))), ((u_11 2), .inl (cI, 16, .inl (fun _ => 0))), ((u_11 3), .inl (cJ, 16, .inr (.inl (fun _ => 0)))), ((u_11 4), .inl (cI, 16, .inl (fun _ => 0))), ((u_11 5), .inl (cI, 16, .inl (fun _ => 0)))]) (w1 := [(q_13, .inr (3, [.int 0, .int 0, .int 0, .int 0, .ref (u_14 0), .ref (u_14 1), .ref (u_14 2), .ref (u_14 3), .ref (u_14 4), .ref (u_14 5)])), ((u_14 0), .inl (cI, 8, .inl (fun _ => 0))), ((u_14 1), .inl (cI, 16, .inl (fun _ => 0))), ((u_14 2), .inl (cI, 16, .inl (fun _ => 0))), ((u_14 3), .inl (cJ, 16, .inr (.inl (fun _ => 0)))), ((u_14 4), .inl (cI, 16, .inl (fun _ => 0))), ((u_14 5), .inl (cI, 16, .inl (fun _ => 0)))]) hP hD [15] [0, 1, 2, 3, 4, 5, 6, 7, 8, 9, 10, 11, 12, 13, 14] rfl rfl (by decide) (by decide) hk1 hFc hP1 hD1
  clear hP1 hK1 hD1 ht hvm hz1 hk1 hPc hDc hFc
  generalize H1 = H at hP hS ⊢
  have hP : va_P (dC, dI) vcl [(h0, .inr (0, [.ref q_1, .ref (u_5 0), .ref q_7, .ref q_4, .ref q_10, .null, .int 0, .int 0])), (q_1, .inr (2, [.ref u_2, .int 0])), (u_2, .inl (cB, 4096, .inl (fun _ => 0))), (q_4, .inr (4, [.ref (u_5 0), .int 0, .int (-1), .int 0, .int (-1)])), ((u_5 0), .inr (2, [.ref (u_5 1), .int 0])), ((u_5 1), .inl (cB, 4096, .inl (fun _ => 0))), (q_7, .inr (2, [.ref u_8, .int 0])), (u_8, .inl (cB, 320, .inl (fun _ => 0))), (q_10, .inr (3, [.int 0, .int 0, .int 0, .int 0, .ref (u_11 0), .ref (u_11 1), .ref (u_11 2), .ref (u_11 3), .ref (u_11 4), .ref (u_11 5)])), ((u_11 0), .inl (cI, 8, .inl (fun _ => 0))), ((u_11 1), .inl (cI, 16, .inl (fun _ => 0))), ((u_11 2), .inl (cI, 16, .inl (fun _ => 0))), ((u_11 3), .inl (cJ, 16, .inr (.inl (fun _ => 0)))), ((u_11 4), .inl (cI, 16, .inl (fun _ => 0))), ((u_11 5), .inl (cI, 16, .inl (fun _ => 0))), (q_13, .inr (3, [.int 0, .int 0, .int 0, .int 0, .ref (u_14 0), .ref (u_14 1), .ref (u_14 2), .ref (u_14 3), .ref (u_14 4), .ref (u_14 5)])), ((u_14 0), .inl (cI, 8, .inl (fun _ => 0))), ((u_14 1), .inl (cI, 16, .inl (fun _ => 0))), ((u_14 2), .inl (cI, 16, .inl (fun _ => 0))), ((u_14 3), .inl (cJ, 16, .inr (.inl (fun _ => 0)))), ((u_14 4), .inl (cI, 16, .inl (fun _ => 0))), ((u_14 5), .inl (cI, 16, .inl (fun _ => 0)))] H := hP
  have hD : va_D A [(h0, .inr (0, [.ref q_1, .ref (u_5 0), .ref q_7, .ref q_4, .ref q_10, .null, .int 0, .int 0])), (q_1, .inr (2, [.ref u_2, .int 0])), (u_2, .inl (cB, 4096, .inl (fun _ => 0))), (q_4, .inr (4, [.ref (u_5 0), .int 0, .int (-1), .int 0, .int (-1)])), ((u_5 0), .inr (2, [.ref (u_5 1), .int 0])), ((u_5 1), .inl (cB, 4096, .inl (fun _ => 0))), (q_7, .inr (2, [.ref u_8, .int 0])), (u_8, .inl (cB, 320, .inl (fun _ => 0))), (q_10, .inr (3, [.int 0, .int 0, .int 0, .int 0, .ref (u_11 0), .ref (u_11 1), .ref (u_11 2), .ref (u_11 3), .ref (u_11 4), .ref (u_11 5)])), ((u_11 0), .inl (cI, 8, .inl (fun _ => 0))), ((u_11 1), .inl (cI, 16, .inl (fun _ => 0))), ((u_11 2), .inl (cI, 16, .inl (fun _ => 0))), ((u_11 3), .inl (cJ, 16, .inr (.inl (fun _ => 0)))), ((u_11 4), .inl (cI, 16, .inl (fun _ => 0))), ((u_11 5), .inl (cI, 16, .inl (fun _ => 0))), (q_13, .inr (3, [.int 0, .int 0, .int 0, .int 0, .ref (u_14 0), .ref (u_14 1), .ref (u_14 2), .ref (u_14 3), .ref (u_14 4), .ref (u_14 5)])), ((u_14 0), .inl (cI, 8, .inl (fun _ => 0))), ((u_14 1), .inl (cI, 16, .inl (fun _ => 0))), ((u_14 2), .inl (cI, 16, .inl (fun _ => 0))), ((u_14 3), .inl (cJ, 16, .inr (.inl (fun _ => 0)))), ((u_14 4), .inl (cI, 16, .inl (fun _ => 0))), ((u_14 5), .inl (cI, 16, .inl (fun _ => 0)))] := hD
  refine W.widen (k := 21) (n := 8719) (by first | exact Nat.le_refl _ | omega) (by first | exact Nat.le_refl _ | omega) ?_
  refine va_put (D := (dC, dI)) (ci := 0) (v := .ref q_13) (ty := .object "ChangeCodec$Change") (C := RR_X) (T := TT_X) (N := 8) hx hb hw hh_X ty_X ty_X_ok nm_X hown hK hP hD hS 0 rfl rfl 5 (by decide) (hw _ qq_127) (fun _ h9 => h9) rfl (by decide +kernel) rfl rfl (Nat.le_of_ble_eq_true rfl) dd_X_init_73 (fun H locs hP hD hS => ?_)
  have hP : va_P (dC, dI) vcl [(h0, .inr (0, [.ref q_1, .ref (u_5 0), .ref q_7, .ref q_4, .ref q_10, .ref q_13, .int 0, .int 0])), (q_1, .inr (2, [.ref u_2, .int 0])), (u_2, .inl (cB, 4096, .inl (fun _ => 0))), (q_4, .inr (4, [.ref (u_5 0), .int 0, .int (-1), .int 0, .int (-1)])), ((u_5 0), .inr (2, [.ref (u_5 1), .int 0])), ((u_5 1), .inl (cB, 4096, .inl (fun _ => 0))), (q_7, .inr (2, [.ref u_8, .int 0])), (u_8, .inl (cB, 320, .inl (fun _ => 0))), (q_10, .inr (3, [.int 0, .int 0, .int 0, .int 0, .ref (u_11 0), .ref (u_11 1), .ref (u_11 2), .ref (u_11 3), .ref (u_11 4), .ref (u_11 5)])), ((u_11 0), .inl (cI, 8, .inl (fun _ => 0))), ((u_11 1), .inl (cI, 16, .inl (fun _ => 0))), ((u_11 2), .inl (cI, 16, .inl (fun _ => 0))), ((u_11 3), .inl (cJ, 16, .inr (.inl (fun _ => 0)))), ((u_11 4), .inl (cI, 16, .inl (fun _ => 0))), ((u_11 5), .inl (cI, 16, .inl (fun _ => 0))), (q_13, .inr (3, [.int 0, .int 0, .int 0, .int 0, .ref (u_14 0), .ref (u_14 1), .ref (u_14 2), .ref (u_14 3), .ref (u_14 4), .ref (u_14 5)])), ((u_14 0), .inl (cI, 8, .inl (fun _ => 0))), ((u_14 1), .inl (cI, 16, .inl (fun _ => 0))), ((u_14 2), .inl (cI, 16, .inl (fun _ => 0))), ((u_14 3), .inl (cJ, 16, .inr (.inl (fun _ => 0)))), ((u_14 4), .inl (cI, 16, .inl (fun _ => 0))), ((u_14 5), .inl (cI, 16, .inl (fun _ => 0)))] H := hP
  have hD : va_D A [(h0, .inr (0, [.ref q_1, .ref (u_5 0), .ref q_7, .ref q_4, .ref q_10, .ref q_13, .int 0, .int 0])), (q_1, .inr (2, [.ref u_2, .int 0])), (u_2, .inl (cB, 4096, .inl (fun _ => 0))), (q_4, .inr (4, [.ref (u_5 0), .int 0, .int (-1), .int 0, .int (-1)])), ((u_5 0), .inr (2, [.ref (u_5 1), .int 0])), ((u_5 1), .inl (cB, 4096, .inl (fun _ => 0))), (q_7, .inr (2, [.ref u_8, .int 0])), (u_8, .inl (cB, 320, .inl (fun _ => 0))), (q_10, .inr (3, [.int 0, .int 0, .int 0, .int 0, .ref (u_11 0), .ref (u_11 1), .ref (u_11 2), .ref (u_11 3), .ref (u_11 4), .ref (u_11 5)])), ((u_11 0), .inl (cI, 8, .inl (fun _ => 0))), ((u_11 1), .inl (cI, 16, .inl (fun _ => 0))), ((u_11 2), .inl (cI, 16, .inl (fun _ => 0))), ((u_11 3), .inl (cJ, 16, .inr (.inl (fun _ => 0)))), ((u_11 4), .inl (cI, 16, .inl (fun _ => 0))), ((u_11 5), .inl (cI, 16, .inl (fun _ => 0))), (q_13, .inr (3, [.int 0, .int 0, .int 0, .int 0, .ref (u_14 0), .ref (u_14 1), .ref (u_14 2), .ref (u_14 3), .ref (u_14 4), .ref (u_14 5)])), ((u_14 0), .inl (cI, 8, .inl (fun _ => 0))), ((u_14 1), .inl (cI, 16, .inl (fun _ => 0))), ((u_14 2), .inl (cI, 16, .inl (fun _ => 0))), ((u_14 3), .inl (cJ, 16, .inr (.inl (fun _ => 0)))), ((u_14 4), .inl (cI, 16, .inl (fun _ => 0))), ((u_14 5), .inl (cI, 16, .inl (fun _ => 0)))] := hD
  refine lv_aload_n hx hb dd_X_init_76 rfl (lv_at hl 0 rfl) ?_
  refine lv_iconst (v := 0) hx hb dd_X_init_77 (by decide) ?_
  refine va_put (D := (dC, dI)) (ci := 0) (v := .int 0) (ty := .boolean) (C := RR_X) (T := TT_X) (N := 8) hx hb hw hh_X ty_X ty_X_ok nm_X hown hK hP hD hS 0 rfl rfl 6 (by decide) (hw _ qq_128) (fun _ h9 => h9) rfl (by decide +kernel) rfl rfl (Nat.le_of_ble_eq_true rfl) dd_X_init_78 (fun H locs hP hD hS => ?_)
  have hP : va_P (dC, dI) vcl [(h0, .inr (0, [.ref q_1, .ref (u_5 0), .ref q_7, .ref q_4, .ref q_10, .ref q_13, .int 0, .int 0])), (q_1, .inr (2, [.ref u_2, .int 0])), (u_2, .inl (cB, 4096, .inl (fun _ => 0))), (q_4, .inr (4, [.ref (u_5 0), .int 0, .int (-1), .int 0, .int (-1)])), ((u_5 0), .inr (2, [.ref (u_5 1), .int 0])), ((u_5 1), .inl (cB, 4096, .inl (fun _ => 0))), (q_7, .inr (2, [.ref u_8, .int 0])), (u_8, .inl (cB, 320, .inl (fun _ => 0))), (q_10, .inr (3, [.int 0, .int 0, .int 0, .int 0, .ref (u_11 0), .ref (u_11 1), .ref (u_11 2), .ref (u_11 3), .ref (u_11 4), .ref (u_11 5)])), ((u_11 0), .inl (cI, 8, .inl (fun _ => 0))), ((u_11 1), .inl (cI, 16, .inl (fun _ => 0))), ((u_11 2), .inl (cI, 16, .inl (fun _ => 0))), ((u_11 3), .inl (cJ, 16, .inr (.inl (fun _ => 0)))), ((u_11 4), .inl (cI, 16, .inl (fun _ => 0))), ((u_11 5), .inl (cI, 16, .inl (fun _ => 0))), (q_13, .inr (3, [.int 0, .int 0, .int 0, .int 0, .ref (u_14 0), .ref (u_14 1), .ref (u_14 2), .ref (u_14 3), .ref (u_14 4), .ref (u_14 5)])), ((u_14 0), .inl (cI, 8, .inl (fun _ => 0))), ((u_14 1), .inl (cI, 16, .inl (fun _ => 0))), ((u_14 2), .inl (cI, 16, .inl (fun _ => 0))), ((u_14 3), .inl (cJ, 16, .inr (.inl (fun _ => 0)))), ((u_14 4), .inl (cI, 16, .inl (fun _ => 0))), ((u_14 5), .inl (cI, 16, .inl (fun _ => 0)))] H := hP
  have hD : va_D A [(h0, .inr (0, [.ref q_1, .ref (u_5 0), .ref q_7, .ref q_4, .ref q_10, .ref q_13, .int 0, .int 0])), (q_1, .inr (2, [.ref u_2, .int 0])), (u_2, .inl (cB, 4096, .inl (fun _ => 0))), (q_4, .inr (4, [.ref (u_5 0), .int 0, .int (-1), .int 0, .int (-1)])), ((u_5 0), .inr (2, [.ref (u_5 1), .int 0])), ((u_5 1), .inl (cB, 4096, .inl (fun _ => 0))), (q_7, .inr (2, [.ref u_8, .int 0])), (u_8, .inl (cB, 320, .inl (fun _ => 0))), (q_10, .inr (3, [.int 0, .int 0, .int 0, .int 0, .ref (u_11 0), .ref (u_11 1), .ref (u_11 2), .ref (u_11 3), .ref (u_11 4), .ref (u_11 5)])), ((u_11 0), .inl (cI, 8, .inl (fun _ => 0))), ((u_11 1), .inl (cI, 16, .inl (fun _ => 0))), ((u_11 2), .inl (cI, 16, .inl (fun _ => 0))), ((u_11 3), .inl (cJ, 16, .inr (.inl (fun _ => 0)))), ((u_11 4), .inl (cI, 16, .inl (fun _ => 0))), ((u_11 5), .inl (cI, 16, .inl (fun _ => 0))), (q_13, .inr (3, [.int 0, .int 0, .int 0, .int 0, .ref (u_14 0), .ref (u_14 1), .ref (u_14 2), .ref (u_14 3), .ref (u_14 4), .ref (u_14 5)])), ((u_14 0), .inl (cI, 8, .inl (fun _ => 0))), ((u_14 1), .inl (cI, 16, .inl (fun _ => 0))), ((u_14 2), .inl (cI, 16, .inl (fun _ => 0))), ((u_14 3), .inl (cJ, 16, .inr (.inl (fun _ => 0)))), ((u_14 4), .inl (cI, 16, .inl (fun _ => 0))), ((u_14 5), .inl (cI, 16, .inl (fun _ => 0)))] := hD
  refine lv_aload_n hx hb dd_X_init_81 rfl (lv_at hl 0 rfl) ?_
  refine lv_iconst (v := 0) hx hb dd_X_init_82 (by decide) ?_
  refine va_put (D := (dC, dI)) (ci := 0) (v := .int 0) (ty := .int) (C := RR_X) (T := TT_X) (N := 8) hx hb hw hh_X ty_X ty_X_ok nm_X hown hK hP hD hS 0 rfl rfl 7 (by decide) (hw _ qq_129) (fun _ h9 => h9) rfl (by decide +kernel) rfl rfl (Nat.le_of_ble_eq_true rfl) dd_X_init_83 (fun H locs hP hD hS => ?_)
  have hP : va_P (dC, dI) vcl [(h0, .inr (0, [.ref q_1, .ref (u_5 0), .ref q_7, .ref q_4, .ref q_10, .ref q_13, .int 0, .int 0])), (q_1, .inr (2, [.ref u_2, .int 0])), (u_2, .inl (cB, 4096, .inl (fun _ => 0))), (q_4, .inr (4, [.ref (u_5 0), .int 0, .int (-1), .int 0, .int (-1)])), ((u_5 0), .inr (2, [.ref (u_5 1), .int 0])), ((u_5 1), .inl (cB, 4096, .inl (fun _ => 0))), (q_7, .inr (2, [.ref u_8, .int 0])), (u_8, .inl (cB, 320, .inl (fun _ => 0))), (q_10, .inr (3, [.int 0, .int 0, .int 0, .int 0, .ref (u_11 0), .ref (u_11 1), .ref (u_11 2), .ref (u_11 3), .ref (u_11 4), .ref (u_11 5)])), ((u_11 0), .inl (cI, 8, .inl (fun _ => 0))), ((u_11 1), .inl (cI, 16, .inl (fun _ => 0))), ((u_11 2), .inl (cI, 16, .inl (fun _ => 0))), ((u_11 3), .inl (cJ, 16, .inr (.inl (fun _ => 0)))), ((u_11 4), .inl (cI, 16, .inl (fun _ => 0))), ((u_11 5), .inl (cI, 16, .inl (fun _ => 0))), (q_13, .inr (3, [.int 0, .int 0, .int 0, .int 0, .ref (u_14 0), .ref (u_14 1), .ref (u_14 2), .ref (u_14 3), .ref (u_14 4), .ref (u_14 5)])), ((u_14 0), .inl (cI, 8, .inl (fun _ => 0))), ((u_14 1), .inl (cI, 16, .inl (fun _ => 0))), ((u_14 2), .inl (cI, 16, .inl (fun _ => 0))), ((u_14 3), .inl (cJ, 16, .inr (.inl (fun _ => 0)))), ((u_14 4), .inl (cI, 16, .inl (fun _ => 0))), ((u_14 5), .inl (cI, 16, .inl (fun _ => 0)))] H := hP
  have hD : va_D A [(h0, .inr (0, [.ref q_1, .ref (u_5 0), .ref q_7, .ref q_4, .ref q_10, .ref q_13, .int 0, .int 0])), (q_1, .inr (2, [.ref u_2, .int 0])), (u_2, .inl (cB, 4096, .inl (fun _ => 0))), (q_4, .inr (4, [.ref (u_5 0), .int 0, .int (-1), .int 0, .int (-1)])), ((u_5 0), .inr (2, [.ref (u_5 1), .int 0])), ((u_5 1), .inl (cB, 4096, .inl (fun _ => 0))), (q_7, .inr (2, [.ref u_8, .int 0])), (u_8, .inl (cB, 320, .inl (fun _ => 0))), (q_10, .inr (3, [.int 0, .int 0, .int 0, .int 0, .ref (u_11 0), .ref (u_11 1), .ref (u_11 2), .ref (u_11 3), .ref (u_11 4), .ref (u_11 5)])), ((u_11 0), .inl (cI, 8, .inl (fun _ => 0))), ((u_11 1), .inl (cI, 16, .inl (fun _ => 0))), ((u_11 2), .inl (cI, 16, .inl (fun _ => 0))), ((u_11 3), .inl (cJ, 16, .inr (.inl (fun _ => 0)))), ((u_11 4), .inl (cI, 16, .inl (fun _ => 0))), ((u_11 5), .inl (cI, 16, .inl (fun _ => 0))), (q_13, .inr (3, [.int 0, .int 0, .int 0, .int 0, .ref (u_14 0), .ref (u_14 1), .ref (u_14 2), .ref (u_14 3), .ref (u_14 4), .ref (u_14 5)])), ((u_14 0), .inl (cI, 8, .inl (fun _ => 0))), ((u_14 1), .inl (cI, 16, .inl (fun _ => 0))), ((u_14 2), .inl (cI, 16, .inl (fun _ => 0))), ((u_14 3), .inl (cJ, 16, .inr (.inl (fun _ => 0)))), ((u_14 4), .inl (cI, 16, .inl (fun _ => 0))), ((u_14 5), .inl (cI, 16, .inl (fun _ => 0)))] := hD
  have hP9 := hP.sub (ws' := [(h0, .inr (0, [.ref q_1, .ref (u_5 0), .ref q_7, .ref q_4, .ref q_10, .ref q_13, .int 0, .int 0])), (q_1, .inr (2, [.ref u_2, .int 0])), (u_2, .inl (cB, 4096, .inl (fun _ => 0))), ((u_5 0), .inr (2, [.ref (u_5 1), .int 0])), ((u_5 1), .inl (cB, 4096, .inl (fun _ => 0))), (q_7, .inr (2, [.ref u_8, .int 0])), (u_8, .inl (cB, 320, .inl (fun _ => 0))), (q_4, .inr (4, [.ref (u_5 0), .int 0, .int (-1), .int 0, .int (-1)])), (q_10, .inr (3, [.int 0, .int 0, .int 0, .int 0, .ref (u_11 0), .ref (u_11 1), .ref (u_11 2), .ref (u_11 3), .ref (u_11 4), .ref (u_11 5)])), ((u_11 0), .inl (cI, 8, .inl (fun _ => 0))), ((u_11 1), .inl (cI, 16, .inl (fun _ => 0))), ((u_11 2), .inl (cI, 16, .inl (fun _ => 0))), ((u_11 3), .inl (cJ, 16, .inr (.inl (fun _ => 0)))), ((u_11 4), .inl (cI, 16, .inl (fun _ => 0))), ((u_11 5), .inl (cI, 16, .inl (fun _ => 0))), (q_13, .inr (3, [.int 0, .int 0, .int 0, .int 0, .ref (u_14 0), .ref (u_14 1), .ref (u_14 2), .ref (u_14 3), .ref (u_14 4), .ref (u_14 5)])), ((u_14 0), .inl (cI, 8, .inl (fun _ => 0))), ((u_14 1), .inl (cI, 16, .inl (fun _ => 0))), ((u_14 2), .inl (cI, 16, .inl (fun _ => 0))), ((u_14 3), .inl (cJ, 16, .inr (.inl (fun _ => 0)))), ((u_14 4), .inl (cI, 16, .inl (fun _ => 0))), ((u_14 5), .inl (cI, 16, .inl (fun _ => 0)))]) [0, 1, 2, 4, 5, 6, 7, 3, 8, 9, 10, 11, 12, 13, 14, 15, 16, 17, 18, 19, 20, 21] rfl
  have hD9 := hD.sub (ws' := [(h0, .inr (0, [.ref q_1, .ref (u_5 0), .ref q_7, .ref q_4, .ref q_10, .ref q_13, .int 0, .int 0])), (q_1, .inr (2, [.ref u_2, .int 0])), (u_2, .inl (cB, 4096, .inl (fun _ => 0))), ((u_5 0), .inr (2, [.ref (u_5 1), .int 0])), ((u_5 1), .inl (cB, 4096, .inl (fun _ => 0))), (q_7, .inr (2, [.ref u_8, .int 0])), (u_8, .inl (cB, 320, .inl (fun _ => 0))), (q_4, .inr (4, [.ref (u_5 0), .int 0, .int (-1), .int 0, .int (-1)])), (q_10, .inr (3, [.int 0, .int 0, .int 0, .int 0, .ref (u_11 0), .ref (u_11 1), .ref (u_11 2), .ref (u_11 3), .ref (u_11 4), .ref (u_11 5)])), ((u_11 0), .inl (cI, 8, .inl (fun _ => 0))), ((u_11 1), .inl (cI, 16, .inl (fun _ => 0))), ((u_11 2), .inl (cI, 16, .inl (fun _ => 0))), ((u_11 3), .inl (cJ, 16, .inr (.inl (fun _ => 0)))), ((u_11 4), .inl (cI, 16, .inl (fun _ => 0))), ((u_11 5), .inl (cI, 16, .inl (fun _ => 0))), (q_13, .inr (3, [.int 0, .int 0, .int 0, .int 0, .ref (u_14 0), .ref (u_14 1), .ref (u_14 2), .ref (u_14 3), .ref (u_14 4), .ref (u_14 5)])), ((u_14 0), .inl (cI, 8, .inl (fun _ => 0))), ((u_14 1), .inl (cI, 16, .inl (fun _ => 0))), ((u_14 2), .inl (cI, 16, .inl (fun _ => 0))), ((u_14 3), .inl (cJ, 16, .inr (.inl (fun _ => 0)))), ((u_14 4), .inl (cI, 16, .inl (fun _ => 0))), ((u_14 5), .inl (cI, 16, .inl (fun _ => 0)))]) [0, 1, 2, 4, 5, 6, 7, 3, 8, 9, 10, 11, 12, 13, 14, 15, 16, 17, 18, 19, 20, 21] (by decide) rfl
  refine W.widen (k := 21) (n := 8719) (by first | exact Nat.le_refl _ | omega) (by first | exact Nat.le_refl _ | omega) ?_
  exact W.vret hx hb hr (fun t ht hW => ⟨⟨(fun j => match j with | 0 => q_1 | 1 => u_2 | 2 => (u_5 0) | 3 => (u_5 1) | 4 => q_7 | 5 => u_8 | 6 => q_4 | 7 => q_10 | 8 => (u_11 0) | 9 => (u_11 1) | 10 => (u_11 2) | 11 => (u_11 3) | 12 => (u_11 4) | 13 => (u_11 5) | 14 => q_13 | 15 => (u_14 0) | 16 => (u_14 1) | 17 => (u_14 2) | 18 => (u_14 3) | 19 => (u_14 4) | _ => (u_14 5)), rfl, trivial, by rw [ht]; exact hP9, va_K.moved hW.alike hK, hD9⟩, hS.F ht⟩) hS.2.2 dd_X_init_86

set_option maxHeartbeats 4000000 in
set_option maxRecDepth 100000 in
/-- ChangeCodecModel() -/
theorem cb_M_init (l : Launch) (dC : Nat → ClassId) (dI : Nat → Nat → Nat) (cB cI cJ : ClassId) (sz : Nat) (h0 : Nat) : Met l yy_M_init (Cond.code yy_M_init cc_M_init 1 none :: gw) { frames := 1, cells := 15, slots := 9768, locals := 12 } (va_Pc [.ref h0] (ks_pre dC dI [(cB, .byte), (cI, .int), (cJ, .long)] [(h0, .inr (1, [.int 0, .int 0, .int 0, .int 0, .int 0, .null, .int 0, .null, .null, .null, .null, .null, .int 0, .int 0, .int 0, .null, .int 0, .null, .null, .null, .null, .null, .null, .int 0, .null, .int 0, .int 0, .int 0, .int 0, .null, .int 0, .int 0, .int 0]))] sz)) (va_Qv (fun (u : Nat → Nat) => True) (fun (u : Nat → Nat) => ks_post dC dI [(cB, .byte), (cI, .int), (cJ, .long)] (va_A [(h0, .inr (1, [.int 0, .int 0, .int 0, .int 0, .int 0, .null, .int 0, .null, .null, .null, .null, .null, .int 0, .int 0, .int 0, .null, .int 0, .null, .null, .null, .null, .null, .null, .int 0, .null, .int 0, .int 0, .int 0, .int 0, .null, .int 0, .int 0, .int 0]))] sz) [(h0, .inr (1, [.int 0, .int 0, .int 0, .int 0, .int 0, .ref (u 0), .int 0, .ref (u 1), .ref (u 2), .ref (u 3), .ref (u 4), .ref (u 5), .int 0, .int 0, .int 0, .ref (u 6), .int 0, .ref (u 7), .ref (u 8), .ref (u 9), .ref (u 10), .ref (u 11), .ref (u 12), .int 0, .ref (u 13), .int 0, .int 0, .int 0, .int (-1), .ref (u 14), .int 0, .int 0, .int 0])), ((u 0), .inl (cI, 8, .inl (fun _ => 0))), ((u 1), .inl (cI, 16, .inl (fun _ => 0))), ((u 2), .inl (cI, 16, .inl (fun _ => 0))), ((u 3), .inl (cJ, 16, .inr (.inl (fun _ => 0)))), ((u 4), .inl (cI, 16, .inl (fun _ => 0))), ((u 5), .inl (cI, 16, .inl (fun _ => 0))), ((u 6), .inl (cI, 8, .inl (fun _ => 0))), ((u 7), .inl (cI, 16, .inl (fun _ => 0))), ((u 8), .inl (cI, 16, .inl (fun _ => 0))), ((u 9), .inl (cJ, 16, .inr (.inl (fun _ => 0)))), ((u 10), .inl (cI, 16, .inl (fun _ => 0))), ((u 11), .inl (cI, 16, .inl (fun _ => 0))), ((u 12), .inl (cB, 4096, .inl (fun _ => 0))), ((u 13), .inl (cB, 4096, .inl (fun _ => 0))), ((u 14), .inl (cB, 1400, .inl (fun _ => 0)))]) (va_A [(h0, .inr (1, [.int 0, .int 0, .int 0, .int 0, .int 0, .null, .int 0, .null, .null, .null, .null, .null, .int 0, .int 0, .int 0, .null, .int 0, .null, .null, .null, .null, .null, .null, .int 0, .null, .int 0, .int 0, .int 0, .int 0, .null, .int 0, .int 0, .int 0]))] sz)) 15 9768 (va_A [(h0, .inr (1, [.int 0, .int 0, .int 0, .int 0, .int 0, .null, .int 0, .null, .null, .null, .null, .null, .int 0, .int 0, .int 0, .null, .int 0, .null, .null, .null, .null, .null, .null, .int 0, .null, .int 0, .int 0, .int 0, .int 0, .null, .int 0, .int 0, .int 0]))] sz) := by
  refine Met.ofW (cc := cc_M_init) (maxL := 1) (ret := none) (by decide) rfl ?_
  intro p e s m args below meth c s₁ B hml hv
  obtain ⟨rfl, hsz, hP, hK, hD0⟩ := hv
  have hx := B.exec
  have hb := B.bytes
  have hr := B.returns
  have hw : ∀ w ∈ gw, w.before _ s = true := fun w h => atoms_spec (ws := (Cond.code yy_M_init cc_M_init 1 none :: gw)) B.pre w (List.mem_cons_of_mem _ h)
  have hown : s.vm.findClass RR_M = some m.cls := findClass_of_methodNamed B.named
  have hlocks := B.notSynchronized
  have hin : meth.name = "<init>" := (name_of_methodNamed B.named B.method).1
  subst hsz
  have hD := hD0.self (sz := s.heap.size)
  generalize hAe : va_A [(h0, .inr (1, [.int 0, .int 0, .int 0, .int 0, .int 0, .null, .int 0, .null, .null, .null, .null, .null, .int 0, .int 0, .int 0, .null, .int 0, .null, .null, .null, .null, .null, .null, .int 0, .null, .int 0, .int 0, .int 0, .int 0, .null, .int 0, .int 0, .int 0]))] s.heap.size = A at hD ⊢
  have hA : ∀ q : Nat, s.heap.size ≤ q → A q := fun q h => by rw [← hAe]; exact Or.inr h
  have hS : va_S A s.heap s.heap [] := va_S.rf
  have hP : va_P (dC, dI) vcl [(h0, .inr (1, [.int 0, .int 0, .int 0, .int 0, .int 0, .null, .int 0, .null, .null, .null, .null, .null, .int 0, .int 0, .int 0, .null, .int 0, .null, .null, .null, .null, .null, .null, .int 0, .null, .int 0, .int 0, .int 0, .int 0, .null, .int 0, .int 0, .int 0]))] s.heap := hP
  have hl := lv_entry ([.ref h0]) (n := 1) (Nat.le_of_ble_eq_true rfl)
  rw [lg_entry_eq]
  generalize (lg_sl ([.ref h0]) ++ List.replicate (1 - (lg_sl ([.ref h0])).length) Slot.unset).toArray = ls at hl ⊢
  have hl : lv_has ls 1 [(0, .ref h0)] := hl
  refine lv_aload_n hx hb dd_M_init_0 rfl (lv_at hl 0 rfl) ?_
  refine W.objInit hx hb hown (hw _ qq_578) (hw _ qq_23) (hw _ qq_24) rfl (by rw [hml]; exact hl.1) rfl dd_M_init_1 (Nat.le_of_ble_eq_true rfl) (Nat.le_of_ble_eq_true rfl) ?_
  refine W.eq (g2 := F0 m 4 ls []) rfl ?_
  refine lv_aload_n hx hb dd_M_init_4 rfl (lv_at hl 0 rfl) ?_
  refine lv_bipush (v := 8) hx hb dd_M_init_5 (by decide) ?_
  refine va_newa (atype := .int) (ty := .int) (N' := 8) (a0 := (8, .inl (fun _ => 0))) hx hb (hw _ qq_120) rfl hK hP hD hS hA (fun _ => rfl) (by decide) (by decide) (by first | decide | (simp only [componentBytes]; omega)) (by first | exact Nat.le_of_ble_eq_true rfl | (simp only [headSpec]; omega)) (by first | exact Nat.le_of_ble_eq_true rfl | (simp only [headSpec]; omega)) dd_M_init_7 (fun q_1 cA_2 H hK hP hD hS => ?_)
  obtain rfl : cI = cA_2 := ks_eqI hK 1 3 rfl rfl
  have hK : va_K (dC, dI) vcl [(cB, .byte), (cI, .int), (cJ, .long)] s := hK.sub [0, 1, 2] rfl
  have hP : va_P (dC, dI) vcl [(h0, .inr (1, [.int 0, .int 0, .int 0, .int 0, .int 0, .null, .int 0, .null, .null, .null, .null, .null, .int 0, .int 0, .int 0, .null, .int 0, .null, .null, .null, .null, .null, .null, .int 0, .null, .int 0, .int 0, .int 0, .int 0, .null, .int 0, .int 0, .int 0])), (q_1, .inl (cI, 8, .inl (fun _ => 0)))] H := hP
  have hD : va_D A [(h0, .inr (1, [.int 0, .int 0, .int 0, .int 0, .int 0, .null, .int 0, .null, .null, .null, .null, .null, .int 0, .int 0, .int 0, .null, .int 0, .null, .null, .null, .null, .null, .null, .int 0, .null, .int 0, .int 0, .int 0, .int 0, .null, .int 0, .int 0, .int 0])), (q_1, .inl (cI, 8, .inl (fun _ => 0)))] := hD
  refine W.widen (k := 1) (n := 8) (by first | exact Nat.le_refl _ | omega) (by first | exact Nat.le_refl _ | omega) ?_
  refine va_putF (D := (dC, dI)) (ci := 1) (v := .ref q_1) (ty := .array .int) (C := RR_M) (T := TT_M) (N := 33) hx hb hw hh_M ty_M ty_M_ok nm_M hown hK hP hD hS 0 rfl rfl 5 (by decide) (hw _ qq_584) (fun _ h9 => h9) rfl hin rfl (by decide +kernel) rfl rfl (Nat.le_of_ble_eq_true rfl) dd_M_init_9 (fun H locs hP hD hS => ?_)
  have hP : va_P (dC, dI) vcl [(h0, .inr (1, [.int 0, .int 0, .int 0, .int 0, .int 0, .ref q_1, .int 0, .null, .null, .null, .null, .null, .int 0, .int 0, .int 0, .null, .int 0, .null, .null, .null, .null, .null, .null, .int 0, .null, .int 0, .int 0, .int 0, .int 0, .null, .int 0, .int 0, .int 0])), (q_1, .inl (cI, 8, .inl (fun _ => 0)))] H := hP
  have hD : va_D A [(h0, .inr (1, [.int 0, .int 0, .int 0, .int 0, .int 0, .ref q_1, .int 0, .null, .null, .null, .null, .null, .int 0, .int 0, .int 0, .null, .int 0, .null, .null, .null, .null, .null, .null, .int 0, .null, .int 0, .int 0, .int 0, .int 0, .null, .int 0, .int 0, .int 0])), (q_1, .inl (cI, 8, .inl (fun _ => 0)))] := hD
  refine lv_aload_n hx hb dd_M_init_12 rfl (lv_at hl 0 rfl) ?_
  refine lv_bipush (v := 16) hx hb dd_M_init_13 (by decide) ?_
  refine va_newa (atype := .int) (ty := .int) (N' := 16) (a0 := (16, .inl (fun _ => 0))) hx hb (hw _ qq_120) rfl hK hP hD hS hA (fun _ => rfl) (by decide) (by decide) (by first | decide | (simp only [componentBytes]; omega)) (by first | exact Nat.le_of_ble_eq_true rfl | (simp only [headSpec]; omega)) (by first | exact Nat.le_of_ble_eq_true rfl | (simp only [headSpec]; omega)) dd_M_init_15 (fun q_3 cA_4 H hK hP hD hS => ?_)
  obtain rfl : cI = cA_4 := ks_eqI hK 1 3 rfl rfl
  have hK : va_K (dC, dI) vcl [(cB, .byte), (cI, .int), (cJ, .long)] s := hK.sub [0, 1, 2] rfl
  have hP : va_P (dC, dI) vcl [(h0, .inr (1, [.int 0, .int 0, .int 0, .int 0, .int 0, .ref q_1, .int 0, .null, .null, .null, .null, .null, .int 0, .int 0, .int 0, .null, .int 0, .null, .null, .null, .null, .null, .null, .int 0, .null, .int 0, .int 0, .int 0, .int 0, .null, .int 0, .int 0, .int 0])), (q_1, .inl (cI, 8, .inl (fun _ => 0))), (q_3, .inl (cI, 16, .inl (fun _ => 0)))] H := hP
  have hD : va_D A [(h0, .inr (1, [.int 0, .int 0, .int 0, .int 0, .int 0, .ref q_1, .int 0, .null, .null, .null, .null, .null, .int 0, .int 0, .int 0, .null, .int 0, .null, .null, .null, .null, .null, .null, .int 0, .null, .int 0, .int 0, .int 0, .int 0, .null, .int 0, .int 0, .int 0])), (q_1, .inl (cI, 8, .inl (fun _ => 0))), (q_3, .inl (cI, 16, .inl (fun _ => 0)))] := hD
  refine W.widen (k := 2) (n := 24) (by first | exact Nat.le_refl _ | omega) (by first | exact Nat.le_refl _ | omega) ?_
  refine va_putF (D := (dC, dI)) (ci := 1) (v := .ref q_3) (ty := .array .int) (C := RR_M) (T := TT_M) (N := 33) hx hb hw hh_M ty_M ty_M_ok nm_M hown hK hP hD hS 0 rfl rfl 7 (by decide) (hw _ qq_586) (fun _ h9 => h9) rfl hin rfl (by decide +kernel) rfl rfl (Nat.le_of_ble_eq_true rfl) dd_M_init_17 (fun H locs hP hD hS => ?_)
  have hP : va_P (dC, dI) vcl [(h0, .inr (1, [.int 0, .int 0, .int 0, .int 0, .int 0, .ref q_1, .int 0, .ref q_3, .null, .null, .null, .null, .int 0, .int 0, .int 0, .null, .int 0, .null, .null, .null, .null, .null, .null, .int 0, .null, .int 0, .int 0, .int 0, .int 0, .null, .int 0, .int 0, .int 0])), (q_1, .inl (cI, 8, .inl (fun _ => 0))), (q_3, .inl (cI, 16, .inl (fun _ => 0)))] H := hP
  have hD : va_D A [(h0, .inr (1, [.int 0, .int 0, .int 0, .int 0, .int 0, .ref q_1, .int 0, .ref q_3, .null, .null, .null, .null, .int 0, .int 0, .int 0, .null, .int 0, .null, .null, .null, .null, .null, .null, .int 0, .null, .int 0, .int 0, .int 0, .int 0, .null, .int 0, .int 0, .int 0])), (q_1, .inl (cI, 8, .inl (fun _ => 0))), (q_3, .inl (cI, 16, .inl (fun _ => 0)))] := hD
  refine lv_aload_n hx hb dd_M_init_20 rfl (lv_at hl 0 rfl) ?_
  refine lv_bipush (v := 16) hx hb dd_M_init_21 (by decide) ?_
  refine va_newa (atype := .int) (ty := .int) (N' := 16) (a0 := (16, .inl (fun _ => 0))) hx hb (hw _ qq_120) rfl hK hP hD hS hA (fun _ => rfl) (by decide) (by decide) (by first | decide | (simp only [componentBytes]; omega)) (by first | exact Nat.le_of_ble_eq_true rfl | (simp only [headSpec]; omega)) (by first | exact Nat.le_of_ble_eq_true rfl | (simp only [headSpec]; omega)) dd_M_init_23 (fun q_5 cA_6 H hK hP hD hS => ?_)
  obtain rfl : cI = cA_6 := ks_eqI hK 1 3 rfl rfl
  have hK : va_K (dC, dI) vcl [(cB, .byte), (cI, .int), (cJ, .long)] s := hK.sub [0, 1, 2] rfl
  have hP : va_P (dC, dI) vcl [(h0, .inr (1, [.int 0, .int 0, .int 0, .int 0, .int 0, .ref q_1, .int 0, .ref q_3, .null, .null, .null, .null, .int 0, .int 0, .int 0, .null, .int 0, .null, .null, .null, .null, .null, .null, .int 0, .null, .int 0, .int 0, .int 0, .int 0, .null, .int 0, .int 0, .int 0])), (q_1, .inl (cI, 8, .inl (fun _ => 0))), (q_3, .inl (cI, 16, .inl (fun _ => 0))), (q_5, .inl (cI, 16, .inl (fun _ => 0)))] H := hP
  have hD : va_D A [(h0, .inr (1, [.int 0, .int 0, .int 0, .int 0, .int 0, .ref q_1, .int 0, .ref q_3, .null, .null, .null, .null, .int 0, .int 0, .int 0, .null, .int 0, .null, .null, .null, .null, .null, .null, .int 0, .null, .int 0, .int 0, .int 0, .int 0, .null, .int 0, .int 0, .int 0])), (q_1, .inl (cI, 8, .inl (fun _ => 0))), (q_3, .inl (cI, 16, .inl (fun _ => 0))), (q_5, .inl (cI, 16, .inl (fun _ => 0)))] := hD
  refine W.widen (k := 3) (n := 40) (by first | exact Nat.le_refl _ | omega) (by first | exact Nat.le_refl _ | omega) ?_
  refine va_putF (D := (dC, dI)) (ci := 1) (v := .ref q_5) (ty := .array .int) (C := RR_M) (T := TT_M) (N := 33) hx hb hw hh_M ty_M ty_M_ok nm_M hown hK hP hD hS 0 rfl rfl 8 (by decide) (hw _ qq_587) (fun _ h9 => h9) rfl hin rfl (by decide +kernel) rfl rfl (Nat.le_of_ble_eq_true rfl) dd_M_init_25 (fun H locs hP hD hS => ?_)
  have hP : va_P (dC, dI) vcl [(h0, .inr (1, [.int 0, .int 0, .int 0, .int 0, .int 0, .ref q_1, .int 0, .ref q_3, .ref q_5, .null, .null, .null, .int 0, .int 0, .int 0, .null, .int 0, .null, .null, .null, .null, .null, .null, .int 0, .null, .int 0, .int 0, .int 0, .int 0, .null, .int 0, .int 0, .int 0])), (q_1, .inl (cI, 8, .inl (fun _ => 0))), (q_3, .inl (cI, 16, .inl (fun _ => 0))), (q_5, .inl (cI, 16, .inl (fun _ => 0)))] H := hP
  have hD : va_D A [(h0, .inr (1, [.int 0, .int 0, .int 0, .int 0, .int 0, .ref q_1, .int 0, .ref q_3, .ref q_5, .null, .null, .null, .int 0, .int 0, .int 0, .null, .int 0, .null, .null, .null, .null, .null, .null, .int 0, .null, .int 0, .int 0, .int 0, .int 0, .null, .int 0, .int 0, .int 0])), (q_1, .inl (cI, 8, .inl (fun _ => 0))), (q_3, .inl (cI, 16, .inl (fun _ => 0))), (q_5, .inl (cI, 16, .inl (fun _ => 0)))] := hD
  refine lv_aload_n hx hb dd_M_init_28 rfl (lv_at hl 0 rfl) ?_
  refine lv_bipush (v := 16) hx hb dd_M_init_29 (by decide) ?_
  refine va_newa (atype := .long) (ty := .long) (N' := 16) (a0 := (16, .inr (.inl (fun _ => 0)))) hx hb (hw _ qq_121) rfl hK hP hD hS hA (fun _ => rfl) (by decide) (by decide) (by first | decide | (simp only [componentBytes]; omega)) (by first | exact Nat.le_of_ble_eq_true rfl | (simp only [headSpec]; omega)) (by first | exact Nat.le_of_ble_eq_true rfl | (simp only [headSpec]; omega)) dd_M_init_31 (fun q_7 cA_8 H hK hP hD hS => ?_)
  obtain rfl : cJ = cA_8 := ks_eqJ hK 2 3 rfl rfl
  have hK : va_K (dC, dI) vcl [(cB, .byte), (cI, .int), (cJ, .long)] s := hK.sub [0, 1, 2] rfl
  have hP : va_P (dC, dI) vcl [(h0, .inr (1, [.int 0, .int 0, .int 0, .int 0, .int 0, .ref q_1, .int 0, .ref q_3, .ref q_5, .null, .null, .null, .int 0, .int 0, .int 0, .null, .int 0, .null, .null, .null, .null, .null, .null, .int 0, .null, .int 0, .int 0, .int 0, .int 0, .null, .int 0, .int 0, .int 0])), (q_1, .inl (cI, 8, .inl (fun _ => 0))), (q_3, .inl (cI, 16, .inl (fun _ => 0))), (q_5, .inl (cI, 16, .inl (fun _ => 0))), (q_7, .inl (cJ, 16, .inr (.inl (fun _ => 0))))] H := hP
  have hD : va_D A [(h0, .inr (1, [.int 0, .int 0, .int 0, .int 0, .int 0, .ref q_1, .int 0, .ref q_3, .ref q_5, .null, .null, .null, .int 0, .int 0, .int 0, .null, .int 0, .null, .null, .null, .null, .null, .null, .int 0, .null, .int 0, .int 0, .int 0, .int 0, .null, .int 0, .int 0, .int 0])), (q_1, .inl (cI, 8, .inl (fun _ => 0))), (q_3, .inl (cI, 16, .inl (fun _ => 0))), (q_5, .inl (cI, 16, .inl (fun _ => 0))), (q_7, .inl (cJ, 16, .inr (.inl (fun _ => 0))))] := hD
  refine W.widen (k := 4) (n := 56) (by first | exact Nat.le_refl _ | omega) (by first | exact Nat.le_refl _ | omega) ?_
  refine va_putF (D := (dC, dI)) (ci := 1) (v := .ref q_7) (ty := .array .long) (C := RR_M) (T := TT_M) (N := 33) hx hb hw hh_M ty_M ty_M_ok nm_M hown hK hP hD hS 0 rfl rfl 9 (by decide) (hw _ qq_588) (fun _ h9 => h9) rfl hin rfl (by decide +kernel) rfl rfl (Nat.le_of_ble_eq_true rfl) dd_M_init_33 (fun H locs hP hD hS => ?_)
  have hP : va_P (dC, dI) vcl [(h0, .inr (1, [.int 0, .int 0, .int 0, .int 0, .int 0, .ref q_1, .int 0, .ref q_3, .ref q_5, .ref q_7, .null, .null, .int 0, .int 0, .int 0, .null, .int 0, .null, .null, .null, .null, .null, .null, .int 0, .null, .int 0, .int 0, .int 0, .int 0, .null, .int 0, .int 0, .int 0])), (q_1, .inl (cI, 8, .inl (fun _ => 0))), (q_3, .inl (cI, 16, .inl (fun _ => 0))), (q_5, .inl (cI, 16, .inl (fun _ => 0))), (q_7, .inl (cJ, 16, .inr (.inl (fun _ => 0))))] H := hP
  have hD : va_D A [(h0, .inr (1, [.int 0, .int 0, .int 0, .int 0, .int 0, .ref q_1, .int 0, .ref q_3, .ref q_5, .ref q_7, .null, .null, .int 0, .int 0, .int 0, .null, .int 0, .null, .null, .null, .null, .null, .null, .int 0, .null, .int 0, .int 0, .int 0, .int 0, .null, .int 0, .int 0, .int 0])), (q_1, .inl (cI, 8, .inl (fun _ => 0))), (q_3, .inl (cI, 16, .inl (fun _ => 0))), (q_5, .inl (cI, 16, .inl (fun _ => 0))), (q_7, .inl (cJ, 16, .inr (.inl (fun _ => 0))))] := hD
  refine lv_aload_n hx hb dd_M_init_36 rfl (lv_at hl 0 rfl) ?_
  refine lv_bipush (v := 16) hx hb dd_M_init_37 (by decide) ?_
  refine va_newa (atype := .int) (ty := .int) (N' := 16) (a0 := (16, .inl (fun _ => 0))) hx hb (hw _ qq_120) rfl hK hP hD hS hA (fun _ => rfl) (by decide) (by decide) (by first | decide | (simp only [componentBytes]; omega)) (by first | exact Nat.le_of_ble_eq_true rfl | (simp only [headSpec]; omega)) (by first | exact Nat.le_of_ble_eq_true rfl | (simp only [headSpec]; omega)) dd_M_init_39 (fun q_9 cA_10 H hK hP hD hS => ?_)
  obtain rfl : cI = cA_10 := ks_eqI hK 1 3 rfl rfl
  have hK : va_K (dC, dI) vcl [(cB, .byte), (cI, .int), (cJ, .long)] s := hK.sub [0, 1, 2] rfl
  have hP : va_P (dC, dI) vcl [(h0, .inr (1, [.int 0, .int 0, .int 0, .int 0, .int 0, .ref q_1, .int 0, .ref q_3, .ref q_5, .ref q_7, .null, .null, .int 0, .int 0, .int 0, .null, .int 0, .null, .null, .null, .null, .null, .null, .int 0, .null, .int 0, .int 0, .int 0, .int 0, .null, .int 0, .int 0, .int 0])), (q_1, .inl (cI, 8, .inl (fun _ => 0))), (q_3, .inl (cI, 16, .inl (fun _ => 0))), (q_5, .inl (cI, 16, .inl (fun _ => 0))), (q_7, .inl (cJ, 16, .inr (.inl (fun _ => 0)))), (q_9, .inl (cI, 16, .inl (fun _ => 0)))] H := hP
  have hD : va_D A [(h0, .inr (1, [.int 0, .int 0, .int 0, .int 0, .int 0, .ref q_1, .int 0, .ref q_3, .ref q_5, .ref q_7, .null, .null, .int 0, .int 0, .int 0, .null, .int 0, .null, .null, .null, .null, .null, .null, .int 0, .null, .int 0, .int 0, .int 0, .int 0, .null, .int 0, .int 0, .int 0])), (q_1, .inl (cI, 8, .inl (fun _ => 0))), (q_3, .inl (cI, 16, .inl (fun _ => 0))), (q_5, .inl (cI, 16, .inl (fun _ => 0))), (q_7, .inl (cJ, 16, .inr (.inl (fun _ => 0)))), (q_9, .inl (cI, 16, .inl (fun _ => 0)))] := hD
  refine W.widen (k := 5) (n := 72) (by first | exact Nat.le_refl _ | omega) (by first | exact Nat.le_refl _ | omega) ?_
  refine va_putF (D := (dC, dI)) (ci := 1) (v := .ref q_9) (ty := .array .int) (C := RR_M) (T := TT_M) (N := 33) hx hb hw hh_M ty_M ty_M_ok nm_M hown hK hP hD hS 0 rfl rfl 10 (by decide) (hw _ qq_589) (fun _ h9 => h9) rfl hin rfl (by decide +kernel) rfl rfl (Nat.le_of_ble_eq_true rfl) dd_M_init_41 (fun H locs hP hD hS => ?_)
  have hP : va_P (dC, dI) vcl [(h0, .inr (1, [.int 0, .int 0, .int 0, .int 0, .int 0, .ref q_1, .int 0, .ref q_3, .ref q_5, .ref q_7, .ref q_9, .null, .int 0, .int 0, .int 0, .null, .int 0, .null, .null, .null, .null, .null, .null, .int 0, .null, .int 0, .int 0, .int 0, .int 0, .null, .int 0, .int 0, .int 0])), (q_1, .inl (cI, 8, .inl (fun _ => 0))), (q_3, .inl (cI, 16, .inl (fun _ => 0))), (q_5, .inl (cI, 16, .inl (fun _ => 0))), (q_7, .inl (cJ, 16, .inr (.inl (fun _ => 0)))), (q_9, .inl (cI, 16, .inl (fun _ => 0)))] H := hP
  have hD : va_D A [(h0, .inr (1, [.int 0, .int 0, .int 0, .int 0, .int 0, .ref q_1, .int 0, .ref q_3, .ref q_5, .ref q_7, .ref q_9, .null, .int 0, .int 0, .int 0, .null, .int 0, .null, .null, .null, .null, .null, .null, .int 0, .null, .int 0, .int 0, .int 0, .int 0, .null, .int 0, .int 0, .int 0])), (q_1, .inl (cI, 8, .inl (fun _ => 0))), (q_3, .inl (cI, 16, .inl (fun _ => 0))), (q_5, .inl (cI, 16, .inl (fun _ => 0))), (q_7, .inl (cJ, 16, .inr (.inl (fun _ => 0)))), (q_9, .inl (cI, 16, .inl (fun _ => 0)))] := hD
  refine lv_aload_n hx hb dd_M_init_44 rfl (lv_at hl 0 rfl) ?_
  refine lv_bipush (v := 16) hx hb dd_M_init_45 (by decide) ?_
  refine va_newa (atype := .int) (ty := .int) (N' := 16) (a0 := (16, .inl (fun _ => 0))) hx hb (hw _ qq_120) rfl hK hP hD hS hA (fun _ => rfl) (by decide) (by decide) (by first | decide | (simp only [componentBytes]; omega)) (by first | exact Nat.le_of_ble_eq_true rfl | (simp only [headSpec]; omega)) (by first | exact Nat.le_of_ble_eq_true rfl | (simp only [headSpec]; omega)) dd_M_init_47 (fun q_11 cA_12 H hK hP hD hS => ?_)
  obtain rfl : cI = cA_12 := ks_eqI hK 1 3 rfl rfl
  have hK : va_K (dC, dI) vcl [(cB, .byte), (cI, .int), (cJ, .long)] s := hK.sub [0, 1, 2] rfl
  have hP : va_P (dC, dI) vcl [(h0, .inr (1, [.int 0, .int 0, .int 0, .int 0, .int 0, .ref q_1, .int 0, .ref q_3, .ref q_5, .ref q_7, .ref q_9, .null, .int 0, .int 0, .int 0, .null, .int 0, .null, .null, .null, .null, .null, .null, .int 0, .null, .int 0, .int 0, .int 0, .int 0, .null, .int 0, .int 0, .int 0])), (q_1, .inl (cI, 8, .inl (fun _ => 0))), (q_3, .inl (cI, 16, .inl (fun _ => 0))), (q_5, .inl (cI, 16, .inl (fun _ => 0))), (q_7, .inl (cJ, 16, .inr (.inl (fun _ => 0)))), (q_9, .inl (cI, 16, .inl (fun _ => 0))), (q_11, .inl (cI, 16, .inl (fun _ => 0)))] H := hP
  have hD : va_D A [(h0, .inr (1, [.int 0, .int 0, .int 0, .int 0, .int 0, .ref q_1, .int 0, .ref q_3, .ref q_5, .ref q_7, .ref q_9, .null, .int 0, .int 0, .int 0, .null, .int 0, .null, .null, .null, .null, .null, .null, .int 0, .null, .int 0, .int 0, .int 0, .int 0, .null, .int 0, .int 0, .int 0])), (q_1, .inl (cI, 8, .inl (fun _ => 0))), (q_3, .inl (cI, 16, .inl (fun _ => 0))), (q_5, .inl (cI, 16, .inl (fun _ => 0))), (q_7, .inl (cJ, 16, .inr (.inl (fun _ => 0)))), (q_9, .inl (cI, 16, .inl (fun _ => 0))), (q_11, .inl (cI, 16, .inl (fun _ => 0)))] := hD
  refine W.widen (k := 6) (n := 88) (by first | exact Nat.le_refl _ | omega) (by first | exact Nat.le_refl _ | omega) ?_
  refine va_putF (D := (dC, dI)) (ci := 1) (v := .ref q_11) (ty := .array .int) (C := RR_M) (T := TT_M) (N := 33) hx hb hw hh_M ty_M ty_M_ok nm_M hown hK hP hD hS 0 rfl rfl 11 (by decide) (hw _ qq_590) (fun _ h9 => h9) rfl hin rfl (by decide +kernel) rfl rfl (Nat.le_of_ble_eq_true rfl) dd_M_init_49 (fun H locs hP hD hS => ?_)
  have hP : va_P (dC, dI) vcl [(h0, .inr (1, [.int 0, .int 0, .int 0, .int 0, .int 0, .ref q_1, .int 0, .ref q_3, .ref q_5, .ref q_7, .ref q_9, .ref q_11, .int 0, .int 0, .int 0, .null, .int 0, .null, .null, .null, .null, .null, .null, .int 0, .null, .int 0, .int 0, .int 0, .int 0, .null, .int 0, .int 0, .int 0])), (q_1, .inl (cI, 8, .inl (fun _ => 0))), (q_3, .inl (cI, 16, .inl (fun _ => 0))), (q_5, .inl (cI, 16, .inl (fun _ => 0))), (q_7, .inl (cJ, 16, .inr (.inl (fun _ => 0)))), (q_9, .inl (cI, 16, .inl (fun _ => 0))), (q_11, .inl (cI, 16, .inl (fun _ => 0)))] H := hP
  have hD : va_D A [(h0, .inr (1, [.int 0, .int 0, .int 0, .int 0, .int 0, .ref q_1, .int 0, .ref q_3, .ref q_5, .ref q_7, .ref q_9, .ref q_11, .int 0, .int 0, .int 0, .null, .int 0, .null, .null, .null, .null, .null, .null, .int 0, .null, .int 0, .int 0, .int 0, .int 0, .null, .int 0, .int 0, .int 0])), (q_1, .inl (cI, 8, .inl (fun _ => 0))), (q_3, .inl (cI, 16, .inl (fun _ => 0))), (q_5, .inl (cI, 16, .inl (fun _ => 0))), (q_7, .inl (cJ, 16, .inr (.inl (fun _ => 0)))), (q_9, .inl (cI, 16, .inl (fun _ => 0))), (q_11, .inl (cI, 16, .inl (fun _ => 0)))] := hD
  refine lv_aload_n hx hb dd_M_init_52 rfl (lv_at hl 0 rfl) ?_
  refine lv_bipush (v := 8) hx hb dd_M_init_53 (by decide) ?_
  refine va_newa (atype := .int) (ty := .int) (N' := 8) (a0 := (8, .inl (fun _ => 0))) hx hb (hw _ qq_120) rfl hK hP hD hS hA (fun _ => rfl) (by decide) (by decide) (by first | decide | (simp only [componentBytes]; omega)) (by first | exact Nat.le_of_ble_eq_true rfl | (simp only [headSpec]; omega)) (by first | exact Nat.le_of_ble_eq_true rfl | (simp only [headSpec]; omega)) dd_M_init_55 (fun q_13 cA_14 H hK hP hD hS => ?_)
  obtain rfl : cI = cA_14 := ks_eqI hK 1 3 rfl rfl
  have hK : va_K (dC, dI) vcl [(cB, .byte), (cI, .int), (cJ, .long)] s := hK.sub [0, 1, 2] rfl
  have hP : va_P (dC, dI) vcl [(h0, .inr (1, [.int 0, .int 0, .int 0, .int 0, .int 0, .ref q_1, .int 0, .ref q_3, .ref q_5, .ref q_7, .ref q_9, .ref q_11, .int 0, .int 0, .int 0, .null, .int 0, .null, .null, .null, .null, .null, .null, .int 0, .null, .int 0, .int 0, .int 0, .int 0, .null, .int 0, .int 0, .int 0])), (q_1, .inl (cI, 8, .inl (fun _ => 0))), (q_3, .inl (cI, 16, .inl (fun _ => 0))), (q_5, .inl (cI, 16, .inl (fun _ => 0))), (q_7, .inl (cJ, 16, .inr (.inl (fun _ => 0)))), (q_9, .inl (cI, 16, .inl (fun _ => 0))), (q_11, .inl (cI, 16, .inl (fun _ => 0))), (q_13, .inl (cI, 8, .inl (fun _ => 0)))] H := hP
  have hD : va_D A [(h0, .inr (1, [.int 0, .int 0, .int 0, .int 0, .int 0, .ref q_1, .int 0, .ref q_3, .ref q_5, .ref q_7, .ref q_9, .ref q_11, .int 0, .int 0, .int 0, .null, .int 0, .null, .null, .null, .null, .null, .null, .int 0, .null, .int 0, .int 0, .int 0, .int 0, .null, .int 0, .int 0, .int 0])), (q_1, .inl (cI, 8, .inl (fun _ => 0))), (q_3, .inl (cI, 16, .inl (fun _ => 0))), (q_5, .inl (cI, 16, .inl (fun _ => 0))), (q_7, .inl (cJ, 16, .inr (.inl (fun _ => 0)))), (q_9, .inl (cI, 16, .inl (fun _ => 0))), (q_11, .inl (cI, 16, .inl (fun _ => 0))), (q_13, .inl (cI, 8, .inl (fun _ => 0)))] := hD
  refine W.widen (k := 7) (n := 96) (by first | exact Nat.le_refl _ | omega) (by first | exact Nat.le_refl _ | omega) ?_
  refine va_putF (D := (dC, dI)) (ci := 1) (v := .ref q_13) (ty := .array .int) (C := RR_M) (T := TT_M) (N := 33) hx hb hw hh_M ty_M ty_M_ok nm_M hown hK hP hD hS 0 rfl rfl 15 (by decide) (hw _ qq_594) (fun _ h9 => h9) rfl hin rfl (by decide +kernel) rfl rfl (Nat.le_of_ble_eq_true rfl) dd_M_init_57 (fun H locs hP hD hS => ?_)
  have hP : va_P (dC, dI) vcl [(h0, .inr (1, [.int 0, .int 0, .int 0, .int 0, .int 0, .ref q_1, .int 0, .ref q_3, .ref q_5, .ref q_7, .ref q_9, .ref q_11, .int 0, .int 0, .int 0, .ref q_13, .int 0, .null, .null, .null, .null, .null, .null, .int 0, .null, .int 0, .int 0, .int 0, .int 0, .null, .int 0, .int 0, .int 0])), (q_1, .inl (cI, 8, .inl (fun _ => 0))), (q_3, .inl (cI, 16, .inl (fun _ => 0))), (q_5, .inl (cI, 16, .inl (fun _ => 0))), (q_7, .inl (cJ, 16, .inr (.inl (fun _ => 0)))), (q_9, .inl (cI, 16, .inl (fun _ => 0))), (q_11, .inl (cI, 16, .inl (fun _ => 0))), (q_13, .inl (cI, 8, .inl (fun _ => 0)))] H := hP
  have hD : va_D A [(h0, .inr (1, [.int 0, .int 0, .int 0, .int 0, .int 0, .ref q_1, .int 0, .ref q_3, .ref q_5, .ref q_7, .ref q_9, .ref q_11, .int 0, .int 0, .int 0, .ref q_13, .int 0, .null, .null, .null, .null, .null, .null, .int 0, .null, .int 0, .int 0, .int 0, .int 0, .null, .int 0, .int 0, .int 0])), (q_1, .inl (cI, 8, .inl (fun _ => 0))), (q_3, .inl (cI, 16, .inl (fun _ => 0))), (q_5, .inl (cI, 16, .inl (fun _ => 0))), (q_7, .inl (cJ, 16, .inr (.inl (fun _ => 0)))), (q_9, .inl (cI, 16, .inl (fun _ => 0))), (q_11, .inl (cI, 16, .inl (fun _ => 0))), (q_13, .inl (cI, 8, .inl (fun _ => 0)))] := hD
  refine lv_aload_n hx hb dd_M_init_60 rfl (lv_at hl 0 rfl) ?_
  refine lv_bipush (v := 16) hx hb dd_M_init_61 (by decide) ?_
  refine va_newa (atype := .int) (ty := .int) (N' := 16) (a0 := (16, .inl (fun _ => 0))) hx hb (hw _ qq_120) rfl hK hP hD hS hA (fun _ => rfl) (by decide) (by decide) (by first | decide | (simp only [componentBytes]; omega)) (by first | exact Nat.le_of_ble_eq_true rfl | (simp only [headSpec]; omega)) (by first | exact Nat.le_of_ble_eq_true rfl | (simp only [headSpec]; omega)) dd_M_init_63 (fun q_15 cA_16 H hK hP hD hS => ?_)
  obtain rfl : cI = cA_16 := ks_eqI hK 1 3 rfl rfl
  have hK : va_K (dC, dI) vcl [(cB, .byte), (cI, .int), (cJ, .long)] s := hK.sub [0, 1, 2] rfl
  have hP : va_P (dC, dI) vcl [(h0, .inr (1, [.int 0, .int 0, .int 0, .int 0, .int 0, .ref q_1, .int 0, .ref q_3, .ref q_5, .ref q_7, .ref q_9, .ref q_11, .int 0, .int 0, .int 0, .ref q_13, .int 0, .null, .null, .null, .null, .null, .null, .int 0, .null, .int 0, .int 0, .int 0, .int 0, .null, .int 0, .int 0, .int 0])), (q_1, .inl (cI, 8, .inl (fun _ => 0))), (q_3, .inl (cI, 16, .inl (fun _ => 0))), (q_5, .inl (cI, 16, .inl (fun _ => 0))), (q_7, .inl (cJ, 16, .inr (.inl (fun _ => 0)))), (q_9, .inl (cI, 16, .inl (fun _ => 0))), (q_11, .inl (cI, 16, .inl (fun _ => 0))), (q_13, .inl (cI, 8, .inl (fun _ => 0))), (q_15, .inl (cI, 16, .inl (fun _ => 0)))] H := hP
  have hD : va_D A [(h0, .inr (1, [.int 0, .int 0, .int 0, .int 0, .int 0, .ref q_1, .int 0, .ref q_3, .ref q_5, .ref q_7, .ref q_9, .ref q_11, .int 0, .int 0, .int 0, .ref q_13, .int 0, .null, .null, .null, .null, .null, .null, .int 0, .null, .int 0, .int 0, .int 0, .int 0, .null, .int 0, .int 0, .int 0])), (q_1, .inl (cI, 8, .inl (fun _ => 0))), (q_3, .inl (cI, 16, .inl (fun _ => 0))), (q_5, .inl (cI, 16, .inl (fun _ => 0))), (q_7, .inl (cJ, 16, .inr (.inl (fun _ => 0)))), (q_9, .inl (cI, 16, .inl (fun _ => 0))), (q_11, .inl (cI, 16, .inl (fun _ => 0))), (q_13, .inl (cI, 8, .inl (fun _ => 0))), (q_15, .inl (cI, 16, .inl (fun _ => 0)))] := hD
  refine W.widen (k := 8) (n := 112) (by first | exact Nat.le_refl _ | omega) (by first | exact Nat.le_refl _ | omega) ?_
  refine va_putF (D := (dC, dI)) (ci := 1) (v := .ref q_15) (ty := .array .int) (C := RR_M) (T := TT_M) (N := 33) hx hb hw hh_M ty_M ty_M_ok nm_M hown hK hP hD hS 0 rfl rfl 17 (by decide) (hw _ qq_596) (fun _ h9 => h9) rfl hin rfl (by decide +kernel) rfl rfl (Nat.le_of_ble_eq_true rfl) dd_M_init_65 (fun H locs hP hD hS => ?_)
  have hP : va_P (dC, dI) vcl [(h0, .inr (1, [.int 0, .int 0, .int 0, .int 0, .int 0, .ref q_1, .int 0, .ref q_3, .ref q_5, .ref q_7, .ref q_9, .ref q_11, .int 0, .int 0, .int 0, .ref q_13, .int 0, .ref q_15, .null, .null, .null, .null, .null, .int 0, .null, .int 0, .int 0, .int 0, .int 0, .null, .int 0, .int 0, .int 0])), (q_1, .inl (cI, 8, .inl (fun _ => 0))), (q_3, .inl (cI, 16, .inl (fun _ => 0))), (q_5, .inl (cI, 16, .inl (fun _ => 0))), (q_7, .inl (cJ, 16, .inr (.inl (fun _ => 0)))), (q_9, .inl (cI, 16, .inl (fun _ => 0))), (q_11, .inl (cI, 16, .inl (fun _ => 0))), (q_13, .inl (cI, 8, .inl (fun _ => 0))), (q_15, .inl (cI, 16, .inl (fun _ => 0)))] H := hP
  have hD : va_D A [(h0, .inr (1, [.int 0, .int 0, .int 0, .int 0, .int 0, .ref q_1, .int 0, .ref q_3, .ref q_5, .ref q_7, .ref q_9, .ref q_11, .int 0, .int 0, .int 0, .ref q_13, .int 0, .ref q_15, .null, .null, .null, .null, .null, .int 0, .null, .int 0, .int 0, .int 0, .int 0, .null, .int 0, .int 0, .int 0])), (q_1, .inl (cI, 8, .inl (fun _ => 0))), (q_3, .inl (cI, 16, .inl (fun _ => 0))), (q_5, .inl (cI, 16, .inl (fun _ => 0))), (q_7, .inl (cJ, 16, .inr (.inl (fun _ => 0)))), (q_9, .inl (cI, 16, .inl (fun _ => 0))), (q_11, .inl (cI, 16, .inl (fun _ => 0))), (q_13, .inl (cI, 8, .inl (fun _ => 0))), (q_15, .inl (cI, 16, .inl (fun _ => 0)))] := hD
  refine lv_aload_n hx hb dd_M_init_68 rfl (lv_at hl 0 rfl) ?_
  refine lv_bipush (v := 16) hx hb dd_M_init_69 (by decide) ?_
  refine va_newa (atype := .int) (ty := .int) (N' := 16) (a0 := (16, .inl (fun _ => 0))) hx hb (hw _ qq_120) rfl hK hP hD hS hA (fun _ => rfl) (by decide) (by decide) (by first | decide | (simp only [componentBytes]; omega)) (by first | exact Nat.le_of_ble_eq_true rfl | (simp only [headSpec]; omega)) (by first | exact Nat.le_of_ble_eq_true rfl | (simp only [headSpec]; omega)) dd_M_init_71 (fun q_17 cA_18 H hK hP hD hS => ?_)
  obtain rfl : cI = cA_18 := ks_eqI hK 1 3 rfl rfl
  have hK : va_K (dC, dI) vcl [(cB, .byte), (cI, .int), (cJ, .long)] s := hK.sub [0, 1, 2] rfl
  have hP : va_P (dC, dI) vcl [(h0, .inr (1, [.int 0, .int 0, .int 0, .int 0, .int 0, .ref q_1, .int 0, .ref q_3, .ref q_5, .ref q_7, .ref q_9, .ref q_11, .int 0, .int 0, .int 0, .ref q_13, .int 0, .ref q_15, .null, .null, .null, .null, .null, .int 0, .null, .int 0, .int 0, .int 0, .int 0, .null, .int 0, .int 0, .int 0])), (q_1, .inl (cI, 8, .inl (fun _ => 0))), (q_3, .inl (cI, 16, .inl (fun _ => 0))), (q_5, .inl (cI, 16, .inl (fun _ => 0))), (q_7, .inl (cJ, 16, .inr (.inl (fun _ => 0)))), (q_9, .inl (cI, 16, .inl (fun _ => 0))), (q_11, .inl (cI, 16, .inl (fun _ => 0))), (q_13, .inl (cI, 8, .inl (fun _ => 0))), (q_15, .inl (cI, 16, .inl (fun _ => 0))), (q_17, .inl (cI, 16, .inl (fun _ => 0)))] H := hP
  have hD : va_D A [(h0, .inr (1, [.int 0, .int 0, .int 0, .int 0, .int 0, .ref q_1, .int 0, .ref q_3, .ref q_5, .ref q_7, .ref q_9, .ref q_11, .int 0, .int 0, .int 0, .ref q_13, .int 0, .ref q_15, .null, .null, .null, .null, .null, .int 0, .null, .int 0, .int 0, .int 0, .int 0, .null, .int 0, .int 0, .int 0])), (q_1, .inl (cI, 8, .inl (fun _ => 0))), (q_3, .inl (cI, 16, .inl (fun _ => 0))), (q_5, .inl (cI, 16, .inl (fun _ => 0))), (q_7, .inl (cJ, 16, .inr (.inl (fun _ => 0)))), (q_9, .inl (cI, 16, .inl (fun _ => 0))), (q_11, .inl (cI, 16, .inl (fun _ => 0))), (q_13, .inl (cI, 8, .inl (fun _ => 0))), (q_15, .inl (cI, 16, .inl (fun _ => 0))), (q_17, .inl (cI, 16, .inl (fun _ => 0)))] := hD
  refine W.widen (k := 9) (n := 128) (by first | exact Nat.le_refl _ | omega) (by first | exact Nat.le_refl _ | omega) ?_
  refine va_putF (D := (dC, dI)) (ci := 1) (v := .ref q_17) (ty := .array .int) (C := RR_M) (T := TT_M) (N := 33) hx hb hw hh_M ty_M ty_M_ok nm_M hown hK hP hD hS 0 rfl rfl 18 (by decide) (hw _ qq_597) (fun _ h9 => h9) rfl hin rfl (by decide +kernel) rfl rfl (Nat.le_of_ble_eq_true rfl) dd_M_init_73 (fun H locs hP hD hS => ?_)
  have hP : va_P (dC, dI) vcl [(h0, .inr (1, [.int 0, .int 0, .int 0, .int 0, .int 0, .ref q_1, .int 0, .ref q_3, .ref q_5, .ref q_7, .ref q_9, .ref q_11, .int 0, .int 0, .int 0, .ref q_13, .int 0, .ref q_15, .ref q_17, .null, .null, .null, .null, .int 0, .null, .int 0, .int 0, .int 0, .int 0, .null, .int 0, .int 0, .int 0])), (q_1, .inl (cI, 8, .inl (fun _ => 0))), (q_3, .inl (cI, 16, .inl (fun _ => 0))), (q_5, .inl (cI, 16, .inl (fun _ => 0))), (q_7, .inl (cJ, 16, .inr (.inl (fun _ => 0)))), (q_9, .inl (cI, 16, .inl (fun _ => 0))), (q_11, .inl (cI, 16, .inl (fun _ => 0))), (q_13, .inl (cI, 8, .inl (fun _ => 0))), (q_15, .inl (cI, 16, .inl (fun _ => 0))), (q_17, .inl (cI, 16, .inl (fun _ => 0)))] H := hP
  have hD : va_D A [(h0, .inr (1, [.int 0, .int 0, .int 0, .int 0, .int 0, .ref q_1, .int 0, .ref q_3, .ref q_5, .ref q_7, .ref q_9, .ref q_11, .int 0, .int 0, .int 0, .ref q_13, .int 0, .ref q_15, .ref q_17, .null, .null, .null, .null, .int 0, .null, .int 0, .int 0, .int 0, .int 0, .null, .int 0, .int 0, .int 0])), (q_1, .inl (cI, 8, .inl (fun _ => 0))), (q_3, .inl (cI, 16, .inl (fun _ => 0))), (q_5, .inl (cI, 16, .inl (fun _ => 0))), (q_7, .inl (cJ, 16, .inr (.inl (fun _ => 0)))), (q_9, .inl (cI, 16, .inl (fun _ => 0))), (q_11, .inl (cI, 16, .inl (fun _ => 0))), (q_13, .inl (cI, 8, .inl (fun _ => 0))), (q_15, .inl (cI, 16, .inl (fun _ => 0))), (q_17, .inl (cI, 16, .inl (fun _ => 0)))] := hD
  refine lv_aload_n hx hb dd_M_init_76 rfl (lv_at hl 0 rfl) ?_
  refine lv_bipush (v := 16) hx hb dd_M_init_77 (by decide) ?_
  refine va_newa (atype := .long) (ty := .long) (N' := 16) (a0 := (16, .inr (.inl (fun _ => 0)))) hx hb (hw _ qq_121) rfl hK hP hD hS hA (fun _ => rfl) (by decide) (by decide) (by first | decide | (simp only [componentBytes]; omega)) (by first | exact Nat.le_of_ble_eq_true rfl | (simp only [headSpec]; omega)) (by first | exact Nat.le_of_ble_eq_true rfl | (simp only [headSpec]; omega)) dd_M_init_79 (fun q_19 cA_20 H hK hP hD hS => ?_)
  obtain rfl : cJ = cA_20 := ks_eqJ hK 2 3 rfl rfl
  have hK : va_K (dC, dI) vcl [(cB, .byte), (cI, .int), (cJ, .long)] s := hK.sub [0, 1, 2] rfl
  have hP : va_P (dC, dI) vcl [(h0, .inr (1, [.int 0, .int 0, .int 0, .int 0, .int 0, .ref q_1, .int 0, .ref q_3, .ref q_5, .ref q_7, .ref q_9, .ref q_11, .int 0, .int 0, .int 0, .ref q_13, .int 0, .ref q_15, .ref q_17, .null, .null, .null, .null, .int 0, .null, .int 0, .int 0, .int 0, .int 0, .null, .int 0, .int 0, .int 0])), (q_1, .inl (cI, 8, .inl (fun _ => 0))), (q_3, .inl (cI, 16, .inl (fun _ => 0))), (q_5, .inl (cI, 16, .inl (fun _ => 0))), (q_7, .inl (cJ, 16, .inr (.inl (fun _ => 0)))), (q_9, .inl (cI, 16, .inl (fun _ => 0))), (q_11, .inl (cI, 16, .inl (fun _ => 0))), (q_13, .inl (cI, 8, .inl (fun _ => 0))), (q_15, .inl (cI, 16, .inl (fun _ => 0))), (q_17, .inl (cI, 16, .inl (fun _ => 0))), (q_19, .inl (cJ, 16, .inr (.inl (fun _ => 0))))] H := hP
  have hD : va_D A [(h0, .inr (1, [.int 0, .int 0, .int 0, .int 0, .int 0, .ref q_1, .int 0, .ref q_3, .ref q_5, .ref q_7, .ref q_9, .ref q_11, .int 0, .int 0, .int 0, .ref q_13, .int 0, .ref q_15, .ref q_17, .null, .null, .null, .null, .int 0, .null, .int 0, .int 0, .int 0, .int 0, .null, .int 0, .int 0, .int 0])), (q_1, .inl (cI, 8, .inl (fun _ => 0))), (q_3, .inl (cI, 16, .inl (fun _ => 0))), (q_5, .inl (cI, 16, .inl (fun _ => 0))), (q_7, .inl (cJ, 16, .inr (.inl (fun _ => 0)))), (q_9, .inl (cI, 16, .inl (fun _ => 0))), (q_11, .inl (cI, 16, .inl (fun _ => 0))), (q_13, .inl (cI, 8, .inl (fun _ => 0))), (q_15, .inl (cI, 16, .inl (fun _ => 0))), (q_17, .inl (cI, 16, .inl (fun _ => 0))), (q_19, .inl (cJ, 16, .inr (.inl (fun _ => 0))))] := hD
  refine W.widen (k := 10) (n := 144) (by first | exact Nat.le_refl _ | omega) (by first | exact Nat.le_refl _ | omega) ?_
  refine va_putF (D := (dC, dI)) (ci := 1) (v := .ref q_19) (ty := .array .long) (C := RR_M) (T := TT_M) (N := 33) hx hb hw hh_M ty_M ty_M_ok nm_M hown hK hP hD hS 0 rfl rfl 19 (by decide) (hw _ qq_598) (fun _ h9 => h9) rfl hin rfl (by decide +kernel) rfl rfl (Nat.le_of_ble_eq_true rfl) dd_M_init_81 (fun H locs hP hD hS => ?_)
  have hP : va_P (dC, dI) vcl [(h0, .inr (1, [.int 0, .int 0, .int 0, .int 0, .int 0, .ref q_1, .int 0, .ref q_3, .ref q_5, .ref q_7, .ref q_9, .ref q_11, .int 0, .int 0, .int 0, .ref q_13, .int 0, .ref q_15, .ref q_17, .ref q_19, .null, .null, .null, .int 0, .null, .int 0, .int 0, .int 0, .int 0, .null, .int 0, .int 0, .int 0])), (q_1, .inl (cI, 8, .inl (fun _ => 0))), (q_3, .inl (cI, 16, .inl (fun _ => 0))), (q_5, .inl (cI, 16, .inl (fun _ => 0))), (q_7, .inl (cJ, 16, .inr (.inl (fun _ => 0)))), (q_9, .inl (cI, 16, .inl (fun _ => 0))), (q_11, .inl (cI, 16, .inl (fun _ => 0))), (q_13, .inl (cI, 8, .inl (fun _ => 0))), (q_15, .inl (cI, 16, .inl (fun _ => 0))), (q_17, .inl (cI, 16, .inl (fun _ => 0))), (q_19, .inl (cJ, 16, .inr (.inl (fun _ => 0))))] H := hP
  have hD : va_D A [(h0, .inr (1, [.int 0, .int 0, .int 0, .int 0, .int 0, .ref q_1, .int 0, .ref q_3, .ref q_5, .ref q_7, .ref q_9, .ref q_11, .int 0, .int 0, .int 0, .ref q_13, .int 0, .ref q_15, .ref q_17, .ref q_19, .null, .null, .null, .int 0, .null, .int 0, .int 0, .int 0, .int 0, .null, .int 0, .int 0, .int 0])), (q_1, .inl (cI, 8, .inl (fun _ => 0))), (q_3, .inl (cI, 16, .inl (fun _ => 0))), (q_5, .inl (cI, 16, .inl (fun _ => 0))), (q_7, .inl (cJ, 16, .inr (.inl (fun _ => 0)))), (q_9, .inl (cI, 16, .inl (fun _ => 0))), (q_11, .inl (cI, 16, .inl (fun _ => 0))), (q_13, .inl (cI, 8, .inl (fun _ => 0))), (q_15, .inl (cI, 16, .inl (fun _ => 0))), (q_17, .inl (cI, 16, .inl (fun _ => 0))), (q_19, .inl (cJ, 16, .inr (.inl (fun _ => 0))))] := hD
  refine lv_aload_n hx hb dd_M_init_84 rfl (lv_at hl 0 rfl) ?_
  refine lv_bipush (v := 16) hx hb dd_M_init_85 (by decide) ?_
  refine va_newa (atype := .int) (ty := .int) (N' := 16) (a0 := (16, .inl (fun _ => 0))) hx hb (hw _ qq_120) rfl hK hP hD hS hA (fun _ => rfl) (by decide) (by decide) (by first | decide | (simp only [componentBytes]; omega)) (by first | exact Nat.le_of_ble_eq_true rfl | (simp only [headSpec]; omega)) (by first | exact Nat.le_of_ble_eq_true rfl | (simp only [headSpec]; omega)) dd_M_init_87 (fun q_21 cA_22 H hK hP hD hS => ?_)
  obtain rfl : cI = cA_22 := ks_eqI hK 1 3 rfl rfl
  have hK : va_K (dC, dI) vcl [(cB, .byte), (cI, .int), (cJ, .long)] s := hK.sub [0, 1, 2] rfl
  have hP : va_P (dC, dI) vcl [(h0, .inr (1, [.int 0, .int 0, .int 0, .int 0, .int 0, .ref q_1, .int 0, .ref q_3, .ref q_5, .ref q_7, .ref q_9, .ref q_11, .int 0, .int 0, .int 0, .ref q_13, .int 0, .ref q_15, .ref q_17, .ref q_19, .null, .null, .null, .int 0, .null, .int 0, .int 0, .int 0, .int 0, .null, .int 0, .int 0, .int 0])), (q_1, .inl (cI, 8, .inl (fun _ => 0))), (q_3, .inl (cI, 16, .inl (fun _ => 0))), (q_5, .inl (cI, 16, .inl (fun _ => 0))), (q_7, .inl (cJ, 16, .inr (.inl (fun _ => 0)))), (q_9, .inl (cI, 16, .inl (fun _ => 0))), (q_11, .inl (cI, 16, .inl (fun _ => 0))), (q_13, .inl (cI, 8, .inl (fun _ => 0))), (q_15, .inl (cI, 16, .inl (fun _ => 0))), (q_17, .inl (cI, 16, .inl (fun _ => 0))), (q_19, .inl (cJ, 16, .inr (.inl (fun _ => 0)))), (q_21, .inl (cI, 16, .inl (fun _ => 0)))] H := hP
  have hD : va_D A [(h0, .inr (1, [.int 0, .int 0, .int 0, .int 0, .int 0, .ref q_1, .int 0, .ref q_3, .ref q_5, .ref q_7, .ref q_9, .ref q_11, .int 0, .int 0, .int 0, .ref q_13, .int 0, .ref q_15, .ref q_17, .ref q_19, .null, .null, .null, .int 0, .null, .int 0, .int 0, .int 0, .int 0, .null, .int 0, .int 0, .int 0])), (q_1, .inl (cI, 8, .inl (fun _ => 0))), (q_3, .inl (cI, 16, .inl (fun _ => 0))), (q_5, .inl (cI, 16, .inl (fun _ => 0))), (q_7, .inl (cJ, 16, .inr (.inl (fun _ => 0)))), (q_9, .inl (cI, 16, .inl (fun _ => 0))), (q_11, .inl (cI, 16, .inl (fun _ => 0))), (q_13, .inl (cI, 8, .inl (fun _ => 0))), (q_15, .inl (cI, 16, .inl (fun _ => 0))), (q_17, .inl (cI, 16, .inl (fun _ => 0))), (q_19, .inl (cJ, 16, .inr (.inl (fun _ => 0)))), (q_21, .inl (cI, 16, .inl (fun _ => 0)))] := hD
  refine W.widen (k := 11) (n := 160) (by first | exact Nat.le_refl _ | omega) (by first | exact Nat.le_refl _ | omega) ?_
  refine va_putF (D := (dC, dI)) (ci := 1) (v := .ref q_21) (ty := .array .int) (C := RR_M) (T := TT_M) (N := 33) hx hb hw hh_M ty_M ty_M_ok nm_M hown hK hP hD hS 0 rfl rfl 20 (by decide) (hw _ qq_599) (fun _ h9 => h9) rfl hin rfl (by decide +kernel) rfl rfl (Nat.le_of_ble_eq_true rfl) dd_M_init_89 (fun H locs hP hD hS => ?_)
  have hP : va_P (dC, dI) vcl [(h0, .inr (1, [.int 0, .int 0, .int 0, .int 0, .int 0, .ref q_1, .int 0, .ref q_3, .ref q_5, .ref q_7, .ref q_9, .ref q_11, .int 0, .int 0, .int 0, .ref q_13, .int 0, .ref q_15, .ref q_17, .ref q_19, .ref q_21, .null, .null, .int 0, .null, .int 0, .int 0, .int 0, .int 0, .null, .int 0, .int 0, .int 0])), (q_1, .inl (cI, 8, .inl (fun _ => 0))), (q_3, .inl (cI, 16, .inl (fun _ => 0))), (q_5, .inl (cI, 16, .inl (fun _ => 0))), (q_7, .inl (cJ, 16, .inr (.inl (fun _ => 0)))), (q_9, .inl (cI, 16, .inl (fun _ => 0))), (q_11, .inl (cI, 16, .inl (fun _ => 0))), (q_13, .inl (cI, 8, .inl (fun _ => 0))), (q_15, .inl (cI, 16, .inl (fun _ => 0))), (q_17, .inl (cI, 16, .inl (fun _ => 0))), (q_19, .inl (cJ, 16, .inr (.inl (fun _ => 0)))), (q_21, .inl (cI, 16, .inl (fun _ => 0)))] H := hP
  have hD : va_D A [(h0, .inr (1, [.int 0, .int 0, .int 0, .int 0, .int 0, .ref q_1, .int 0, .ref q_3, .ref q_5, .ref q_7, .ref q_9, .ref q_11, .int 0, .int 0, .int 0, .ref q_13, .int 0, .ref q_15, .ref q_17, .ref q_19, .ref q_21, .null, .null, .int 0, .null, .int 0, .int 0, .int 0, .int 0, .null, .int 0, .int 0, .int 0])), (q_1, .inl (cI, 8, .inl (fun _ => 0))), (q_3, .inl (cI, 16, .inl (fun _ => 0))), (q_5, .inl (cI, 16, .inl (fun _ => 0))), (q_7, .inl (cJ, 16, .inr (.inl (fun _ => 0)))), (q_9, .inl (cI, 16, .inl (fun _ => 0))), (q_11, .inl (cI, 16, .inl (fun _ => 0))), (q_13, .inl (cI, 8, .inl (fun _ => 0))), (q_15, .inl (cI, 16, .inl (fun _ => 0))), (q_17, .inl (cI, 16, .inl (fun _ => 0))), (q_19, .inl (cJ, 16, .inr (.inl (fun _ => 0)))), (q_21, .inl (cI, 16, .inl (fun _ => 0)))] := hD
  refine lv_aload_n hx hb dd_M_init_92 rfl (lv_at hl 0 rfl) ?_
  refine lv_bipush (v := 16) hx hb dd_M_init_93 (by decide) ?_
  refine va_newa (atype := .int) (ty := .int) (N' := 16) (a0 := (16, .inl (fun _ => 0))) hx hb (hw _ qq_120) rfl hK hP hD hS hA (fun _ => rfl) (by decide) (by decide) (by first | decide | (simp only [componentBytes]; omega)) (by first | exact Nat.le_of_ble_eq_true rfl | (simp only [headSpec]; omega)) (by first | exact Nat.le_of_ble_eq_true rfl | (simp only [headSpec]; omega)) dd_M_init_95 (fun q_23 cA_24 H hK hP hD hS => ?_)
  obtain rfl : cI = cA_24 := ks_eqI hK 1 3 rfl rfl
  have hK : va_K (dC, dI) vcl [(cB, .byte), (cI, .int), (cJ, .long)] s := hK.sub [0, 1, 2] rfl
  have hP : va_P (dC, dI) vcl [(h0, .inr (1, [.int 0, .int 0, .int 0, .int 0, .int 0, .ref q_1, .int 0, .ref q_3, .ref q_5, .ref q_7, .ref q_9, .ref q_11, .int 0, .int 0, .int 0, .ref q_13, .int 0, .ref q_15, .ref q_17, .ref q_19, .ref q_21, .null, .null, .int 0, .null, .int 0, .int 0, .int 0, .int 0, .null, .int 0, .int 0, .int 0])), (q_1, .inl (cI, 8, .inl (fun _ => 0))), (q_3, .inl (cI, 16, .inl (fun _ => 0))), (q_5, .inl (cI, 16, .inl (fun _ => 0))), (q_7, .inl (cJ, 16, .inr (.inl (fun _ => 0)))), (q_9, .inl (cI, 16, .inl (fun _ => 0))), (q_11, .inl (cI, 16, .inl (fun _ => 0))), (q_13, .inl (cI, 8, .inl (fun _ => 0))), (q_15, .inl (cI, 16, .inl (fun _ => 0))), (q_17, .inl (cI, 16, .inl (fun _ => 0))), (q_19, .inl (cJ, 16, .inr (.inl (fun _ => 0)))), (q_21, .inl (cI, 16, .inl (fun _ => 0))), (q_23, .inl (cI, 16, .inl (fun _ => 0)))] H := hP
  have hD : va_D A [(h0, .inr (1, [.int 0, .int 0, .int 0, .int 0, .int 0, .ref q_1, .int 0, .ref q_3, .ref q_5, .ref q_7, .ref q_9, .ref q_11, .int 0, .int 0, .int 0, .ref q_13, .int 0, .ref q_15, .ref q_17, .ref q_19, .ref q_21, .null, .null, .int 0, .null, .int 0, .int 0, .int 0, .int 0, .null, .int 0, .int 0, .int 0])), (q_1, .inl (cI, 8, .inl (fun _ => 0))), (q_3, .inl (cI, 16, .inl (fun _ => 0))), (q_5, .inl (cI, 16, .inl (fun _ => 0))), (q_7, .inl (cJ, 16, .inr (.inl (fun _ => 0)))), (q_9, .inl (cI, 16, .inl (fun _ => 0))), (q_11, .inl (cI, 16, .inl (fun _ => 0))), (q_13, .inl (cI, 8, .inl (fun _ => 0))), (q_15, .inl (cI, 16, .inl (fun _ => 0))), (q_17, .inl (cI, 16, .inl (fun _ => 0))), (q_19, .inl (cJ, 16, .inr (.inl (fun _ => 0)))), (q_21, .inl (cI, 16, .inl (fun _ => 0))), (q_23, .inl (cI, 16, .inl (fun _ => 0)))] := hD
  refine W.widen (k := 12) (n := 176) (by first | exact Nat.le_refl _ | omega) (by first | exact Nat.le_refl _ | omega) ?_
  refine va_putF (D := (dC, dI)) (ci := 1) (v := .ref q_23) (ty := .array .int) (C := RR_M) (T := TT_M) (N := 33) hx hb hw hh_M ty_M ty_M_ok nm_M hown hK hP hD hS 0 rfl rfl 21 (by decide) (hw _ qq_600) (fun _ h9 => h9) rfl hin rfl (by decide +kernel) rfl rfl (Nat.le_of_ble_eq_true rfl) dd_M_init_97 (fun H locs hP hD hS => ?_)
  have hP : va_P (dC, dI) vcl [(h0, .inr (1, [.int 0, .int 0, .int 0, .int 0, .int 0, .ref q_1, .int 0, .ref q_3, .ref q_5, .ref q_7, .ref q_9, .ref q_11, .int 0, .int 0, .int 0, .ref q_13, .int 0, .ref q_15, .ref q_17, .ref q_19, .ref q_21, .ref q_23, .null, .int 0, .null, .int 0, .int 0, .int 0, .int 0, .null, .int 0, .int 0, .int 0])), (q_1, .inl (cI, 8, .inl (fun _ => 0))), (q_3, .inl (cI, 16, .inl (fun _ => 0))), (q_5, .inl (cI, 16, .inl (fun _ => 0))), (q_7, .inl (cJ, 16, .inr (.inl (fun _ => 0)))), (q_9, .inl (cI, 16, .inl (fun _ => 0))), (q_11, .inl (cI, 16, .inl (fun _ => 0))), (q_13, .inl (cI, 8, .inl (fun _ => 0))), (q_15, .inl (cI, 16, .inl (fun _ => 0))), (q_17, .inl (cI, 16, .inl (fun _ => 0))), (q_19, .inl (cJ, 16, .inr (.inl (fun _ => 0)))), (q_21, .inl (cI, 16, .inl (fun _ => 0))), (q_23, .inl (cI, 16, .inl (fun _ => 0)))] H := hP
  have hD : va_D A [(h0, .inr (1, [.int 0, .int 0, .int 0, .int 0, .int 0, .ref q_1, .int 0, .ref q_3, .ref q_5, .ref q_7, .ref q_9, .ref q_11, .int 0, .int 0, .int 0, .ref q_13, .int 0, .ref q_15, .ref q_17, .ref q_19, .ref q_21, .ref q_23, .null, .int 0, .null, .int 0, .int 0, .int 0, .int 0, .null, .int 0, .int 0, .int 0])), (q_1, .inl (cI, 8, .inl (fun _ => 0))), (q_3, .inl (cI, 16, .inl (fun _ => 0))), (q_5, .inl (cI, 16, .inl (fun _ => 0))), (q_7, .inl (cJ, 16, .inr (.inl (fun _ => 0)))), (q_9, .inl (cI, 16, .inl (fun _ => 0))), (q_11, .inl (cI, 16, .inl (fun _ => 0))), (q_13, .inl (cI, 8, .inl (fun _ => 0))), (q_15, .inl (cI, 16, .inl (fun _ => 0))), (q_17, .inl (cI, 16, .inl (fun _ => 0))), (q_19, .inl (cJ, 16, .inr (.inl (fun _ => 0)))), (q_21, .inl (cI, 16, .inl (fun _ => 0))), (q_23, .inl (cI, 16, .inl (fun _ => 0)))] := hD
  refine lv_aload_n hx hb dd_M_init_100 rfl (lv_at hl 0 rfl) ?_
  refine lv_sipush (v := 4096) hx hb dd_M_init_101 (by decide) ?_
  refine va_newa (atype := .byte) (ty := .byte) (N' := 4096) (a0 := (4096, .inl (fun _ => 0))) hx hb (hw _ qq_41) rfl hK hP hD hS hA (fun _ => rfl) (by decide) (by decide) (by first | decide | (simp only [componentBytes]; omega)) (by first | exact Nat.le_of_ble_eq_true rfl | (simp only [headSpec]; omega)) (by first | exact Nat.le_of_ble_eq_true rfl | (simp only [headSpec]; omega)) dd_M_init_104 (fun q_25 cA_26 H hK hP hD hS => ?_)
  obtain rfl : cB = cA_26 := ks_eqB hK 0 3 rfl rfl
  have hK : va_K (dC, dI) vcl [(cB, .byte), (cI, .int), (cJ, .long)] s := hK.sub [0, 1, 2] rfl
  have hP : va_P (dC, dI) vcl [(h0, .inr (1, [.int 0, .int 0, .int 0, .int 0, .int 0, .ref q_1, .int 0, .ref q_3, .ref q_5, .ref q_7, .ref q_9, .ref q_11, .int 0, .int 0, .int 0, .ref q_13, .int 0, .ref q_15, .ref q_17, .ref q_19, .ref q_21, .ref q_23, .null, .int 0, .null, .int 0, .int 0, .int 0, .int 0, .null, .int 0, .int 0, .int 0])), (q_1, .inl (cI, 8, .inl (fun _ => 0))), (q_3, .inl (cI, 16, .inl (fun _ => 0))), (q_5, .inl (cI, 16, .inl (fun _ => 0))), (q_7, .inl (cJ, 16, .inr (.inl (fun _ => 0)))), (q_9, .inl (cI, 16, .inl (fun _ => 0))), (q_11, .inl (cI, 16, .inl (fun _ => 0))), (q_13, .inl (cI, 8, .inl (fun _ => 0))), (q_15, .inl (cI, 16, .inl (fun _ => 0))), (q_17, .inl (cI, 16, .inl (fun _ => 0))), (q_19, .inl (cJ, 16, .inr (.inl (fun _ => 0)))), (q_21, .inl (cI, 16, .inl (fun _ => 0))), (q_23, .inl (cI, 16, .inl (fun _ => 0))), (q_25, .inl (cB, 4096, .inl (fun _ => 0)))] H := hP
  have hD : va_D A [(h0, .inr (1, [.int 0, .int 0, .int 0, .int 0, .int 0, .ref q_1, .int 0, .ref q_3, .ref q_5, .ref q_7, .ref q_9, .ref q_11, .int 0, .int 0, .int 0, .ref q_13, .int 0, .ref q_15, .ref q_17, .ref q_19, .ref q_21, .ref q_23, .null, .int 0, .null, .int 0, .int 0, .int 0, .int 0, .null, .int 0, .int 0, .int 0])), (q_1, .inl (cI, 8, .inl (fun _ => 0))), (q_3, .inl (cI, 16, .inl (fun _ => 0))), (q_5, .inl (cI, 16, .inl (fun _ => 0))), (q_7, .inl (cJ, 16, .inr (.inl (fun _ => 0)))), (q_9, .inl (cI, 16, .inl (fun _ => 0))), (q_11, .inl (cI, 16, .inl (fun _ => 0))), (q_13, .inl (cI, 8, .inl (fun _ => 0))), (q_15, .inl (cI, 16, .inl (fun _ => 0))), (q_17, .inl (cI, 16, .inl (fun _ => 0))), (q_19, .inl (cJ, 16, .inr (.inl (fun _ => 0)))), (q_21, .inl (cI, 16, .inl (fun _ => 0))), (q_23, .inl (cI, 16, .inl (fun _ => 0))), (q_25, .inl (cB, 4096, .inl (fun _ => 0)))] := hD
  refine W.widen (k := 13) (n := 4272) (by first | exact Nat.le_refl _ | omega) (by first | exact Nat.le_refl _ | omega) ?_
  refine va_putF (D := (dC, dI)) (ci := 1) (v := .ref q_25) (ty := .array .byte) (C := RR_M) (T := TT_M) (N := 33) hx hb hw hh_M ty_M ty_M_ok nm_M hown hK hP hD hS 0 rfl rfl 22 (by decide) (hw _ qq_601) (fun _ h9 => h9) rfl hin rfl (by decide +kernel) rfl rfl (Nat.le_of_ble_eq_true rfl) dd_M_init_106 (fun H locs hP hD hS => ?_)
  have hP : va_P (dC, dI) vcl [(h0, .inr (1, [.int 0, .int 0, .int 0, .int 0, .int 0, .ref q_1, .int 0, .ref q_3, .ref q_5, .ref q_7, .ref q_9, .ref q_11, .int 0, .int 0, .int 0, .ref q_13, .int 0, .ref q_15, .ref q_17, .ref q_19, .ref q_21, .ref q_23, .ref q_25, .int 0, .null, .int 0, .int 0, .int 0, .int 0, .null, .int 0, .int 0, .int 0])), (q_1, .inl (cI, 8, .inl (fun _ => 0))), (q_3, .inl (cI, 16, .inl (fun _ => 0))), (q_5, .inl (cI, 16, .inl (fun _ => 0))), (q_7, .inl (cJ, 16, .inr (.inl (fun _ => 0)))), (q_9, .inl (cI, 16, .inl (fun _ => 0))), (q_11, .inl (cI, 16, .inl (fun _ => 0))), (q_13, .inl (cI, 8, .inl (fun _ => 0))), (q_15, .inl (cI, 16, .inl (fun _ => 0))), (q_17, .inl (cI, 16, .inl (fun _ => 0))), (q_19, .inl (cJ, 16, .inr (.inl (fun _ => 0)))), (q_21, .inl (cI, 16, .inl (fun _ => 0))), (q_23, .inl (cI, 16, .inl (fun _ => 0))), (q_25, .inl (cB, 4096, .inl (fun _ => 0)))] H := hP
  have hD : va_D A [(h0, .inr (1, [.int 0, .int 0, .int 0, .int 0, .int 0, .ref q_1, .int 0, .ref q_3, .ref q_5, .ref q_7, .ref q_9, .ref q_11, .int 0, .int 0, .int 0, .ref q_13, .int 0, .ref q_15, .ref q_17, .ref q_19, .ref q_21, .ref q_23, .ref q_25, .int 0, .null, .int 0, .int 0, .int 0, .int 0, .null, .int 0, .int 0, .int 0])), (q_1, .inl (cI, 8, .inl (fun _ => 0))), (q_3, .inl (cI, 16, .inl (fun _ => 0))), (q_5, .inl (cI, 16, .inl (fun _ => 0))), (q_7, .inl (cJ, 16, .inr (.inl (fun _ => 0)))), (q_9, .inl (cI, 16, .inl (fun _ => 0))), (q_11, .inl (cI, 16, .inl (fun _ => 0))), (q_13, .inl (cI, 8, .inl (fun _ => 0))), (q_15, .inl (cI, 16, .inl (fun _ => 0))), (q_17, .inl (cI, 16, .inl (fun _ => 0))), (q_19, .inl (cJ, 16, .inr (.inl (fun _ => 0)))), (q_21, .inl (cI, 16, .inl (fun _ => 0))), (q_23, .inl (cI, 16, .inl (fun _ => 0))), (q_25, .inl (cB, 4096, .inl (fun _ => 0)))] := hD
  refine lv_aload_n hx hb dd_M_init_109 rfl (lv_at hl 0 rfl) ?_
  refine lv_sipush (v := 4096) hx hb dd_M_init_110 (by decide) ?_
  refine va_newa (atype := .byte) (ty := .byte) (N' := 4096) (a0 := (4096, .inl (fun _ => 0))) hx hb (hw _ qq_41) rfl hK hP hD hS hA (fun _ => rfl) (by decide) (by decide) (by first | decide | (simp only [componentBytes]; omega)) (by first | exact Nat.le_of_ble_eq_true rfl | (simp only [headSpec]; omega)) (by first | exact Nat.le_of_ble_eq_true rfl | (simp only [headSpec]; omega)) dd_M_init_113 (fun q_27 cA_28 H hK hP hD hS => ?_)
  obtain rfl : cB = cA_28 := ks_eqB hK 0 3 rfl rfl
  have hK : va_K (dC, dI) vcl [(cB, .byte), (cI, .int), (cJ, .long)] s := hK.sub [0, 1, 2] rfl
  have hP : va_P (dC, dI) vcl [(h0, .inr (1, [.int 0, .int 0, .int 0, .int 0, .int 0, .ref q_1, .int 0, .ref q_3, .ref q_5, .ref q_7, .ref q_9, .ref q_11, .int 0, .int 0, .int 0, .ref q_13, .int 0, .ref q_15, .ref q_17, .ref q_19, .ref q_21, .ref q_23, .ref q_25, .int 0, .null, .int 0, .int 0, .int 0, .int 0, .null, .int 0, .int 0, .int 0])), (q_1, .inl (cI, 8, .inl (fun _ => 0))), (q_3, .inl (cI, 16, .inl (fun _ => 0))), (q_5, .inl (cI, 16, .inl (fun _ => 0))), (q_7, .inl (cJ, 16, .inr (.inl (fun _ => 0)))), (q_9, .inl (cI, 16, .inl (fun _ => 0))), (q_11, .inl (cI, 16, .inl (fun _ => 0))), (q_13, .inl (cI, 8, .inl (fun _ => 0))), (q_15, .inl (cI, 16, .inl (fun _ => 0))), (q_17, .inl (cI, 16, .inl (fun _ => 0))), (q_19, .inl (cJ, 16, .inr (.inl (fun _ => 0)))), (q_21, .inl (cI, 16, .inl (fun _ => 0))), (q_23, .inl (cI, 16, .inl (fun _ => 0))), (q_25, .inl (cB, 4096, .inl (fun _ => 0))), (q_27, .inl (cB, 4096, .inl (fun _ => 0)))] H := hP
  have hD : va_D A [(h0, .inr (1, [.int 0, .int 0, .int 0, .int 0, .int 0, .ref q_1, .int 0, .ref q_3, .ref q_5, .ref q_7, .ref q_9, .ref q_11, .int 0, .int 0, .int 0, .ref q_13, .int 0, .ref q_15, .ref q_17, .ref q_19, .ref q_21, .ref q_23, .ref q_25, .int 0, .null, .int 0, .int 0, .int 0, .int 0, .null, .int 0, .int 0, .int 0])), (q_1, .inl (cI, 8, .inl (fun _ => 0))), (q_3, .inl (cI, 16, .inl (fun _ => 0))), (q_5, .inl (cI, 16, .inl (fun _ => 0))), (q_7, .inl (cJ, 16, .inr (.inl (fun _ => 0)))), (q_9, .inl (cI, 16, .inl (fun _ => 0))), (q_11, .inl (cI, 16, .inl (fun _ => 0))), (q_13, .inl (cI, 8, .inl (fun _ => 0))), (q_15, .inl (cI, 16, .inl (fun _ => 0))), (q_17, .inl (cI, 16, .inl (fun _ => 0))), (q_19, .inl (cJ, 16, .inr (.inl (fun _ => 0)))), (q_21, .inl (cI, 16, .inl (fun _ => 0))), (q_23, .inl (cI, 16, .inl (fun _ => 0))), (q_25, .inl (cB, 4096, .inl (fun _ => 0))), (q_27, .inl (cB, 4096, .inl (fun _ => 0)))] := hD
  refine W.widen (k := 14) (n := 8368) (by first | exact Nat.le_refl _ | omega) (by first | exact Nat.le_refl _ | omega) ?_
  refine va_putF (D := (dC, dI)) (ci := 1) (v := .ref q_27) (ty := .array .byte) (C := RR_M) (T := TT_M) (N := 33) hx hb hw hh_M ty_M ty_M_ok nm_M hown hK hP hD hS 0 rfl rfl 24 (by decide) (hw _ qq_603) (fun _ h9 => h9) rfl hin rfl (by decide +kernel) rfl rfl (Nat.le_of_ble_eq_true rfl) dd_M_init_115 (fun H locs hP hD hS => ?_)
  have hP : va_P (dC, dI) vcl [(h0, .inr (1, [.int 0, .int 0, .int 0, .int 0, .int 0, .ref q_1, .int 0, .ref q_3, .ref q_5, .ref q_7, .ref q_9, .ref q_11, .int 0, .int 0, .int 0, .ref q_13, .int 0, .ref q_15, .ref q_17, .ref q_19, .ref q_21, .ref q_23, .ref q_25, .int 0, .ref q_27, .int 0, .int 0, .int 0, .int 0, .null, .int 0, .int 0, .int 0])), (q_1, .inl (cI, 8, .inl (fun _ => 0))), (q_3, .inl (cI, 16, .inl (fun _ => 0))), (q_5, .inl (cI, 16, .inl (fun _ => 0))), (q_7, .inl (cJ, 16, .inr (.inl (fun _ => 0)))), (q_9, .inl (cI, 16, .inl (fun _ => 0))), (q_11, .inl (cI, 16, .inl (fun _ => 0))), (q_13, .inl (cI, 8, .inl (fun _ => 0))), (q_15, .inl (cI, 16, .inl (fun _ => 0))), (q_17, .inl (cI, 16, .inl (fun _ => 0))), (q_19, .inl (cJ, 16, .inr (.inl (fun _ => 0)))), (q_21, .inl (cI, 16, .inl (fun _ => 0))), (q_23, .inl (cI, 16, .inl (fun _ => 0))), (q_25, .inl (cB, 4096, .inl (fun _ => 0))), (q_27, .inl (cB, 4096, .inl (fun _ => 0)))] H := hP
  have hD : va_D A [(h0, .inr (1, [.int 0, .int 0, .int 0, .int 0, .int 0, .ref q_1, .int 0, .ref q_3, .ref q_5, .ref q_7, .ref q_9, .ref q_11, .int 0, .int 0, .int 0, .ref q_13, .int 0, .ref q_15, .ref q_17, .ref q_19, .ref q_21, .ref q_23, .ref q_25, .int 0, .ref q_27, .int 0, .int 0, .int 0, .int 0, .null, .int 0, .int 0, .int 0])), (q_1, .inl (cI, 8, .inl (fun _ => 0))), (q_3, .inl (cI, 16, .inl (fun _ => 0))), (q_5, .inl (cI, 16, .inl (fun _ => 0))), (q_7, .inl (cJ, 16, .inr (.inl (fun _ => 0)))), (q_9, .inl (cI, 16, .inl (fun _ => 0))), (q_11, .inl (cI, 16, .inl (fun _ => 0))), (q_13, .inl (cI, 8, .inl (fun _ => 0))), (q_15, .inl (cI, 16, .inl (fun _ => 0))), (q_17, .inl (cI, 16, .inl (fun _ => 0))), (q_19, .inl (cJ, 16, .inr (.inl (fun _ => 0)))), (q_21, .inl (cI, 16, .inl (fun _ => 0))), (q_23, .inl (cI, 16, .inl (fun _ => 0))), (q_25, .inl (cB, 4096, .inl (fun _ => 0))), (q_27, .inl (cB, 4096, .inl (fun _ => 0)))] := hD
  refine lv_aload_n hx hb dd_M_init_118 rfl (lv_at hl 0 rfl) ?_
  refine lv_iconst (v := -1) hx hb dd_M_init_119 (by decide) ?_
  refine va_put (D := (dC, dI)) (ci := 1) (v := .int (-1)) (ty := .int) (C := RR_M) (T := TT_M) (N := 33) hx hb hw hh_M ty_M ty_M_ok nm_M hown hK hP hD hS 0 rfl rfl 28 (by decide) (hw _ qq_607) (fun _ h9 => h9) rfl (by decide +kernel) rfl rfl (Nat.le_of_ble_eq_true rfl) dd_M_init_120 (fun H locs hP hD hS => ?_)
  have hP : va_P (dC, dI) vcl [(h0, .inr (1, [.int 0, .int 0, .int 0, .int 0, .int 0, .ref q_1, .int 0, .ref q_3, .ref q_5, .ref q_7, .ref q_9, .ref q_11, .int 0, .int 0, .int 0, .ref q_13, .int 0, .ref q_15, .ref q_17, .ref q_19, .ref q_21, .ref q_23, .ref q_25, .int 0, .ref q_27, .int 0, .int 0, .int 0, .int (-1), .null, .int 0, .int 0, .int 0])), (q_1, .inl (cI, 8, .inl (fun _ => 0))), (q_3, .inl (cI, 16, .inl (fun _ => 0))), (q_5, .inl (cI, 16, .inl (fun _ => 0))), (q_7, .inl (cJ, 16, .inr (.inl (fun _ => 0)))), (q_9, .inl (cI, 16, .inl (fun _ => 0))), (q_11, .inl (cI, 16, .inl (fun _ => 0))), (q_13, .inl (cI, 8, .inl (fun _ => 0))), (q_15, .inl (cI, 16, .inl (fun _ => 0))), (q_17, .inl (cI, 16, .inl (fun _ => 0))), (q_19, .inl (cJ, 16, .inr (.inl (fun _ => 0)))), (q_21, .inl (cI, 16, .inl (fun _ => 0))), (q_23, .inl (cI, 16, .inl (fun _ => 0))), (q_25, .inl (cB, 4096, .inl (fun _ => 0))), (q_27, .inl (cB, 4096, .inl (fun _ => 0)))] H := hP
  have hD : va_D A [(h0, .inr (1, [.int 0, .int 0, .int 0, .int 0, .int 0, .ref q_1, .int 0, .ref q_3, .ref q_5, .ref q_7, .ref q_9, .ref q_11, .int 0, .int 0, .int 0, .ref q_13, .int 0, .ref q_15, .ref q_17, .ref q_19, .ref q_21, .ref q_23, .ref q_25, .int 0, .ref q_27, .int 0, .int 0, .int 0, .int (-1), .null, .int 0, .int 0, .int 0])), (q_1, .inl (cI, 8, .inl (fun _ => 0))), (q_3, .inl (cI, 16, .inl (fun _ => 0))), (q_5, .inl (cI, 16, .inl (fun _ => 0))), (q_7, .inl (cJ, 16, .inr (.inl (fun _ => 0)))), (q_9, .inl (cI, 16, .inl (fun _ => 0))), (q_11, .inl (cI, 16, .inl (fun _ => 0))), (q_13, .inl (cI, 8, .inl (fun _ => 0))), (q_15, .inl (cI, 16, .inl (fun _ => 0))), (q_17, .inl (cI, 16, .inl (fun _ => 0))), (q_19, .inl (cJ, 16, .inr (.inl (fun _ => 0)))), (q_21, .inl (cI, 16, .inl (fun _ => 0))), (q_23, .inl (cI, 16, .inl (fun _ => 0))), (q_25, .inl (cB, 4096, .inl (fun _ => 0))), (q_27, .inl (cB, 4096, .inl (fun _ => 0)))] := hD
  refine lv_aload_n hx hb dd_M_init_123 rfl (lv_at hl 0 rfl) ?_
  refine lv_sipush (v := 1400) hx hb dd_M_init_124 (by decide) ?_
  refine va_newa (atype := .byte) (ty := .byte) (N' := 1400) (a0 := (1400, .inl (fun _ => 0))) hx hb (hw _ qq_41) rfl hK hP hD hS hA (fun _ => rfl) (by decide) (by decide) (by first | decide | (simp only [componentBytes]; omega)) (by first | exact Nat.le_of_ble_eq_true rfl | (simp only [headSpec]; omega)) (by first | exact Nat.le_of_ble_eq_true rfl | (simp only [headSpec]; omega)) dd_M_init_127 (fun q_29 cA_30 H hK hP hD hS => ?_)
  obtain rfl : cB = cA_30 := ks_eqB hK 0 3 rfl rfl
  have hK : va_K (dC, dI) vcl [(cB, .byte), (cI, .int), (cJ, .long)] s := hK.sub [0, 1, 2] rfl
  have hP : va_P (dC, dI) vcl [(h0, .inr (1, [.int 0, .int 0, .int 0, .int 0, .int 0, .ref q_1, .int 0, .ref q_3, .ref q_5, .ref q_7, .ref q_9, .ref q_11, .int 0, .int 0, .int 0, .ref q_13, .int 0, .ref q_15, .ref q_17, .ref q_19, .ref q_21, .ref q_23, .ref q_25, .int 0, .ref q_27, .int 0, .int 0, .int 0, .int (-1), .null, .int 0, .int 0, .int 0])), (q_1, .inl (cI, 8, .inl (fun _ => 0))), (q_3, .inl (cI, 16, .inl (fun _ => 0))), (q_5, .inl (cI, 16, .inl (fun _ => 0))), (q_7, .inl (cJ, 16, .inr (.inl (fun _ => 0)))), (q_9, .inl (cI, 16, .inl (fun _ => 0))), (q_11, .inl (cI, 16, .inl (fun _ => 0))), (q_13, .inl (cI, 8, .inl (fun _ => 0))), (q_15, .inl (cI, 16, .inl (fun _ => 0))), (q_17, .inl (cI, 16, .inl (fun _ => 0))), (q_19, .inl (cJ, 16, .inr (.inl (fun _ => 0)))), (q_21, .inl (cI, 16, .inl (fun _ => 0))), (q_23, .inl (cI, 16, .inl (fun _ => 0))), (q_25, .inl (cB, 4096, .inl (fun _ => 0))), (q_27, .inl (cB, 4096, .inl (fun _ => 0))), (q_29, .inl (cB, 1400, .inl (fun _ => 0)))] H := hP
  have hD : va_D A [(h0, .inr (1, [.int 0, .int 0, .int 0, .int 0, .int 0, .ref q_1, .int 0, .ref q_3, .ref q_5, .ref q_7, .ref q_9, .ref q_11, .int 0, .int 0, .int 0, .ref q_13, .int 0, .ref q_15, .ref q_17, .ref q_19, .ref q_21, .ref q_23, .ref q_25, .int 0, .ref q_27, .int 0, .int 0, .int 0, .int (-1), .null, .int 0, .int 0, .int 0])), (q_1, .inl (cI, 8, .inl (fun _ => 0))), (q_3, .inl (cI, 16, .inl (fun _ => 0))), (q_5, .inl (cI, 16, .inl (fun _ => 0))), (q_7, .inl (cJ, 16, .inr (.inl (fun _ => 0)))), (q_9, .inl (cI, 16, .inl (fun _ => 0))), (q_11, .inl (cI, 16, .inl (fun _ => 0))), (q_13, .inl (cI, 8, .inl (fun _ => 0))), (q_15, .inl (cI, 16, .inl (fun _ => 0))), (q_17, .inl (cI, 16, .inl (fun _ => 0))), (q_19, .inl (cJ, 16, .inr (.inl (fun _ => 0)))), (q_21, .inl (cI, 16, .inl (fun _ => 0))), (q_23, .inl (cI, 16, .inl (fun _ => 0))), (q_25, .inl (cB, 4096, .inl (fun _ => 0))), (q_27, .inl (cB, 4096, .inl (fun _ => 0))), (q_29, .inl (cB, 1400, .inl (fun _ => 0)))] := hD
  refine W.widen (k := 15) (n := 9768) (by first | exact Nat.le_refl _ | omega) (by first | exact Nat.le_refl _ | omega) ?_
  refine va_putF (D := (dC, dI)) (ci := 1) (v := .ref q_29) (ty := .array .byte) (C := RR_M) (T := TT_M) (N := 33) hx hb hw hh_M ty_M ty_M_ok nm_M hown hK hP hD hS 0 rfl rfl 29 (by decide) (hw _ qq_608) (fun _ h9 => h9) rfl hin rfl (by decide +kernel) rfl rfl (Nat.le_of_ble_eq_true rfl) dd_M_init_129 (fun H locs hP hD hS => ?_)
  have hP : va_P (dC, dI) vcl [(h0, .inr (1, [.int 0, .int 0, .int 0, .int 0, .int 0, .ref q_1, .int 0, .ref q_3, .ref q_5, .ref q_7, .ref q_9, .ref q_11, .int 0, .int 0, .int 0, .ref q_13, .int 0, .ref q_15, .ref q_17, .ref q_19, .ref q_21, .ref q_23, .ref q_25, .int 0, .ref q_27, .int 0, .int 0, .int 0, .int (-1), .ref q_29, .int 0, .int 0, .int 0])), (q_1, .inl (cI, 8, .inl (fun _ => 0))), (q_3, .inl (cI, 16, .inl (fun _ => 0))), (q_5, .inl (cI, 16, .inl (fun _ => 0))), (q_7, .inl (cJ, 16, .inr (.inl (fun _ => 0)))), (q_9, .inl (cI, 16, .inl (fun _ => 0))), (q_11, .inl (cI, 16, .inl (fun _ => 0))), (q_13, .inl (cI, 8, .inl (fun _ => 0))), (q_15, .inl (cI, 16, .inl (fun _ => 0))), (q_17, .inl (cI, 16, .inl (fun _ => 0))), (q_19, .inl (cJ, 16, .inr (.inl (fun _ => 0)))), (q_21, .inl (cI, 16, .inl (fun _ => 0))), (q_23, .inl (cI, 16, .inl (fun _ => 0))), (q_25, .inl (cB, 4096, .inl (fun _ => 0))), (q_27, .inl (cB, 4096, .inl (fun _ => 0))), (q_29, .inl (cB, 1400, .inl (fun _ => 0)))] H := hP
  have hD : va_D A [(h0, .inr (1, [.int 0, .int 0, .int 0, .int 0, .int 0, .ref q_1, .int 0, .ref q_3, .ref q_5, .ref q_7, .ref q_9, .ref q_11, .int 0, .int 0, .int 0, .ref q_13, .int 0, .ref q_15, .ref q_17, .ref q_19, .ref q_21, .ref q_23, .ref q_25, .int 0, .ref q_27, .int 0, .int 0, .int 0, .int (-1), .ref q_29, .int 0, .int 0, .int 0])), (q_1, .inl (cI, 8, .inl (fun _ => 0))), (q_3, .inl (cI, 16, .inl (fun _ => 0))), (q_5, .inl (cI, 16, .inl (fun _ => 0))), (q_7, .inl (cJ, 16, .inr (.inl (fun _ => 0)))), (q_9, .inl (cI, 16, .inl (fun _ => 0))), (q_11, .inl (cI, 16, .inl (fun _ => 0))), (q_13, .inl (cI, 8, .inl (fun _ => 0))), (q_15, .inl (cI, 16, .inl (fun _ => 0))), (q_17, .inl (cI, 16, .inl (fun _ => 0))), (q_19, .inl (cJ, 16, .inr (.inl (fun _ => 0)))), (q_21, .inl (cI, 16, .inl (fun _ => 0))), (q_23, .inl (cI, 16, .inl (fun _ => 0))), (q_25, .inl (cB, 4096, .inl (fun _ => 0))), (q_27, .inl (cB, 4096, .inl (fun _ => 0))), (q_29, .inl (cB, 1400, .inl (fun _ => 0)))] := hD
  have hP9 := hP.sub (ws' := [(h0, .inr (1, [.int 0, .int 0, .int 0, .int 0, .int 0, .ref q_1, .int 0, .ref q_3, .ref q_5, .ref q_7, .ref q_9, .ref q_11, .int 0, .int 0, .int 0, .ref q_13, .int 0, .ref q_15, .ref q_17, .ref q_19, .ref q_21, .ref q_23, .ref q_25, .int 0, .ref q_27, .int 0, .int 0, .int 0, .int (-1), .ref q_29, .int 0, .int 0, .int 0])), (q_1, .inl (cI, 8, .inl (fun _ => 0))), (q_3, .inl (cI, 16, .inl (fun _ => 0))), (q_5, .inl (cI, 16, .inl (fun _ => 0))), (q_7, .inl (cJ, 16, .inr (.inl (fun _ => 0)))), (q_9, .inl (cI, 16, .inl (fun _ => 0))), (q_11, .inl (cI, 16, .inl (fun _ => 0))), (q_13, .inl (cI, 8, .inl (fun _ => 0))), (q_15, .inl (cI, 16, .inl (fun _ => 0))), (q_17, .inl (cI, 16, .inl (fun _ => 0))), (q_19, .inl (cJ, 16, .inr (.inl (fun _ => 0)))), (q_21, .inl (cI, 16, .inl (fun _ => 0))), (q_23, .inl (cI, 16, .inl (fun _ => 0))), (q_25, .inl (cB, 4096, .inl (fun _ => 0))), (q_27, .inl (cB, 4096, .inl (fun _ => 0))), (q_29, .inl (cB, 1400, .inl (fun _ => 0)))]) [0, 1, 2, 3, 4, 5, 6, 7, 8, 9, 10, 11, 12, 13, 14, 15] rfl
  have hD9 := hD.sub (ws' := [(h0, .inr (1, [.int 0, .int 0, .int 0, .int 0, .int 0, .ref q_1, .int 0, .ref q_3, .ref q_5, .ref q_7, .ref q_9, .ref q_11, .int 0, .int 0, .int 0, .ref q_13, .int 0, .ref q_15, .ref q_17, .ref q_19, .ref q_21, .ref q_23, .ref q_25, .int 0, .ref q_27, .int 0, .int 0, .int 0, .int (-1), .ref q_29, .int 0, .int 0, .int 0])), (q_1, .inl (cI, 8, .inl (fun _ => 0))), (q_3, .inl (cI, 16, .inl (fun _ => 0))), (q_5, .inl (cI, 16, .inl (fun _ => 0))), (q_7, .inl (cJ, 16, .inr (.inl (fun _ => 0)))), (q_9, .inl (cI, 16, .inl (fun _ => 0))), (q_11, .inl (cI, 16, .inl (fun _ => 0))), (q_13, .inl (cI, 8, .inl (fun _ => 0))), (q_15, .inl (cI, 16, .inl (fun _ => 0))), (q_17, .inl (cI, 16, .inl (fun _ => 0))), (q_19, .inl (cJ, 16, .inr (.inl (fun _ => 0)))), (q_21, .inl (cI, 16, .inl (fun _ => 0))), (q_23, .inl (cI, 16, .inl (fun _ => 0))), (q_25, .inl (cB, 4096, .inl (fun _ => 0))), (q_27, .inl (cB, 4096, .inl (fun _ => 0))), (q_29, .inl (cB, 1400, .inl (fun _ => 0)))]) [0, 1, 2, 3, 4, 5, 6, 7, 8, 9, 10, 11, 12, 13, 14, 15] (by decide) rfl
  refine W.widen (k := 15) (n := 9768) (by first | exact Nat.le_refl _ | omega) (by first | exact Nat.le_refl _ | omega) ?_
  exact W.vret hx hb hr (fun t ht hW => ⟨⟨(fun j => match j with | 0 => q_1 | 1 => q_3 | 2 => q_5 | 3 => q_7 | 4 => q_9 | 5 => q_11 | 6 => q_13 | 7 => q_15 | 8 => q_17 | 9 => q_19 | 10 => q_21 | 11 => q_23 | 12 => q_25 | 13 => q_27 | _ => q_29), rfl, trivial, by rw [ht]; exact hP9, va_K.moved hW.alike hK, hD9⟩, hS.F ht⟩) hS.2.2 dd_M_init_132
end
section
/-! ===== the claim is false: what the constructors alone make is more than its slots ===== -/
def R_law : String := "ChangeCodecLaw"
def lw_P (b : Addr) (xs : List Int32) (args : Array Value) (s : State) : Prop := args = #[.ref b] ∧ s.IntsAt b xs ∧ xs.length ≤ 3584 ∧ (Jvm.Cond.and given_1 narrow_1).before args s = true
def lw_At (p : Program) (s : State) (m : MethodId) (meth : Method) (c : Code) (b L : Nat) (xs : Nat → Int32) : Prop :=
  p.tables.exec = Jvm.exec ∧ c.code = code ∧ meth.sig.returnType = ret ∧ c.maxLocals = 8 ∧ s.vm.findClass R_law = some m.cls ∧ (∀ w ∈ lw_tbl, w.before #[Value.ref b] s = true) ∧ va_X b L xs s s.heap ∧ b < s.heap.size ∧ meth.locks = false ∧ (Jvm.Cond.and given_1 narrow_1).before #[Value.ref b] s = true
def rf_R : Room := { frames := 10, cells := 1072, slots := 20000, locals := 382 }
/-- the slots of the cells that are new since n -/
def rf_new (n : Nat) (H : Heap) : Nat := ((H.toList.drop n).map (fun c => c.slots.size)).sum
def rf_sz (q : Nat × va_E) : Nat := match q.2 with
  | .inl a => a.2.1
  | .inr _ => 0
theorem rf_cell (cA : ClassId) (x : vp_A) : (vp_cell cA x).slots.size = x.1 := by
  obtain ⟨n, f | f | f | f | f⟩ := x
  · rw [vp_cell_i, arrV_size]
  · rw [vp_cell_l, arrV_size]
  · rw [vp_cell_f, arrV_size]
  · rw [vp_cell_d, arrV_size]
  · rw [vp_cell_q, arrV_size]
theorem rf_set : ∀ (l : List Nat) (j z : Nat), l[j]? = some z → l.sum = z + (l.set j 0).sum := by
  intro l
  induction l with
  | nil => intro j z h; simp at h
  | cons a t ih =>
    intro j z h
    cases j with
    | zero => simp at h; subst h; simp
    | succ j =>
      have h1 := ih j z (by simpa using h)
      simp only [List.set_cons_succ, List.sum_cons]
      omega
theorem rf_pick : ∀ (ps : List (Nat × Nat)) (l : List Nat), (ps.map (fun q => q.1)).Nodup → (∀ q ∈ ps, l[q.1]? = some q.2) → (ps.map (fun q => q.2)).sum ≤ l.sum := by
  intro ps
  induction ps with
  | nil => intro l _ _; simp
  | cons q t ih =>
    intro l hn hq
    have h0 := hq q List.mem_cons_self
    have h1 := rf_set l q.1 q.2 h0
    rw [List.map_cons, List.nodup_cons] at hn
    have h2 := ih (l.set q.1 0) hn.2 (fun r hr => by
      have hne : q.1 ≠ r.1 := fun e => hn.1 (by rw [e]; exact List.mem_map.mpr ⟨r, hr, rfl⟩)
      rw [List.getElem?_set_ne hne]
      exact hq r (List.mem_cons_of_mem _ hr))
    rw [List.map_cons, List.sum_cons, h1]
    omega
theorem rf_nd {n : Nat} : ∀ (ws : va_W), va_D (fun q => n ≤ q) ws → ((ws.map (fun q => (q.1 - n, rf_sz q))).map (fun q => q.1)).Nodup := by
  intro ws hD
  rw [List.map_map, List.Nodup, List.pairwise_iff_getElem]
  intro i j hi hj hij e
  rw [List.length_map] at hi hj
  simp only [List.getElem_map, Function.comp] at e
  have a1 := hD.2 i _ (List.getElem?_eq_getElem hi)
  have a2 := hD.2 j _ (List.getElem?_eq_getElem hj)
  have := hD.1 i j _ _ (List.getElem?_eq_getElem hi) (List.getElem?_eq_getElem hj) (by simp only at a1 a2; omega)
  omega
theorem rf_sum {D : va_G} {cl : List vw_C} {n : Nat} {H : Heap} (ws : va_W) (ha : ∀ q ∈ ws, ∃ a, q.2 = .inl a) (hP : va_P D cl ws H) (hD : va_D (fun q => n ≤ q) ws) : (ws.map rf_sz).sum ≤ rf_new n H := by
  have h := rf_pick (ws.map (fun q => (q.1 - n, rf_sz q))) ((H.toList.drop n).map (fun c => c.slots.size)) (rf_nd ws hD) (fun r hr => by
    obtain ⟨q, hq, rfl⟩ := List.mem_map.mp hr
    obtain ⟨i, hi⟩ := List.getElem?_of_mem hq
    obtain ⟨a, ea⟩ := ha q hq
    have hle : n ≤ q.1 := hD.2 i q hi
    have hc := hP i q hi
    obtain ⟨q1, q2⟩ := q
    simp only at ea hle hc ⊢
    subst ea
    have hc : H[q1]? = some (vp_cell a.1 a.2) := hc
    rw [List.getElem?_map, List.getElem?_drop, show n + (q1 - n) = q1 by omega, Array.getElem?_toList, hc]
    simp only [Option.map_some, rf_cell]
    rfl)
  rw [List.map_map] at h
  exact h
/-- the law has returned, and has made more slots than the claim allows -/
def rf_Z (below : List Frame) (s : State) : State → Prop := fun t => t.status = .running ∧ Ended t below (.returned (some (.int 1))) ∧ 18263 < rf_new s.heap.size t.heap
theorem rf_ret {p : Program} {l : Launch} {e : Env} {R : Room} {s : State} {m : MethodId} {below : List Frame} {meth : Method} {c : Code} {b : Nat} {locs : List Loc} {cells slots : Nat} (hx : p.tables.exec = Jvm.exec) (hb : c.code = code) (hr : meth.sig.returnType = ret) (hlocks : meth.locks = false) {pc : Nat} {H : Heap} {ls : Array Slot} (hdg : decode code pc = .ok (.ireturn, 1)) (hq : 18263 < rf_new s.heap.size H) : W p l e R s m #[Value.ref b] below meth c H locs cells slots (rf_Z below s) (F0 m pc ls [.int 1]) := by
  intro T hT X
  obtain ⟨fs, hret, hrun, hended, hW, hframe⟩ := X.leave (v := some (.int 1)) (hlocks := hlocks) (fun h => by rw [hr] at h; cases h)
  have hmeth' : T.vm.method? m = some meth := X.method'
  refine ⟨T.setFrames fs, ?_, hrun, hended, by show 18263 < rf_new s.heap.size T.heap; rw [hT]; exact hq⟩
  jvm_step X.here [X.here.top, hx, hb, hdg, hmeth', hr, ret, narrow_b1]
  (try refine ⟨rfl, ?_⟩); (try refine ⟨rfl, ?_⟩)
  first | (intro acts; rw [hret _ acts rfl rfl rfl]) | rw [hret _ _ rfl rfl rfl]
  exact Steps.refl _
theorem ks_arr {args : Array Value} {s : State} {ty : FieldType} (h : (Cond.arrayClass ty).before args s = true) : ∃ cA : ClassId, ArrOfT s cA ty ∧ s.vm.findClass ("[" ++ ty.toString) = some cA := by
  obtain ⟨c, k, comp, h1, h2, h3⟩ := Cond.arrayClass_spec h
  exact ⟨c, fun n z => ⟨fun k h => (by cases h), k, h2, comp, h3⟩, h1⟩
theorem ks_three {s : State} {D : va_G} {cB cI cJ : ClassId} (hk : ∀ (c : Nat) (q : vw_C), vcl[c]? = some q → u_Kn s q.1 q.2.1 q.2.2 (D.1 c) (D.2 c)) (h1 : ArrOfT s cB .byte ∧ s.vm.findClass ("[" ++ FieldType.byte.toString) = some cB) (h2 : ArrOfT s cI .int ∧ s.vm.findClass ("[" ++ FieldType.int.toString) = some cI) (h3 : ArrOfT s cJ .long ∧ s.vm.findClass ("[" ++ FieldType.long.toString) = some cJ) : va_K D vcl [(cB, .byte), (cI, .int), (cJ, .long)] s := by
  refine ⟨hk, fun k q hq => ?_⟩
  match k, hq with
  | 0, hq => cases hq; exact h1
  | 1, hq => cases hq; exact h2
  | 2, hq => cases hq; exact h3
  | k + 3, hq => simp at hq
theorem rf_lt : ∀ L, L < 7 → Int32.ofNat L - 7 < 0 := by decide
set_option maxHeartbeats 4000000 in
set_option maxRecDepth 100000 in
theorem rf_start {p : Program} {e : Env} {s : State} {m : MethodId} {below : List Frame} {meth : Method} {c : Code} (l : Launch) {b L : Nat} {xs : Nat → Int32} (hL : L < 7) (C0 : lw_At p s m meth c b L xs) : W p l e rf_R s m #[Value.ref b] below meth c s.heap [] 0 0 (rf_Z below s) (entryFrame m ([Value.ref b] : List Value).toArray 8) := by
  obtain ⟨hx, hb, hr, hml, hown, hts, hX, hbl, hlocks, hgv⟩ := id C0
  have hw : ∀ w ∈ gw, w.before #[Value.ref b] s = true := fun w h => hts w (List.mem_filter.mp h).1
  have hA : ∀ q : Nat, s.heap.size ≤ q → (fun q : Nat => s.heap.size ≤ q) q := fun _ h => h
  have hbA : ¬ (fun q : Nat => s.heap.size ≤ q) b := Nat.not_le.mpr hbl
  obtain ⟨c0, iS0, hKn0⟩ := u_known (C := RR_X) (T := TT_X) (N := 8) (n := 8) hw hh_X (hw _ qq_18)
  obtain ⟨c1, iS1, hKn1⟩ := u_known (C := RR_M) (T := TT_M) (N := 33) (n := 33) hw hh_M (hw _ qq_574)
  obtain ⟨c2, iS2, hKn2⟩ := u_known (C := RR_B) (T := TT_B) (N := 2) (n := 2) hw hh_B (hw _ qq_26)
  obtain ⟨c3, iS3, hKn3⟩ := u_known (C := RR_C) (T := TT_C) (N := 10) (n := 10) hw hh_C (hw _ qq_71)
  obtain ⟨c4, iS4, hKn4⟩ := u_known (C := RR_D) (T := TT_D) (N := 5) (n := 5) hw hh_D (hw _ qq_43)
  obtain ⟨dC, dI, hKc⟩ : ∃ (dC : Nat → ClassId) (dI : Nat → Nat → Nat), ∀ (k : Nat) (q : vw_C), vcl[k]? = some q → u_Kn s q.1 q.2.1 q.2.2 (dC k) (dI k) := by
    refine ⟨fun k => match k with | 0 => c0 | 1 => c1 | 2 => c2 | 3 => c3 | _ => c4, fun k => match k with | 0 => iS0 | 1 => iS1 | 2 => iS2 | 3 => iS3 | _ => iS4, ?_⟩
    intro k q hq
    match k, hq with
    | 0, hq => cases hq; exact hKn0
    | 1, hq => cases hq; exact hKn1
    | 2, hq => cases hq; exact hKn2
    | 3, hq => cases hq; exact hKn3
    | 4, hq => cases hq; exact hKn4
    | k + 5, hq => simp [vcl] at hq
  obtain ⟨cB, hB⟩ := ks_arr (hw _ qq_41)
  obtain ⟨cI, hI⟩ := ks_arr (hw _ qq_120)
  obtain ⟨cJ, hJ⟩ := ks_arr (hw _ qq_121)
  have hK : va_K (dC, dI) vcl [(cB, .byte), (cI, .int), (cJ, .long)] s := ks_three hKc hB hI hJ
  have hS : va_S (fun q : Nat => s.heap.size ≤ q) s.heap s.heap [] := va_S.rf
  have hP : va_P (dC, dI) vcl [] s.heap := fun k q h => by simp at h
  have hD : va_D (fun q : Nat => s.heap.size ≤ q) [] := ⟨fun i j p q h => by simp at h, fun k q h => by simp at h⟩
  generalize hAe : (fun q : Nat => s.heap.size ≤ q) = A at hA hbA hS hD
  have hl := lv_entry ([.ref b]) (n := 8) (Nat.le_of_ble_eq_true rfl)
  rw [lg_entry_eq]
  generalize (lg_sl ([.ref b]) ++ List.replicate (8 - (lg_sl ([.ref b])).length) Slot.unset).toArray = ls at hl ⊢
  have hl : lv_has ls 8 [(0, .ref b)] := hl
  refine va_new (ci := 0) (fs := [.null, .null, .null, .null, .null, .null, .int 0, .int 0]) (C := RR_X) (T := TT_X) (N := 8) hx hb hw hh_X ty_X ty_X_ok hown (hw _ qq_17) (hw _ qq_18) (hw _ qq_1) hK hP hD hS hA rfl (by decide +kernel) (by first | exact Nat.le_of_ble_eq_true rfl | (simp only [headSpec]; omega)) (by first | exact Nat.le_of_ble_eq_true rfl | (simp only [headSpec]; omega)) dd_W_law_0 (fun q_1 H hP hD hS => ?_)
  have hP : va_P (dC, dI) vcl [(q_1, .inr (0, [.null, .null, .null, .null, .null, .null, .int 0, .int 0]))] H := hP
  have hD : va_D A [(q_1, .inr (0, [.null, .null, .null, .null, .null, .null, .int 0, .int 0]))] := hD
  refine W.widen (k := 1) (n := 8) (by first | exact Nat.le_refl _ | omega) (by first | exact Nat.le_refl _ | omega) ?_
  refine lv_dup hx hb dd_W_law_3 rfl ?_
  have hPc := hP.sub (ws' := [(q_1, .inr (0, [.null, .null, .null, .null, .null, .null, .int 0, .int 0]))]) [0] rfl
  have hDc := hD.sub (ws' := [(q_1, .inr (0, [.null, .null, .null, .null, .null, .null, .int 0, .int 0]))]) [0] (by decide) rfl
  have hFc := va_free (wc := [(q_1, .inr (0, [.null, .null, .null, .null, .null, .null, .int 0, .int 0]))]) hD hS hA [0] rfl
  refine va_callv (va_runI (As := []) (rest := [.ref q_1]) ⟨hx, hb, hml, hown, hw⟩ (cb_X_init l dC dI cB cI cJ H.size q_1) (kw_I 0 hw qq_19 qq_1 qq_21 qq_20 rfl rfl rfl (by decide +kernel) ⟨Nat.le_of_ble_eq_true rfl, Nat.le_of_ble_eq_true rfl⟩) ⟨fun a U g mk q => by obtain ⟨q0, q1, qP, qK, qD⟩ := q; exact ⟨q0, q1, qP, va_K.moved (u := U) (U := U.calling g mk a) (Vm.Alike.refl U.vm) qK, qD⟩, fun U hU hW => ⟨rfl, by rw [hU], by rw [hU]; exact hPc, va_K.moved hW.alike hK, hDc.weaken (fun _ _ _ _ => trivial)⟩⟩ rfl rfl hl.1 rfl (lv_room (Nat.le_of_ble_eq_true rfl)) dd_W_law_4 ⟨by first | exact Nat.le_of_ble_eq_true rfl | (simp only [headSpec]; omega), by first | exact Nat.le_of_ble_eq_true rfl | (simp only [headSpec]; omega)⟩) hS (fun q _ h => hFc q h) hFc (fun u_2 t H1 locs ht hvm hq_3 hB hz1 hk1 hS => ?_)
  obtain ⟨hP1, hK1, hD1⟩ := hB
  rw [ht] at hP1
  obtain ⟨hP, hD⟩ := va_join (wr := []) (w1 := [(q_1, .inr (0, [.ref (u_2 0), .ref (u_2 2), .ref (u_2 4), .ref (u_2 6), .ref (u_2 7), .ref (u_2 14), .int 0, .int 0])), ((u_2 0), .inr (2, [.ref (u_2 1), .int 0])), ((u_2 1), .inl (cB, 4096, .inl (fun _ => 0))), ((u_2 2), .inr (2, [.ref (u_2 3), .int 0])), ((u_2 3), .inl (cB, 4096, .inl (fun _ => 0))), ((u_2 4), .inr (2, [.ref (u_2 5), .int 0])), ((u_2 5), .inl (cB, 320, .inl (fun _ => 0))), ((u_2 6), .inr (4, [.ref (u_2 2), .int 0, .int (-1), .int 0, .int (-1)])), ((u_2 7), .inr (3, [.int 0, .int 0, .int 0, .int 0, .ref (u_2 8), .ref (u_2 9), .ref (u_2 10), .ref (u_2 11), .ref (u_2 12), .ref (u_2 13)])), ((u_2 8), .inl (cI, 8, .inl (fun _ => 0))), ((u_2 9), .inl (cI, 16, .inl (fun _ => 0))), ((u_2 10), .inl (cI, 16, .inl (fun _ => 0))), ((u_2 11), .inl (cJ, 16, .inr (.inl (fun _ => 0)))), ((u_2 12), .inl (cI, 16, .inl (fun _ => 0))), ((u_2 13), .inl (cI, 16, .inl (fun _ => 0))), ((u_2 14), .inr (3, [.int 0, .int 0, .int 0, .int 0, .ref (u_2 15), .ref (u_2 16), .ref (u_2 17), .ref (u_2 18), .ref (u_2 19), .ref (u_2 20)])), ((u_2 15), .inl (cI, 8, .inl (fun _ => 0))), ((u_2 16), .inl (cI, 16, .inl (fun _ => 0))), ((u_2 17), .inl (cI, 16, .inl (fun _ => 0))), ((u_2 18), .inl (cJ, 16, .inr (.inl (fun _ => 0)))), ((u_2 19), .inl (cI, 16, .inl (fun _ => 0))), ((u_2 20), .inl (cI, 16, .inl (fun _ => 0)))]) hP hD [0] [] rfl rfl (by decide) (by decide) hk1 hFc hP1 hD1
  clear hP1 hK1 hD1 ht hvm hz1 hk1 hPc hDc hFc
  generalize H1 = H at hP hS ⊢
  have hP : va_P (dC, dI) vcl [(q_1, .inr (0, [.ref (u_2 0), .ref (u_2 2), .ref (u_2 4), .ref (u_2 6), .ref (u_2 7), .ref (u_2 14), .int 0, .int 0])), ((u_2 0), .inr (2, [.ref (u_2 1), .int 0])), ((u_2 1), .inl (cB, 4096, .inl (fun _ => 0))), ((u_2 2), .inr (2, [.ref (u_2 3), .int 0])), ((u_2 3), .inl (cB, 4096, .inl (fun _ => 0))), ((u_2 4), .inr (2, [.ref (u_2 5), .int 0])), ((u_2 5), .inl (cB, 320, .inl (fun _ => 0))), ((u_2 6), .inr (4, [.ref (u_2 2), .int 0, .int (-1), .int 0, .int (-1)])), ((u_2 7), .inr (3, [.int 0, .int 0, .int 0, .int 0, .ref (u_2 8), .ref (u_2 9), .ref (u_2 10), .ref (u_2 11), .ref (u_2 12), .ref (u_2 13)])), ((u_2 8), .inl (cI, 8, .inl (fun _ => 0))), ((u_2 9), .inl (cI, 16, .inl (fun _ => 0))), ((u_2 10), .inl (cI, 16, .inl (fun _ => 0))), ((u_2 11), .inl (cJ, 16, .inr (.inl (fun _ => 0)))), ((u_2 12), .inl (cI, 16, .inl (fun _ => 0))), ((u_2 13), .inl (cI, 16, .inl (fun _ => 0))), ((u_2 14), .inr (3, [.int 0, .int 0, .int 0, .int 0, .ref (u_2 15), .ref (u_2 16), .ref (u_2 17), .ref (u_2 18), .ref (u_2 19), .ref (u_2 20)])), ((u_2 15), .inl (cI, 8, .inl (fun _ => 0))), ((u_2 16), .inl (cI, 16, .inl (fun _ => 0))), ((u_2 17), .inl (cI, 16, .inl (fun _ => 0))), ((u_2 18), .inl (cJ, 16, .inr (.inl (fun _ => 0)))), ((u_2 19), .inl (cI, 16, .inl (fun _ => 0))), ((u_2 20), .inl (cI, 16, .inl (fun _ => 0)))] H := hP
  have hD : va_D A [(q_1, .inr (0, [.ref (u_2 0), .ref (u_2 2), .ref (u_2 4), .ref (u_2 6), .ref (u_2 7), .ref (u_2 14), .int 0, .int 0])), ((u_2 0), .inr (2, [.ref (u_2 1), .int 0])), ((u_2 1), .inl (cB, 4096, .inl (fun _ => 0))), ((u_2 2), .inr (2, [.ref (u_2 3), .int 0])), ((u_2 3), .inl (cB, 4096, .inl (fun _ => 0))), ((u_2 4), .inr (2, [.ref (u_2 5), .int 0])), ((u_2 5), .inl (cB, 320, .inl (fun _ => 0))), ((u_2 6), .inr (4, [.ref (u_2 2), .int 0, .int (-1), .int 0, .int (-1)])), ((u_2 7), .inr (3, [.int 0, .int 0, .int 0, .int 0, .ref (u_2 8), .ref (u_2 9), .ref (u_2 10), .ref (u_2 11), .ref (u_2 12), .ref (u_2 13)])), ((u_2 8), .inl (cI, 8, .inl (fun _ => 0))), ((u_2 9), .inl (cI, 16, .inl (fun _ => 0))), ((u_2 10), .inl (cI, 16, .inl (fun _ => 0))), ((u_2 11), .inl (cJ, 16, .inr (.inl (fun _ => 0)))), ((u_2 12), .inl (cI, 16, .inl (fun _ => 0))), ((u_2 13), .inl (cI, 16, .inl (fun _ => 0))), ((u_2 14), .inr (3, [.int 0, .int 0, .int 0, .int 0, .ref (u_2 15), .ref (u_2 16), .ref (u_2 17), .ref (u_2 18), .ref (u_2 19), .ref (u_2 20)])), ((u_2 15), .inl (cI, 8, .inl (fun _ => 0))), ((u_2 16), .inl (cI, 16, .inl (fun _ => 0))), ((u_2 17), .inl (cI, 16, .inl (fun _ => 0))), ((u_2 18), .inl (cJ, 16, .inr (.inl (fun _ => 0)))), ((u_2 19), .inl (cI, 16, .inl (fun _ => 0))), ((u_2 20), .inl (cI, 16, .inl (fun _ => 0)))] := hD
  refine W.widen (k := 22) (n := 8727) (by first | exact Nat.le_refl _ | omega) (by first | exact Nat.le_refl _ | omega) ?_
  refine lv_astore_n (lv' := [(1, .ref q_1), (0, .ref b)]) hx hb dd_W_law_7 rfl hl (by decide) rfl (fun ls hl => ?_)
  refine va_new (ci := 1) (fs := [.int 0, .int 0, .int 0, .int 0, .int 0, .null, .int 0, .null, .null, .null, .null, .null, .int 0, .int 0, .int 0, .null, .int 0, .null, .null, .null, .null, .null, .null, .int 0, .null, .int 0, .int 0, .int 0, .int 0, .null, .int 0, .int 0, .int 0]) (C := RR_M) (T := TT_M) (N := 33) hx hb hw hh_M ty_M ty_M_ok hown (hw _ qq_573) (hw _ qq_574) (hw _ qq_5) hK hP hD hS hA rfl (by decide +kernel) (by first | exact Nat.le_of_ble_eq_true rfl | (simp only [headSpec]; omega)) (by first | exact Nat.le_of_ble_eq_true rfl | (simp only [headSpec]; omega)) dd_W_law_8 (fun q_4 H hP hD hS => ?_)
  have hP : va_P (dC, dI) vcl [(q_1, .inr (0, [.ref (u_2 0), .ref (u_2 2), .ref (u_2 4), .ref (u_2 6), .ref (u_2 7), .ref (u_2 14), .int 0, .int 0])), ((u_2 0), .inr (2, [.ref (u_2 1), .int 0])), ((u_2 1), .inl (cB, 4096, .inl (fun _ => 0))), ((u_2 2), .inr (2, [.ref (u_2 3), .int 0])), ((u_2 3), .inl (cB, 4096, .inl (fun _ => 0))), ((u_2 4), .inr (2, [.ref (u_2 5), .int 0])), ((u_2 5), .inl (cB, 320, .inl (fun _ => 0))), ((u_2 6), .inr (4, [.ref (u_2 2), .int 0, .int (-1), .int 0, .int (-1)])), ((u_2 7), .inr (3, [.int 0, .int 0, .int 0, .int 0, .ref (u_2 8), .ref (u_2 9), .ref (u_2 10), .ref (u_2 11), .ref (u_2 12), .ref (u_2 13)])), ((u_2 8), .inl (cI, 8, .inl (fun _ => 0))), ((u_2 9), .inl (cI, 16, .inl (fun _ => 0))), ((u_2 10), .inl (cI, 16, .inl (fun _ => 0))), ((u_2 11), .inl (cJ, 16, .inr (.inl (fun _ => 0)))), ((u_2 12), .inl (cI, 16, .inl (fun _ => 0))), ((u_2 13), .inl (cI, 16, .inl (fun _ => 0))), ((u_2 14), .inr (3, [.int 0, .int 0, .int 0, .int 0, .ref (u_2 15), .ref (u_2 16), .ref (u_2 17), .ref (u_2 18), .ref (u_2 19), .ref (u_2 20)])), ((u_2 15), .inl (cI, 8, .inl (fun _ => 0))), ((u_2 16), .inl (cI, 16, .inl (fun _ => 0))), ((u_2 17), .inl (cI, 16, .inl (fun _ => 0))), ((u_2 18), .inl (cJ, 16, .inr (.inl (fun _ => 0)))), ((u_2 19), .inl (cI, 16, .inl (fun _ => 0))), ((u_2 20), .inl (cI, 16, .inl (fun _ => 0))), (q_4, .inr (1, [.int 0, .int 0, .int 0, .int 0, .int 0, .null, .int 0, .null, .null, .null, .null, .null, .int 0, .int 0, .int 0, .null, .int 0, .null, .null, .null, .null, .null, .null, .int 0, .null, .int 0, .int 0, .int 0, .int 0, .null, .int 0, .int 0, .int 0]))] H := hP
  have hD : va_D A [(q_1, .inr (0, [.ref (u_2 0), .ref (u_2 2), .ref (u_2 4), .ref (u_2 6), .ref (u_2 7), .ref (u_2 14), .int 0, .int 0])), ((u_2 0), .inr (2, [.ref (u_2 1), .int 0])), ((u_2 1), .inl (cB, 4096, .inl (fun _ => 0))), ((u_2 2), .inr (2, [.ref (u_2 3), .int 0])), ((u_2 3), .inl (cB, 4096, .inl (fun _ => 0))), ((u_2 4), .inr (2, [.ref (u_2 5), .int 0])), ((u_2 5), .inl (cB, 320, .inl (fun _ => 0))), ((u_2 6), .inr (4, [.ref (u_2 2), .int 0, .int (-1), .int 0, .int (-1)])), ((u_2 7), .inr (3, [.int 0, .int 0, .int 0, .int 0, .ref (u_2 8), .ref (u_2 9), .ref (u_2 10), .ref (u_2 11), .ref (u_2 12), .ref (u_2 13)])), ((u_2 8), .inl (cI, 8, .inl (fun _ => 0))), ((u_2 9), .inl (cI, 16, .inl (fun _ => 0))), ((u_2 10), .inl (cI, 16, .inl (fun _ => 0))), ((u_2 11), .inl (cJ, 16, .inr (.inl (fun _ => 0)))), ((u_2 12), .inl (cI, 16, .inl (fun _ => 0))), ((u_2 13), .inl (cI, 16, .inl (fun _ => 0))), ((u_2 14), .inr (3, [.int 0, .int 0, .int 0, .int 0, .ref (u_2 15), .ref (u_2 16), .ref (u_2 17), .ref (u_2 18), .ref (u_2 19), .ref (u_2 20)])), ((u_2 15), .inl (cI, 8, .inl (fun _ => 0))), ((u_2 16), .inl (cI, 16, .inl (fun _ => 0))), ((u_2 17), .inl (cI, 16, .inl (fun _ => 0))), ((u_2 18), .inl (cJ, 16, .inr (.inl (fun _ => 0)))), ((u_2 19), .inl (cI, 16, .inl (fun _ => 0))), ((u_2 20), .inl (cI, 16, .inl (fun _ => 0))), (q_4, .inr (1, [.int 0, .int 0, .int 0, .int 0, .int 0, .null, .int 0, .null, .null, .null, .null, .null, .int 0, .int 0, .int 0, .null, .int 0, .null, .null, .null, .null, .null, .null, .int 0, .null, .int 0, .int 0, .int 0, .int 0, .null, .int 0, .int 0, .int 0]))] := hD
  refine W.widen (k := 23) (n := 8760) (by first | exact Nat.le_refl _ | omega) (by first | exact Nat.le_refl _ | omega) ?_
  refine lv_dup hx hb dd_W_law_11 rfl ?_
  have hPc := hP.sub (ws' := [(q_4, .inr (1, [.int 0, .int 0, .int 0, .int 0, .int 0, .null, .int 0, .null, .null, .null, .null, .null, .int 0, .int 0, .int 0, .null, .int 0, .null, .null, .null, .null, .null, .null, .int 0, .null, .int 0, .int 0, .int 0, .int 0, .null, .int 0, .int 0, .int 0]))]) [22] rfl
  have hDc := hD.sub (ws' := [(q_4, .inr (1, [.int 0, .int 0, .int 0, .int 0, .int 0, .null, .int 0, .null, .null, .null, .null, .null, .int 0, .int 0, .int 0, .null, .int 0, .null, .null, .null, .null, .null, .null, .int 0, .null, .int 0, .int 0, .int 0, .int 0, .null, .int 0, .int 0, .int 0]))]) [22] (by decide) rfl
  have hFc := va_free (wc := [(q_4, .inr (1, [.int 0, .int 0, .int 0, .int 0, .int 0, .null, .int 0, .null, .null, .null, .null, .null, .int 0, .int 0, .int 0, .null, .int 0, .null, .null, .null, .null, .null, .null, .int 0, .null, .int 0, .int 0, .int 0, .int 0, .null, .int 0, .int 0, .int 0]))]) hD hS hA [22] rfl
  refine va_callv (va_runI (As := []) (rest := [.ref q_4]) ⟨hx, hb, hml, hown, hw⟩ (cb_M_init l dC dI cB cI cJ H.size q_4) (kw_I 0 hw qq_575 qq_5 qq_577 qq_576 rfl rfl rfl (by decide +kernel) ⟨Nat.le_of_ble_eq_true rfl, Nat.le_of_ble_eq_true rfl⟩) ⟨fun a U g mk q => by obtain ⟨q0, q1, qP, qK, qD⟩ := q; exact ⟨q0, q1, qP, va_K.moved (u := U) (U := U.calling g mk a) (Vm.Alike.refl U.vm) qK, qD⟩, fun U hU hW => ⟨rfl, by rw [hU], by rw [hU]; exact hPc, va_K.moved hW.alike hK, hDc.weaken (fun _ _ _ _ => trivial)⟩⟩ rfl rfl hl.1 rfl (lv_room (Nat.le_of_ble_eq_true rfl)) dd_W_law_12 ⟨by first | exact Nat.le_of_ble_eq_true rfl | (simp only [headSpec]; omega), by first | exact Nat.le_of_ble_eq_true rfl | (simp only [headSpec]; omega)⟩) hS (fun q _ h => hFc q h) hFc (fun u_5 t H1 locs ht hvm hq_6 hB hz1 hk1 hS => ?_)
  obtain ⟨hP1, hK1, hD1⟩ := hB
  rw [ht] at hP1
  obtain ⟨hP, hD⟩ := va_join (wr := [(q_1, .inr (0, [.ref (u_2 0), .ref (u_2 2), .ref (u_2 4), .ref (u_2 6), .ref (u_2 7), .ref (u_2 14), .int 0, .int 0])), ((u_2 0), .inr (2, [.ref (u_2 1), .int 0])), ((u_2 1), .inl (cB, 4096, .inl (fun _ => 0))), ((u_2 2), .inr (2, [.ref (u_2 3), .int 0])), ((u_2 3), .inl (cB, 4096, .inl (fun _ => 0))), ((u_2 4), .inr (2, [.ref (u_2 5), .int 0])), ((u_2 5), .inl (cB, 320, .inl (fun _ => 0))), ((u_2 6), .inr (4, [.ref (u_2 2), .int 0, .int (-1), .int 0, .int (-1)])), ((u_2 7), .inr (3, [.int 0, .int 0, .int 0, .int 0, .ref (u_2 8), .ref (u_2 9), .ref (u_2 10), .ref (u_2 11), .ref (u_2 12), .ref (u_2 13)])), ((u_2 8), .inl (cI, 8, .inl (fun _ => 0))), ((u_2 9), .inl (cI, 16, .inl (fun _ => 0))), ((u_2 10), .inl (cI, 16, .inl (fun _ => 0))), ((u_2 11), .inl (cJ, 16, .inr (.inl (fun _ => 0)))), ((u_2 12), .inl (cI, 16, .inl (fun _ => 0))), ((u_2 13), .inl (cI, 16, .inl (fun _ => 0))), ((u_2 14), .inr (3, [.int 0, .int 0, .int 0, .int 0, .ref (u_2 15), .ref (u_2 16), .ref (u_2 17), .ref (u_2 18), .ref (u_2 19), .ref (u_2 20)])), ((u_2 15), .inl (cI, 8, .inl (fun _ => 0))), ((u_2 16), .inl (cI, 16, .inl (fun _ => 0))), ((u_2 17), .inl (cI, 16, .inl (fun _ => 0))), ((u_2 18), .inl (cJ, 16, .inr (.inl (fun _ => 0)))), ((u_2 19), .inl (cI, 16, .inl (fun _ => 0))), ((u_2 20), .inl (cI, 16, .inl (fun _ => 0)))]) (w1 := [(q_4, .inr (1, [.int 0, .int 0, .int 0, .int 0, .int 0, .ref (u_5 0), .int 0, .ref (u_5 1), .ref (u_5 2), .ref (u_5 3), .ref (u_5 4), .ref (u_5 5), .int 0, .int 0, .int 0, .ref (u_5 6), .int 0, .ref (u_5 7), .ref (u_5 8), .ref (u_5 9), .ref (u_5 10), .ref (u_5 11), .ref (u_5 12), .int 0, .ref (u_5 13), .int 0, .int 0, .int 0, .int (-1), .ref (u_5 14), .int 0, .int 0, .int 0])), ((u_5 0), .inl (cI, 8, .inl (fun _ => 0))), ((u_5 1), .inl (cI, 16, .inl (fun _ => 0))), ((u_5 2), .inl (cI, 16, .inl (fun _ => 0))), ((u_5 3), .inl (cJ, 16, .inr (.inl (fun _ => 0)))), ((u_5 4), .inl (cI, 16, .inl (fun _ => 0))), ((u_5 5), .inl (cI, 16, .inl (fun _ => 0))), ((u_5 6), .inl (cI, 8, .inl (fun _ => 0))), ((u_5 7), .inl (cI, 16, .inl (fun _ => 0))), ((u_5 8), .inl (cI, 16, .inl (fun _ => 0))), ((u_5 9), .inl (cJ, 16, .inr (.inl (fun _ => 0)))), ((u_5 10), .inl (cI, 16, .inl (fun _ => 0))), ((u_5 11), .inl (cI, 16, .inl (fun _ => 0))), ((u_5 12), .inl (cB, 4096, .inl (fun _ => 0))), ((u_5 13), .inl (cB, 4096, .inl (fun _ => 0))), ((u_5 14), .inl (cB, 1400, .inl (fun _ => 0)))]) hP hD [22] [0, 1, 2, 3, 4, 5, 6, 7, 8, 9, 10, 11, 12, 13, 14, 15, 16, 17, 18, 19, 20, 21] rfl rfl (by decide) (by decide) hk1 hFc hP1 hD1
  clear hP1 hK1 hD1 ht hvm hz1 hk1 hPc hDc hFc
  generalize H1 = H at hP hS ⊢
  have hP : va_P (dC, dI) vcl [(q_1, .inr (0, [.ref (u_2 0), .ref (u_2 2), .ref (u_2 4), .ref (u_2 6), .ref (u_2 7), .ref (u_2 14), .int 0, .int 0])), ((u_2 0), .inr (2, [.ref (u_2 1), .int 0])), ((u_2 1), .inl (cB, 4096, .inl (fun _ => 0))), ((u_2 2), .inr (2, [.ref (u_2 3), .int 0])), ((u_2 3), .inl (cB, 4096, .inl (fun _ => 0))), ((u_2 4), .inr (2, [.ref (u_2 5), .int 0])), ((u_2 5), .inl (cB, 320, .inl (fun _ => 0))), ((u_2 6), .inr (4, [.ref (u_2 2), .int 0, .int (-1), .int 0, .int (-1)])), ((u_2 7), .inr (3, [.int 0, .int 0, .int 0, .int 0, .ref (u_2 8), .ref (u_2 9), .ref (u_2 10), .ref (u_2 11), .ref (u_2 12), .ref (u_2 13)])), ((u_2 8), .inl (cI, 8, .inl (fun _ => 0))), ((u_2 9), .inl (cI, 16, .inl (fun _ => 0))), ((u_2 10), .inl (cI, 16, .inl (fun _ => 0))), ((u_2 11), .inl (cJ, 16, .inr (.inl (fun _ => 0)))), ((u_2 12), .inl (cI, 16, .inl (fun _ => 0))), ((u_2 13), .inl (cI, 16, .inl (fun _ => 0))), ((u_2 14), .inr (3, [.int 0, .int 0, .int 0, .int 0, .ref (u_2 15), .ref (u_2 16), .ref (u_2 17), .ref (u_2 18), .ref (u_2 19), .ref (u_2 20)])), ((u_2 15), .inl (cI, 8, .inl (fun _ => 0))), ((u_2 16), .inl (cI, 16, .inl (fun _ => 0))), ((u_2 17), .inl (cI, 16, .inl (fun _ => 0))), ((u_2 18), .inl (cJ, 16, .inr (.inl (fun _ => 0)))), ((u_2 19), .inl (cI, 16, .inl (fun _ => 0))), ((u_2 20), .inl (cI, 16, .inl (fun _ => 0))), (q_4, .inr (1, [.int 0, .int 0, .int 0, .int 0, .int 0, .ref (u_5 0), .int 0, .ref (u_5 1), .ref (u_5 2), .ref (u_5 3), .ref (u_5 4), .ref (u_5 5), .int 0, .int 0, .int 0, .ref (u_5 6), .int 0, .ref (u_5 7), .ref (u_5 8), .ref (u_5 9), .ref (u_5 10), .ref (u_5 11), .ref (u_5 12), .int 0, .ref (u_5 13), .int 0, .int 0, .int 0, .int (-1), .ref (u_5 14), .int 0, .int 0, .int 0])), ((u_5 0), .inl (cI, 8, .inl (fun _ => 0))), ((u_5 1), .inl (cI, 16, .inl (fun _ => 0))), ((u_5 2), .inl (cI, 16, .inl (fun _ => 0))), ((u_5 3), .inl (cJ, 16, .inr (.inl (fun _ => 0)))), ((u_5 4), .inl (cI, 16, .inl (fun _ => 0))), ((u_5 5), .inl (cI, 16, .inl (fun _ => 0))), ((u_5 6), .inl (cI, 8, .inl (fun _ => 0))), ((u_5 7), .inl (cI, 16, .inl (fun _ => 0))), ((u_5 8), .inl (cI, 16, .inl (fun _ => 0))), ((u_5 9), .inl (cJ, 16, .inr (.inl (fun _ => 0)))), ((u_5 10), .inl (cI, 16, .inl (fun _ => 0))), ((u_5 11), .inl (cI, 16, .inl (fun _ => 0))), ((u_5 12), .inl (cB, 4096, .inl (fun _ => 0))), ((u_5 13), .inl (cB, 4096, .inl (fun _ => 0))), ((u_5 14), .inl (cB, 1400, .inl (fun _ => 0)))] H := hP
  have hD : va_D A [(q_1, .inr (0, [.ref (u_2 0), .ref (u_2 2), .ref (u_2 4), .ref (u_2 6), .ref (u_2 7), .ref (u_2 14), .int 0, .int 0])), ((u_2 0), .inr (2, [.ref (u_2 1), .int 0])), ((u_2 1), .inl (cB, 4096, .inl (fun _ => 0))), ((u_2 2), .inr (2, [.ref (u_2 3), .int 0])), ((u_2 3), .inl (cB, 4096, .inl (fun _ => 0))), ((u_2 4), .inr (2, [.ref (u_2 5), .int 0])), ((u_2 5), .inl (cB, 320, .inl (fun _ => 0))), ((u_2 6), .inr (4, [.ref (u_2 2), .int 0, .int (-1), .int 0, .int (-1)])), ((u_2 7), .inr (3, [.int 0, .int 0, .int 0, .int 0, .ref (u_2 8), .ref (u_2 9), .ref (u_2 10), .ref (u_2 11), .ref (u_2 12), .ref (u_2 13)])), ((u_2 8), .inl (cI, 8, .inl (fun _ => 0))), ((u_2 9), .inl (cI, 16, .inl (fun _ => 0))), ((u_2 10), .inl (cI, 16, .inl (fun _ => 0))), ((u_2 11), .inl (cJ, 16, .inr (.inl (fun _ => 0)))), ((u_2 12), .inl (cI, 16, .inl (fun _ => 0))), ((u_2 13), .inl (cI, 16, .inl (fun _ => 0))), ((u_2 14), .inr (3, [.int 0, .int 0, .int 0, .int 0, .ref (u_2 15), .ref (u_2 16), .ref (u_2 17), .ref (u_2 18), .ref (u_2 19), .ref (u_2 20)])), ((u_2 15), .inl (cI, 8, .inl (fun _ => 0))), ((u_2 16), .inl (cI, 16, .inl (fun _ => 0))), ((u_2 17), .inl (cI, 16, .inl (fun _ => 0))), ((u_2 18), .inl (cJ, 16, .inr (.inl (fun _ => 0)))), ((u_2 19), .inl (cI, 16, .inl (fun _ => 0))), ((u_2 20), .inl (cI, 16, .inl (fun _ => 0))), (q_4, .inr (1, [.int 0, .int 0, .int 0, .int 0, .int 0, .ref (u_5 0), .int 0, .ref (u_5 1), .ref (u_5 2), .ref (u_5 3), .ref (u_5 4), .ref (u_5 5), .int 0, .int 0, .int 0, .ref (u_5 6), .int 0, .ref (u_5 7), .ref (u_5 8), .ref (u_5 9), .ref (u_5 10), .ref (u_5 11), .ref (u_5 12), .int 0, .ref (u_5 13), .int 0, .int 0, .int 0, .int (-1), .ref (u_5 14), .int 0, .int 0, .int 0])), ((u_5 0), .inl (cI, 8, .inl (fun _ => 0))), ((u_5 1), .inl (cI, 16, .inl (fun _ => 0))), ((u_5 2), .inl (cI, 16, .inl (fun _ => 0))), ((u_5 3), .inl (cJ, 16, .inr (.inl (fun _ => 0)))), ((u_5 4), .inl (cI, 16, .inl (fun _ => 0))), ((u_5 5), .inl (cI, 16, .inl (fun _ => 0))), ((u_5 6), .inl (cI, 8, .inl (fun _ => 0))), ((u_5 7), .inl (cI, 16, .inl (fun _ => 0))), ((u_5 8), .inl (cI, 16, .inl (fun _ => 0))), ((u_5 9), .inl (cJ, 16, .inr (.inl (fun _ => 0)))), ((u_5 10), .inl (cI, 16, .inl (fun _ => 0))), ((u_5 11), .inl (cI, 16, .inl (fun _ => 0))), ((u_5 12), .inl (cB, 4096, .inl (fun _ => 0))), ((u_5 13), .inl (cB, 4096, .inl (fun _ => 0))), ((u_5 14), .inl (cB, 1400, .inl (fun _ => 0)))] := hD
  refine W.widen (k := 38) (n := 18528) (by first | exact Nat.le_refl _ | omega) (by first | exact Nat.le_refl _ | omega) ?_
  refine lv_astore_n (lv' := [(2, .ref q_4), (1, .ref q_1), (0, .ref b)]) hx hb dd_W_law_15 rfl hl (by decide) rfl (fun ls hl => ?_)
  refine lv_iconst (v := 1) hx hb dd_W_law_16 (by decide) ?_
  refine va_newa (atype := .long) (ty := .long) (N' := 1) (a0 := (1, .inr (.inl (fun _ => 0)))) hx hb (hw _ qq_121) rfl hK hP hD hS hA (fun _ => rfl) (by decide) (by decide) (by first | decide | (simp only [componentBytes]; omega)) (by first | exact Nat.le_of_ble_eq_true rfl | (simp only [headSpec]; omega)) (by first | exact Nat.le_of_ble_eq_true rfl | (simp only [headSpec]; omega)) dd_W_law_17 (fun q_7 cA_8 H hK hP hD hS => ?_)
  obtain rfl : cJ = cA_8 := ks_eqJ hK 2 3 rfl rfl
  have hK : va_K (dC, dI) vcl [(cB, .byte), (cI, .int), (cJ, .long)] s := hK.sub [0, 1, 2] rfl
  have hP : va_P (dC, dI) vcl [(q_1, .inr (0, [.ref (u_2 0), .ref (u_2 2), .ref (u_2 4), .ref (u_2 6), .ref (u_2 7), .ref (u_2 14), .int 0, .int 0])), ((u_2 0), .inr (2, [.ref (u_2 1), .int 0])), ((u_2 1), .inl (cB, 4096, .inl (fun _ => 0))), ((u_2 2), .inr (2, [.ref (u_2 3), .int 0])), ((u_2 3), .inl (cB, 4096, .inl (fun _ => 0))), ((u_2 4), .inr (2, [.ref (u_2 5), .int 0])), ((u_2 5), .inl (cB, 320, .inl (fun _ => 0))), ((u_2 6), .inr (4, [.ref (u_2 2), .int 0, .int (-1), .int 0, .int (-1)])), ((u_2 7), .inr (3, [.int 0, .int 0, .int 0, .int 0, .ref (u_2 8), .ref (u_2 9), .ref (u_2 10), .ref (u_2 11), .ref (u_2 12), .ref (u_2 13)])), ((u_2 8), .inl (cI, 8, .inl (fun _ => 0))), ((u_2 9), .inl (cI, 16, .inl (fun _ => 0))), ((u_2 10), .inl (cI, 16, .inl (fun _ => 0))), ((u_2 11), .inl (cJ, 16, .inr (.inl (fun _ => 0)))), ((u_2 12), .inl (cI, 16, .inl (fun _ => 0))), ((u_2 13), .inl (cI, 16, .inl (fun _ => 0))), ((u_2 14), .inr (3, [.int 0, .int 0, .int 0, .int 0, .ref (u_2 15), .ref (u_2 16), .ref (u_2 17), .ref (u_2 18), .ref (u_2 19), .ref (u_2 20)])), ((u_2 15), .inl (cI, 8, .inl (fun _ => 0))), ((u_2 16), .inl (cI, 16, .inl (fun _ => 0))), ((u_2 17), .inl (cI, 16, .inl (fun _ => 0))), ((u_2 18), .inl (cJ, 16, .inr (.inl (fun _ => 0)))), ((u_2 19), .inl (cI, 16, .inl (fun _ => 0))), ((u_2 20), .inl (cI, 16, .inl (fun _ => 0))), (q_4, .inr (1, [.int 0, .int 0, .int 0, .int 0, .int 0, .ref (u_5 0), .int 0, .ref (u_5 1), .ref (u_5 2), .ref (u_5 3), .ref (u_5 4), .ref (u_5 5), .int 0, .int 0, .int 0, .ref (u_5 6), .int 0, .ref (u_5 7), .ref (u_5 8), .ref (u_5 9), .ref (u_5 10), .ref (u_5 11), .ref (u_5 12), .int 0, .ref (u_5 13), .int 0, .int 0, .int 0, .int (-1), .ref (u_5 14), .int 0, .int 0, .int 0])), ((u_5 0), .inl (cI, 8, .inl (fun _ => 0))), ((u_5 1), .inl (cI, 16, .inl (fun _ => 0))), ((u_5 2), .inl (cI, 16, .inl (fun _ => 0))), ((u_5 3), .inl (cJ, 16, .inr (.inl (fun _ => 0)))), ((u_5 4), .inl (cI, 16, .inl (fun _ => 0))), ((u_5 5), .inl (cI, 16, .inl (fun _ => 0))), ((u_5 6), .inl (cI, 8, .inl (fun _ => 0))), ((u_5 7), .inl (cI, 16, .inl (fun _ => 0))), ((u_5 8), .inl (cI, 16, .inl (fun _ => 0))), ((u_5 9), .inl (cJ, 16, .inr (.inl (fun _ => 0)))), ((u_5 10), .inl (cI, 16, .inl (fun _ => 0))), ((u_5 11), .inl (cI, 16, .inl (fun _ => 0))), ((u_5 12), .inl (cB, 4096, .inl (fun _ => 0))), ((u_5 13), .inl (cB, 4096, .inl (fun _ => 0))), ((u_5 14), .inl (cB, 1400, .inl (fun _ => 0))), (q_7, .inl (cJ, 1, .inr (.inl (fun _ => 0))))] H := hP
  have hD : va_D A [(q_1, .inr (0, [.ref (u_2 0), .ref (u_2 2), .ref (u_2 4), .ref (u_2 6), .ref (u_2 7), .ref (u_2 14), .int 0, .int 0])), ((u_2 0), .inr (2, [.ref (u_2 1), .int 0])), ((u_2 1), .inl (cB, 4096, .inl (fun _ => 0))), ((u_2 2), .inr (2, [.ref (u_2 3), .int 0])), ((u_2 3), .inl (cB, 4096, .inl (fun _ => 0))), ((u_2 4), .inr (2, [.ref (u_2 5), .int 0])), ((u_2 5), .inl (cB, 320, .inl (fun _ => 0))), ((u_2 6), .inr (4, [.ref (u_2 2), .int 0, .int (-1), .int 0, .int (-1)])), ((u_2 7), .inr (3, [.int 0, .int 0, .int 0, .int 0, .ref (u_2 8), .ref (u_2 9), .ref (u_2 10), .ref (u_2 11), .ref (u_2 12), .ref (u_2 13)])), ((u_2 8), .inl (cI, 8, .inl (fun _ => 0))), ((u_2 9), .inl (cI, 16, .inl (fun _ => 0))), ((u_2 10), .inl (cI, 16, .inl (fun _ => 0))), ((u_2 11), .inl (cJ, 16, .inr (.inl (fun _ => 0)))), ((u_2 12), .inl (cI, 16, .inl (fun _ => 0))), ((u_2 13), .inl (cI, 16, .inl (fun _ => 0))), ((u_2 14), .inr (3, [.int 0, .int 0, .int 0, .int 0, .ref (u_2 15), .ref (u_2 16), .ref (u_2 17), .ref (u_2 18), .ref (u_2 19), .ref (u_2 20)])), ((u_2 15), .inl (cI, 8, .inl (fun _ => 0))), ((u_2 16), .inl (cI, 16, .inl (fun _ => 0))), ((u_2 17), .inl (cI, 16, .inl (fun _ => 0))), ((u_2 18), .inl (cJ, 16, .inr (.inl (fun _ => 0)))), ((u_2 19), .inl (cI, 16, .inl (fun _ => 0))), ((u_2 20), .inl (cI, 16, .inl (fun _ => 0))), (q_4, .inr (1, [.int 0, .int 0, .int 0, .int 0, .int 0, .ref (u_5 0), .int 0, .ref (u_5 1), .ref (u_5 2), .ref (u_5 3), .ref (u_5 4), .ref (u_5 5), .int 0, .int 0, .int 0, .ref (u_5 6), .int 0, .ref (u_5 7), .ref (u_5 8), .ref (u_5 9), .ref (u_5 10), .ref (u_5 11), .ref (u_5 12), .int 0, .ref (u_5 13), .int 0, .int 0, .int 0, .int (-1), .ref (u_5 14), .int 0, .int 0, .int 0])), ((u_5 0), .inl (cI, 8, .inl (fun _ => 0))), ((u_5 1), .inl (cI, 16, .inl (fun _ => 0))), ((u_5 2), .inl (cI, 16, .inl (fun _ => 0))), ((u_5 3), .inl (cJ, 16, .inr (.inl (fun _ => 0)))), ((u_5 4), .inl (cI, 16, .inl (fun _ => 0))), ((u_5 5), .inl (cI, 16, .inl (fun _ => 0))), ((u_5 6), .inl (cI, 8, .inl (fun _ => 0))), ((u_5 7), .inl (cI, 16, .inl (fun _ => 0))), ((u_5 8), .inl (cI, 16, .inl (fun _ => 0))), ((u_5 9), .inl (cJ, 16, .inr (.inl (fun _ => 0)))), ((u_5 10), .inl (cI, 16, .inl (fun _ => 0))), ((u_5 11), .inl (cI, 16, .inl (fun _ => 0))), ((u_5 12), .inl (cB, 4096, .inl (fun _ => 0))), ((u_5 13), .inl (cB, 4096, .inl (fun _ => 0))), ((u_5 14), .inl (cB, 1400, .inl (fun _ => 0))), (q_7, .inl (cJ, 1, .inr (.inl (fun _ => 0))))] := hD
  refine W.widen (k := 39) (n := 18529) (by first | exact Nat.le_refl _ | omega) (by first | exact Nat.le_refl _ | omega) ?_
  refine lv_astore_n (lv' := [(3, .ref q_7), (2, .ref q_4), (1, .ref q_1), (0, .ref b)]) hx hb dd_W_law_19 rfl hl (by decide) rfl (fun ls hl => ?_)
  refine lv_iconst (v := 0) hx hb dd_W_law_20 (by decide) ?_
  refine lv_istore (lv' := [(4, .int 0), (3, .ref q_7), (2, .ref q_4), (1, .ref q_1), (0, .ref b)]) hx hb dd_W_law_21 hl (by decide) rfl (fun ls hl => ?_)
  refine lv_iload hx hb dd_W_law_23 (lv_at hl 0 rfl) ?_
  refine lv_aload_n hx hb dd_W_law_25 rfl (lv_at hl 4 rfl) ?_
  refine va_slen hx hb hX hbl hbA hS dd_W_law_26 ?_
  refine lv_bipush (v := 7) hx hb dd_W_law_27 (by decide) ?_
  refine lv_isub hx hb dd_W_law_29 ?_
  refine lv_icmp_gt (tgt := 789) hx hb dd_W_law_30 (by decide) (fun c_9 => ?_) (fun c_9 => ?_)
  · refine lv_iconst (v := 1) hx hb dd_W_law_789 (by decide) ?_
    have hP9 := hP.sub (ws' := [((u_2 1), .inl (cB, 4096, .inl (fun _ => 0))), ((u_2 3), .inl (cB, 4096, .inl (fun _ => 0))), ((u_2 5), .inl (cB, 320, .inl (fun _ => 0))), ((u_2 8), .inl (cI, 8, .inl (fun _ => 0))), ((u_2 9), .inl (cI, 16, .inl (fun _ => 0))), ((u_2 10), .inl (cI, 16, .inl (fun _ => 0))), ((u_2 11), .inl (cJ, 16, .inr (.inl (fun _ => 0)))), ((u_2 12), .inl (cI, 16, .inl (fun _ => 0))), ((u_2 13), .inl (cI, 16, .inl (fun _ => 0))), ((u_2 15), .inl (cI, 8, .inl (fun _ => 0))), ((u_2 16), .inl (cI, 16, .inl (fun _ => 0))), ((u_2 17), .inl (cI, 16, .inl (fun _ => 0))), ((u_2 18), .inl (cJ, 16, .inr (.inl (fun _ => 0)))), ((u_2 19), .inl (cI, 16, .inl (fun _ => 0))), ((u_2 20), .inl (cI, 16, .inl (fun _ => 0))), ((u_5 0), .inl (cI, 8, .inl (fun _ => 0))), ((u_5 1), .inl (cI, 16, .inl (fun _ => 0))), ((u_5 2), .inl (cI, 16, .inl (fun _ => 0))), ((u_5 3), .inl (cJ, 16, .inr (.inl (fun _ => 0)))), ((u_5 4), .inl (cI, 16, .inl (fun _ => 0))), ((u_5 5), .inl (cI, 16, .inl (fun _ => 0))), ((u_5 6), .inl (cI, 8, .inl (fun _ => 0))), ((u_5 7), .inl (cI, 16, .inl (fun _ => 0))), ((u_5 8), .inl (cI, 16, .inl (fun _ => 0))), ((u_5 9), .inl (cJ, 16, .inr (.inl (fun _ => 0)))), ((u_5 10), .inl (cI, 16, .inl (fun _ => 0))), ((u_5 11), .inl (cI, 16, .inl (fun _ => 0))), ((u_5 12), .inl (cB, 4096, .inl (fun _ => 0))), ((u_5 13), .inl (cB, 4096, .inl (fun _ => 0))), ((u_5 14), .inl (cB, 1400, .inl (fun _ => 0))), (q_7, .inl (cJ, 1, .inr (.inl (fun _ => 0))))]) [2, 4, 6, 9, 10, 11, 12, 13, 14, 16, 17, 18, 19, 20, 21, 23, 24, 25, 26, 27, 28, 29, 30, 31, 32, 33, 34, 35, 36, 37, 38] rfl
    have hD9 := hD.sub (ws' := [((u_2 1), .inl (cB, 4096, .inl (fun _ => 0))), ((u_2 3), .inl (cB, 4096, .inl (fun _ => 0))), ((u_2 5), .inl (cB, 320, .inl (fun _ => 0))), ((u_2 8), .inl (cI, 8, .inl (fun _ => 0))), ((u_2 9), .inl (cI, 16, .inl (fun _ => 0))), ((u_2 10), .inl (cI, 16, .inl (fun _ => 0))), ((u_2 11), .inl (cJ, 16, .inr (.inl (fun _ => 0)))), ((u_2 12), .inl (cI, 16, .inl (fun _ => 0))), ((u_2 13), .inl (cI, 16, .inl (fun _ => 0))), ((u_2 15), .inl (cI, 8, .inl (fun _ => 0))), ((u_2 16), .inl (cI, 16, .inl (fun _ => 0))), ((u_2 17), .inl (cI, 16, .inl (fun _ => 0))), ((u_2 18), .inl (cJ, 16, .inr (.inl (fun _ => 0)))), ((u_2 19), .inl (cI, 16, .inl (fun _ => 0))), ((u_2 20), .inl (cI, 16, .inl (fun _ => 0))), ((u_5 0), .inl (cI, 8, .inl (fun _ => 0))), ((u_5 1), .inl (cI, 16, .inl (fun _ => 0))), ((u_5 2), .inl (cI, 16, .inl (fun _ => 0))), ((u_5 3), .inl (cJ, 16, .inr (.inl (fun _ => 0)))), ((u_5 4), .inl (cI, 16, .inl (fun _ => 0))), ((u_5 5), .inl (cI, 16, .inl (fun _ => 0))), ((u_5 6), .inl (cI, 8, .inl (fun _ => 0))), ((u_5 7), .inl (cI, 16, .inl (fun _ => 0))), ((u_5 8), .inl (cI, 16, .inl (fun _ => 0))), ((u_5 9), .inl (cJ, 16, .inr (.inl (fun _ => 0)))), ((u_5 10), .inl (cI, 16, .inl (fun _ => 0))), ((u_5 11), .inl (cI, 16, .inl (fun _ => 0))), ((u_5 12), .inl (cB, 4096, .inl (fun _ => 0))), ((u_5 13), .inl (cB, 4096, .inl (fun _ => 0))), ((u_5 14), .inl (cB, 1400, .inl (fun _ => 0))), (q_7, .inl (cJ, 1, .inr (.inl (fun _ => 0))))]) [2, 4, 6, 9, 10, 11, 12, 13, 14, 16, 17, 18, 19, 20, 21, 23, 24, 25, 26, 27, 28, 29, 30, 31, 32, 33, 34, 35, 36, 37, 38] (by decide) rfl
    rw [← hAe] at hD9
    have hq := rf_sum _ (by intro q hq; simp only [List.mem_cons, List.not_mem_nil, or_false] at hq; rcases hq with rfl | rfl | rfl | rfl | rfl | rfl | rfl | rfl | rfl | rfl | rfl | rfl | rfl | rfl | rfl | rfl | rfl | rfl | rfl | rfl | rfl | rfl | rfl | rfl | rfl | rfl | rfl | rfl | rfl | rfl | rfl <;> exact ⟨_, rfl⟩) hP9 hD9
    exact rf_ret hx hb hr hlocks dd_W_law_790 (Nat.lt_of_lt_of_le (by simp only [List.map_cons, List.map_nil, rf_sz, List.sum_cons, List.sum_nil]; omega) hq)
  · exact absurd (rf_lt L hL) c_9
set_option maxHeartbeats 4000000 in
/-- the law on a script of fewer than seven ints, from a start with room for 20000 slots: it returns true, and has made more than 18263 slots -/
theorem rf_met (l : Launch) (b : Addr) (xs : List Int32) (hxs : xs.length < 7) : MetFree l x (headSpec (Jvm.Cond.code x code maxLocals ret :: tables_1) rf_R) (lw_P b xs) (fun _ _ _ _ _ => True) (fun _ s o t => o = .returned (some (.int 1)) ∧ 18263 < rf_new s.heap.size t.heap) := by
  refine MetFree.of_bodyS (code := code) (maxLocals := maxLocals) (ret := ret) (by decide) ?_ ?_
  · intro args s m h hn
    obtain ⟨meth, c, h1, h2, h3, h4, h5, h6, -, -⟩ := Cond.code_spec hn (atoms_spec (ws := Jvm.Cond.code x code maxLocals ret :: tables_1) h _ List.mem_cons_self)
    exact ⟨meth, c, h1, h2, h3, h4, h5, h6⟩
  · intro p e s m args below meth c s₁ B hml0 hP _
    obtain ⟨rfl, hx, hbd, hgv⟩ := hP
    obtain ⟨scr, harrAt, hlist, hof, hsmall⟩ := hx
    obtain ⟨hcb, hkn, -, -⟩ := State.arrayAt?_spec harrAt
    have hown : s.vm.findClass R_law = some m.cls := findClass_of_methodNamed B.named
    have hts0 : ∀ c ∈ (Jvm.Cond.code x code maxLocals ret :: tables_1), c.before #[Value.ref b] s = true := atoms_spec (ws := Jvm.Cond.code x code maxLocals ret :: tables_1) B.pre
    have hts : ∀ w ∈ lw_tbl, w.before #[Value.ref b] s = true := k2_hts_sels lw_privs (fun w hw => hts0 w (List.mem_cons_of_mem _ hw)) lw_privs_ok
    have hml : c.maxLocals = 8 := B.maxLocals_eq (hts0 _ List.mem_cons_self)
    have X₀ : Stand p l e rf_R s m #[Value.ref b] below meth c s₁ [] 0 0 := Stand.of_body B
    have hh0 : s₁.heap = s.heap := by rw [B.state]; rfl
    have hsz : scr.slots.size = xs.length := by rw [← Array.length_toList, hlist, List.length_map]
    have hval : ∀ j : Nat, j < xs.length → scr.slots[j]? = some (.int (xs.getD j 0)) := fun j hj => by
      rw [← Array.getElem?_toList, hlist]
      simp [hj]
    have hbl : b < s.heap.size := (Array.getElem?_eq_some_iff.mp hcb).1
    have hX : va_X b xs.length (fun j => xs.getD j 0) s s.heap := ⟨scr, hcb, hof, hkn, hsz, hval⟩
    have K : W p l e rf_R s m #[Value.ref b] below meth c s₁.heap [] 0 0 (rf_Z below s) (entryFrame m ([Value.ref b] : List Value).toArray 8) := by
      rw [hh0]
      exact rf_start l hxs ⟨B.exec, B.bytes, B.returns, hml, hown, hts, hX, hbl, B.notSynchronized, hgv⟩
    obtain ⟨t, a1, b1, b2, b3⟩ := K s₁ rfl X₀
    exact ⟨t, _, a1, b1, b2, rfl, b3⟩
/-- THE CLAIM IS FALSE wherever there is a start of the Statement's own with a script of fewer than seven ints and room for 20000 slots -/
theorem rf_no {l : Launch} {p : Program} {e : Env} {s : State} {m : MethodId} {args : Array Value} {below : List Frame} {b : Addr} {xs : List Int32} (hfl : l.flags = flags0)
    (hA : AtStart classFile x code maxLocals ret World_1 tables_1 room_1 Calls_1 rest_1 Pre_1 l p e s m args below) (hroom : s.hasRoom e.platform rf_R = true) (hP : lw_P b xs args s) (hxs : xs.length < 7) : ¬ Claimed_1_1 ∧ ¬ Claimed_1_2 := by
  obtain ⟨hLi, hWo, ha, hle, hc, hk, hfr, hfit, hheap, happ, hcalls, hrest, hpre⟩ := hA
  have h0 := (Spec.appliesLoose_iff hfr).mp ((Spec.applies_iff_loose hfr).mp happ).1
  have happ2 : (headSpec (Jvm.Cond.code x code maxLocals ret :: tables_1) rf_R).appliesLoose x e.platform s = true := (Spec.appliesLoose_iff hfr).mpr ⟨h0.1, h0.2.1, h0.2.2.1, h0.2.2.2.1, h0.2.2.2.2.1, h0.2.2.2.2.2.1, hroom, h0.2.2.2.2.2.2.2⟩
  obtain ⟨n2, o2, g1, g2, g3, -, g4⟩ := rf_met l b xs hxs p e ha hc hk s m args below hfr happ2 hP trivial
  have key : ∀ (n : Nat) (o : Outcome), (∀ k, k < n → Within (stepsAlone p.tables e k s) below) → Ended (stepsAlone p.tables e n s) below o → Framed s o (stepsAlone p.tables e n s) [] 1072 18263 → False := by
    intro n o h1 h3 hF
    have hn : n = n2 := by
      rcases Nat.lt_trichotomy n n2 with h | h | h
      · exact absurd (g1 n h) h3.not_within
      · exact h
      · exact absurd (h1 n2 h) g3.not_within
    subst hn
    obtain ⟨-, -, -, -, -, -, hle2, -⟩ := hF
    exact absurd g4 (Nat.not_lt.mpr hle2)
  refine ⟨fun h => ?_, fun h => ?_⟩
  · obtain ⟨n, o, h1, h2, h3, hpost⟩ := h l hfl hLi hWo p e ha hc hk s m args below hfr hfit hheap happ ⟨hcalls, hrest, hpre⟩
    exact key n o h1 h3 hpost.2
  · obtain ⟨n, o, h1, h2, h3, hpost⟩ := h l hfl hLi hWo p e ha hc hk s m args below hfr hfit hheap happ ⟨hcalls, hrest, hpre⟩
    exact key n o h1 h3 hpost.2
end
section
/-! ===== a start of the Statement's own with the empty script: the claim is false ===== -/
theorem rf_tabs : tables_1.all (fun c => c.onTables || c.before start1.args0 (start1.aboutOf #[])) = true := by decide +kernel
theorem rf_words : ∀ c ∈ (Cond.code x code maxLocals ret :: tables_1), c.before start1.args0 (start1.aboutOf #[]) = true := by
  intro c hc
  have h0 := start1.words c hc
  have hv : start1.about.vm = (start1.aboutOf #[]).vm := rfl
  rcases List.mem_cons.mp hc with h | h
  · exact va_tabs (by rw [h]; rfl) hv h0
  · have h1 := List.all_eq_true.mp rf_tabs c h
    rw [Bool.or_eq_true] at h1
    rcases h1 with h1 | h1
    · exact va_tabs h1 hv h0
    · exact h1
set_option maxRecDepth 16384 in
theorem rf_at : AtStart classFile x code maxLocals ret World_1 tables_1 room_1 Calls_1 rest_1 Pre_1 launch0 start1.p0 start1.e0 (start1.aboutOf #[]) ⟨0, 0⟩ start1.args0 Lib.HandBits.below0 :=
  ⟨lists_1, trivial, launch0.admits_env _ _ _, launch0.least_env, fairChoices_fair.cas, fairChoices_fair.clock, rfl, by decide +kernel, by decide +kernel,
    (Spec.applies_iff rfl).mpr ⟨rfl, rfl, rfl, by decide +kernel, by decide +kernel, by decide +kernel, launch0.hasRoom_least _ room_1 (by decide +kernel) (by decide +kernel) (by decide +kernel) (by decide +kernel) (by decide +kernel) (by decide +kernel), atoms_intro rf_words⟩,
    trivial, (show rest_1_c.before start1.args0 (start1.aboutOf #[]) = true by decide +kernel), (show (Cond.and given_1 narrow_1).before start1.args0 (start1.aboutOf #[]) = true by decide +kernel)⟩
/-- THE CLAIM IS FALSE: at the launch of the Statement's own witness, with the empty script -/
theorem rf_false : ¬ Claimed_1_1 ∧ ¬ Claimed_1_2 :=
  rf_no (b := 0) (xs := []) rfl rf_at (launch0.hasRoom_least _ rf_R (by decide +kernel) (by decide +kernel) (by decide +kernel) (by decide +kernel) (by decide +kernel) (by decide +kernel))
    ⟨rfl, ⟨_, rfl, rfl, ⟨fun k h => (by cases h), _, rfl, _, rfl⟩, (by decide)⟩, (by decide), (show (Cond.and given_1 narrow_1).before start1.args0 (start1.aboutOf #[]) = true by decide +kernel)⟩ (by decide)
/-- so the owed statement has no proof -/
theorem rf_owed : ¬ (Claimed_1_1 ∧ Claimed_1_2) := fun h => rf_false.1 h.1
end
section
/-! ===== throws: the contract of a method that throws, the row of 'athrow', a call that throws and is caught in the caller's own table ===== -/
def xt_MQ (below : List Frame) (Qt : Array Value → State → Addr → State → Prop) (a : Array Value) (s : State) (mc ms : Nat) (free : Addr → Prop) : State → Prop := fun t =>
  ∃ x : Addr, t.status = .running ∧ Ended t below (.threw x) ∧ Qt a s x t ∧ ∃ L : List Loc, (s.WarmedH t.vm ∧ s.sameButNew ({ t with vm := s.vm } : State) L mc ms) ∧ ∀ q ∈ L, free q.base
def xt_Met (l : Launch) (y : MethodName) (ws : List Cond) (rm : Room) (Pc : Array Value → State → Prop) (Qt : Array Value → State → Addr → State → Prop) (mc ms : Nat) (free : Addr → Prop) : Prop :=
  MetFree l y (headSpec ws rm) Pc (fun _ _ _ _ _ => True) (fun a st o t => ∃ x : Addr, o = .threw x ∧ Qt a st x t ∧ ∃ L : List Loc, (st.WarmedH t.vm ∧ st.sameButNew ({ t with vm := st.vm } : State) L mc ms) ∧ ∀ q ∈ L, free q.base)
theorem xt_ofW {l : Launch} {y : MethodName} {ws ws' : List Cond} {rm : Room} {Pc : Array Value → State → Prop} {Qt : Array Value → State → Addr → State → Prop} {mc ms : Nat} {free : Addr → Prop} {cc : ByteArray} {maxL : Nat} {ret : Option FieldType}
    (hy : plainName y.cls = true) (hw : ws = Cond.code y cc maxL ret :: ws')
    (body : ∀ p e s m args below meth c s₁, BodyLoose p l y (headSpec ws rm) cc maxL ret e s m args below meth c s₁ → c.maxLocals = maxL → Pc args s →
      W p l e (headSpec ws rm).room s m args below meth c s.heap [] 0 0 (xt_MQ below Qt args s mc ms free) (entryFrame m args maxL)) : xt_Met l y ws rm Pc Qt mc ms free := by
  refine MetFree.of_bodyS (code := cc) (maxLocals := maxL) (ret := ret) hy ?_ ?_
  · intro args s m h hn
    obtain ⟨meth, c, h1, h2, h3, h4, h5, h6, -, -⟩ := Cond.code_spec hn (atoms_spec (ws := ws) h _ (by rw [hw]; exact List.mem_cons_self))
    exact ⟨meth, c, h1, h2, h3, h4, h5, h6⟩
  · intro p e s m args below meth c s₁ B hml hP _
    have hh0 : s₁.heap = s.heap := by rw [B.state]; rfl
    obtain ⟨t, a1, x, b1, b2, b3, b4⟩ := body p e s m args below meth c s₁ B hml hP s₁ hh0 (Stand.of_body B)
    exact ⟨t, .threw x, a1, b1, b2, x, rfl, b3, b4⟩
section XT
variable {p : Program} {l : Launch} {e : Env} {R : Room} {s : State} {m : MethodId} {args : Array Value} {below : List Frame} {meth : Method} {c : Code} {H : Heap} {locs : List Loc} {cells slots : Nat} {Q : State → Prop}
variable {y : MethodName} {bytes cc : ByteArray} {maxL nL mc ms n index : Nat} {ret : Option FieldType} {ws : List Cond} {rm : Room} {Pc : Array Value → State → Prop} {Qt : Array Value → State → Addr → State → Prop} {free : Addr → Prop} {Ts : List Cond} {own C : String} {b : Addr} {As rest : List Value} {g : JFrame}
/-- the method's own end by a throw: it has no table -/
theorem xt_thr {pc : Nat} {ls : Array Slot} {a : Addr} (hexec : p.tables.exec = Jvm.exec) (hb : c.code = cc) (hne : c.exceptionTable.isEmpty = true) (hlocks : meth.locks = false)
    (hq : ∀ t : State, t.heap = H → s.WarmedH t.vm → Qt args s a t) (hf : ∀ q ∈ locs, free q.base) (hdg : decode cc pc = .ok (.athrow, 1)) :
    W p l e R s m args below meth c H locs cells slots (xt_MQ below Qt args s cells slots free) (F0 m pc ls (.ref a :: rest)) := by
  intro T hT X
  subst hb
  have hout : ∀ x ∈ c.exceptionTable.toList, covers x pc = false := by
    have h0 : c.exceptionTable.size = 0 := by simpa [Array.isEmpty] using hne
    have h1 : c.exceptionTable.toList = [] := List.eq_nil_of_length_eq_zero (by simpa using h0)
    intro x hx
    rw [h1] at hx
    cases hx
  obtain ⟨h1, h2, h3, h4, h5⟩ := X.athrowLeaves hexec (g := F0 m pc ls (.ref a :: rest)) rfl rfl rfl hout (a := a) (rest := rest) rfl hdg hlocks
  exact ⟨_, h1, a, h2, h3, hq _ hT h4, locs, ⟨h4, h5⟩, hf⟩
/-- the call of a method that throws comes back with the exception laid over the caller's frame -/
theorem xt_back {len Wt : Nat} {U : State} {ig : Instr} {mk : MethodId} {a : Array Value} (hM : xt_Met l y ws rm Pc Qt mc ms free) (hblind : FrameBlind Pc) (hrc : rm.cells = mc) (hrs : rm.slots = ms)
    (hframes : rm.frames + 1 ≤ R.frames) (hlocals : Wt + (maxL + 11) + rm.locals ≤ R.locals)
    (hws : ∀ w ∈ ws, ∀ (a' : Array Value) (U : State), s.WarmedH U.vm → w.before a' U = true) (hcode : Cond.code y bytes maxL ret ∈ ws) (hinit : ∀ (a' : Array Value) (U : State), s.WarmedH U.vm → (Cond.initialized y.cls).before a' U = true)
    (X : Stand p l e R s m args below meth c U locs cells slots) (hg : g.method = m) (hsize : g.locals.size = c.maxLocals) (hdg : decode c.code g.pc = .ok (ig, len))
    (hWt : 2 * g.monitorRoom + (g.stack.map fun v => v.category).sum ≤ Wt) (hn : U.methodNamed? y = some mk) (hc1 : cells + mc ≤ R.cells) (hc2 : slots + ms ≤ R.slots) (hp : Pc a U) :
    ∃ (x : Addr) (t U' : State) (L : List Loc), Stand p l e R s m args below meth c U' (locs ++ L) (cells + mc) (slots + ms) ∧ U'.heap = t.heap ∧ U'.vm = t.vm ∧ Qt a (U.calling g mk a) x t ∧ (∀ q ∈ L, free q.base) ∧
      Steps p.tables e below (doInvoke e (U.setTop g) [] mk a).1 ((U'.setTop g).pushFrame (.throwing x)) := by
  have hw : ∀ w ∈ ws, w.before a U = true := fun w h => hws w h a U X.warmed
  obtain ⟨methY, cY, hmY, hcY, -, hlY, -, -, -, -⟩ := Cond.code_spec hn (hw _ hcode)
  obtain ⟨kY, hkY, -⟩ := className_of_methodNamed hn
  have hiY : kY.init = .initialized := Cond.initialized_spec (findClass_of_methodNamed hn) hkY (hinit a U X.warmed)
  have h : At U g.method c below := by rw [hg]; exact X.here
  have happ : (headSpec ws rm).appliesLoose y e.platform (U.calling g mk a) = true :=
    Spec.appliesLoose_calling (g := g) h hdg hn hkY hiY
      (X.room_calling (g := g) (R' := rm) hsize hmY hcY hframes (by rw [hlY]; omega) (by rw [hrc]; exact hc1) (by rw [hrs]; exact hc2)) (atoms_intro hw)
  obtain ⟨mid, hmid⟩ := h.above
  have hfr : (U.setTop g).frames = (.java g :: mid) ++ below := by rw [State.frames_setTop' g h.top, hmid]; rfl
  obtain ⟨o, s2, hsteps, -, hend, hq0⟩ := Steps.callFree hM p X.admits X.cas X.clock (acts := []) hfr happ (hblind _ _ _ _ hp) trivial
  have hq1 : ∃ x : Addr, o = .threw x ∧ Qt a (U.calling g mk a) x s2 ∧ ∃ L : List Loc, ((U.calling g mk a).WarmedH s2.vm ∧ (U.calling g mk a).sameButNew ({ s2 with vm := (U.calling g mk a).vm } : State) L mc ms) ∧ ∀ q ∈ L, free q.base := hq0
  obtain ⟨x, rfl, hq, L, ⟨hW2, hsame⟩, hL⟩ := hq1
  rw [State.frames_setTop' g h.top] at hend
  have hf2 : s2.frames = .throwing x :: .java g :: U.frames.tail := hend
  have hWU : U.WarmedH s2.vm := hW2
  obtain ⟨e2, q2, q3, q4, q5, q6⟩ := hsame
  have e3 : s2 = ({ (U.calling g mk a).setFrames s2.frames with heap := s2.heap, slotsUsed := s2.slotsUsed } : State).setVm s2.vm := by
    have e4 : s2 = ({ s2 with vm := (U.calling g mk a).vm } : State).setVm s2.vm := rfl
    rw [e2] at e4
    exact e4
  obtain ⟨g0, hg0⟩ := Option.isSome_iff_exists.mp h.top
  obtain ⟨r, hr⟩ := State.topJava?_eq_some.mp hg0
  have hs2 : s2 = ((({ U with heap := s2.heap, slotsUsed := s2.slotsUsed } : State).setVm s2.vm).setTop g).pushFrame (.throwing x) := by
    have hr2 : (({ U with heap := s2.heap, slotsUsed := s2.slotsUsed } : State).setVm s2.vm).frames = .java g0 :: r := hr
    refine e3.trans ?_
    rw [hf2, State.calling_eq h.top, State.setFrames_setFrames, State.pushFrame, State.frames_setTop _ hr2, State.setTop_of_frames _ hr2, State.setFrames_setFrames, hr]
    rfl
  have hsU : U.sameButNew ({ U with heap := s2.heap, slotsUsed := s2.slotsUsed } : State) L mc ms := by
    refine ⟨?_, q2, q3, q4, q5, q6⟩
    obtain ⟨tt, ht, -⟩ := State.frames_cons hr
    show ({ U with heap := s2.heap, slotsUsed := s2.slotsUsed } : State) = { U.setFrames U.frames with heap := s2.heap, slotsUsed := s2.slotsUsed }
    rw [State.setFrames_self ht]
  subst hg
  refine ⟨x, s2, (({ U with heap := s2.heap, slotsUsed := s2.slotsUsed } : State).setVm s2.vm), L,
    ⟨X.admits, X.cas, X.clock, X.frames, X.room, X.hears, X.method, X.code, (X.here.setHeapUsed s2.heap s2.slotsUsed).setVm hWU.alike, X.tail, State.WarmedH.trans X.warmed hWU, X.limits, X.bytes, X.same.trans (hsU.setVm s.vm)⟩, rfl, rfl, hq, hL, ?_⟩
  rw [← hs2]
  exact hsteps
/-- what the search for a handler gives, and the tables that it leaves -/
def xt_Fd (e : Env) (s : State) (f : JFrame) (a : Addr) (h : Handler) (vm' : Vm) : Prop :=
  ∀ (Q : Handler → Pre) (E : CtlPost) (d : Bool) (acts : List Action), wp (findHandler f a) Q E e d acts s ↔ Q h d acts (s.setVm vm')
/-- one row of the table whose class is linked: it takes the object, or the search goes on -/
theorem xt_row {U : State} {f : JFrame} {a : Addr} {Qh : Handler → Pre} {E : CtlPost} {d : Bool} {acts : List Action} {x : ExceptionTableEntry} {tl : List ExceptionTableEntry} {cT : ClassId} {cell : Cell} (hx : covers x f.pc = true) (h0 : x.catchType ≠ 0)
    (hl : U.vm.ClassLinks e.platform f.method.cls x.catchType cT) (hcell : U.heap[a]? = some cell) (hobj : ∀ k, cell.vm ≠ .statics k)
    (hk : ∃ k, U.vm.classes[cell.cls]? = some k) (hc : ∃ k, U.vm.classes[cT]? = some k) :
    wp (findHandler.go f a (x :: tl)) Qh E e d acts U ↔ if U.vm.assignable cell.cls cT = true then Qh (.found x.handlerPc) d acts (U.setVm (U.vm.noted f.method.cls x.catchType (.cls cT))) else wp (findHandler.go f a tl) Qh E e d acts (U.setVm (U.vm.noted f.method.cls x.catchType (.cls cT))) := by
  simp only [covers] at hx
  obtain ⟨ha, ht⟩ := (resolveClass_links e.toSetting hl).op (op := VmOp.resolveClass f.method.cls x.catchType) rfl
  have hal : U.vm.Alike (U.vm.noted f.method.cls x.catchType (.cls cT)) := (Vm.Alike.refl U.vm).noted _ _ _
  obtain ⟨k1, hk1⟩ := hk
  obtain ⟨k2, hk2⟩ := hc
  obtain ⟨k1', hk1', -⟩ := hal.2.2 _ _ hk1
  obtain ⟨k2', hk2', -⟩ := hal.2.2 _ _ hk2
  have hfit : (U.vm.noted f.method.cls x.catchType (.cls cT)).assignable cell.cls cT = U.vm.assignable cell.cls cT := hal.assignable ..
  cases hq : U.vm.assignable cell.cls cT <;> rw [hq] at hfit <;>
    simp [findHandler.go, hx, h0, ha, ht, hcell, hobj, hk1', hk2', hfit, VmOp.dirties, VmOp.acts]
/-- from the note over the caller's frame to the handler: its first row, or its second where the first doesn't take the object; the rows' classes cold or warm -/
theorem xt_note {T : State} {a : Addr} {cell : Cell} {tx : String} {hpc : Nat} (X : Stand p l e R s m args below meth c T locs cells slots) (hg : g.method = m) (hown : s.vm.findClass own = some m.cls) (hcell : T.heap[a]? = some cell) (hobj : cell.vm.isStatics = false) (hcl : s.vm.findClass tx = some cell.cls)
    (hh : ∃ (x : ExceptionTableEntry) (tl : List ExceptionTableEntry) (nx : String), c.exceptionTable.toList = x :: tl ∧ covers x g.pc = true ∧ x.catchType ≠ 0 ∧ (Cond.classLink own x.catchType nx).before args s = true ∧
      ((x.handlerPc = hpc ∧ ∃ cT, s.vm.findClass nx = some cT ∧ s.vm.assignable cell.cls cT = true) ∨
       ((∃ cT, s.vm.findClass nx = some cT ∧ s.vm.assignable cell.cls cT = false) ∧ ∃ (y : ExceptionTableEntry) (t2 : List ExceptionTableEntry) (ny : String), tl = y :: t2 ∧ covers y g.pc = true ∧ y.catchType ≠ 0 ∧ y.handlerPc = hpc ∧ (Cond.classLink own y.catchType ny).before args s = true ∧ ∃ cT, s.vm.findClass ny = some cT ∧ s.vm.assignable cell.cls cT = true))) :
    ∃ vm' : Vm, Stand p l e R s m args below meth c (T.setVm vm') locs cells slots ∧ ∀ target, Steps p.tables e below ((T.setVm vm').setTop { g with pc := hpc, stack := [.ref a] }) target → Steps p.tables e below ((T.setTop g).pushFrame (.throwing a)) target := by
  have hpl : e.platform.magicAccessors = ({} : Platform).magicAccessors := by rw [X.admits.platform]
  obtain ⟨k0, hk0⟩ := Vm.classAt_of_findClass hcl
  have hob := VmData.ne_statics_of hobj
  subst hg
  have fin : ∀ vm' : Vm, s.WarmedH vm' → xt_Fd e ((T.setTop g).pushFrame (.throwing a)) g a (.found hpc) vm' → ∃ vm' : Vm, Stand p l e R s g.method args below meth c (T.setVm vm') locs cells slots ∧ ∀ target, Steps p.tables e below ((T.setVm vm').setTop { g with pc := hpc, stack := [.ref a] }) target → Steps p.tables e below ((T.setTop g).pushFrame (.throwing a)) target := by
    intro vm' hW hF
    refine ⟨vm', X.noted hW, fun target hrest => ?_⟩
    obtain ⟨hgo, hw⟩ := X.here.throwing a
    refine Steps.head hgo hw ?_
    have hstep : (stepThrowing e ((T.setTop g).pushFrame (.throwing a)) a (.java g :: T.frames.tail)).Is ((((T.setTop g).pushFrame (.throwing a)).setVm vm').setFrames (.java { g with pc := hpc, stack := [.ref a] } :: T.frames.tail)) [] := by
      simp only [stepThrowing, searchFrame, vmDo]
      generalize hr : Sem.go _ e false [] ((T.setTop g).pushFrame (.throwing a)) = res
      obtain ⟨as, rfl, ha⟩ := Sem.eq_ok_of hr (a := Handler.found hpc) (s' := ((T.setTop g).pushFrame (.throwing a)).setVm vm') (acts' := []) (by simp [hF _ _ _ _])
      exact ⟨rfl, ha⟩
    rw [stepThread_throwing (frames_entered X.here.top _), hstep.1]
    obtain ⟨g0, hg0⟩ := Option.isSome_iff_exists.mp X.here.top
    obtain ⟨r, hr⟩ := State.topJava?_eq_some.mp hg0
    have hr2 : (T.setVm vm').frames = .java g0 :: r := hr
    rw [State.setTop_of_frames _ hr2] at hrest
    have e1 : (((T.setTop g).pushFrame (.throwing a)).setVm vm').setFrames (.java { g with pc := hpc, stack := [.ref a] } :: T.frames.tail) = (T.setVm vm').setFrames (.java { g with pc := hpc, stack := [.ref a] } :: r) := by
      rw [State.pushFrame, State.setTop_of_frames _ hr, State.setFrames_setFrames, hr]
      show ((T.setVm vm').setFrames _).setFrames _ = _
      rw [State.setFrames_setFrames]
      rfl
    rw [e1]
    exact hrest
  obtain ⟨x, tl, nx, htab, hcx, hx0, hlx, hcase⟩ := hh
  obtain ⟨cx, hcx1, hlinkx⟩ := Cond.classLink_spec hown hlx e.platform hpl
  obtain ⟨dk, _, _, kt, hd, _, _, _, _, hkt, _, hopen⟩ := hlinkx.here
  have hal := X.warmed.alike
  obtain ⟨kt1, hkt1, -⟩ := hal.2.2 _ _ hkt
  obtain ⟨k1, hk1, -⟩ := hal.2.2 _ _ hk0
  have hW1 : s.WarmedH (T.vm.noted g.method.cls x.catchType (.cls cx)) := X.warmed.noted hd hopen (State.rightAt_cls hlinkx)
  rcases hcase with ⟨hp1, cT, hcT, hfit⟩ | ⟨⟨cT, hcT, hno⟩, y, t2, ny, htl, hcy, hy0, hp2, hly, cU, hcU, hfit⟩
  · cases hcT.symm.trans hcx1
    refine fin _ hW1 (fun Qh E d acts => ?_)
    rw [W.findHandler_eq (s := (T.setTop g).pushFrame (.throwing a)) (meth := meth) (code := c) X.method' X.code, htab,
      xt_row (U := (T.setTop g).pushFrame (.throwing a)) hcx hx0 (X.warmed.classLinks hlinkx) hcell hob ⟨k1, hk1⟩ ⟨kt1, hkt1⟩, if_pos (by show T.vm.assignable _ _ = true; rw [hal.assignable]; exact hfit), hp1]
    exact Iff.rfl
  · cases hcT.symm.trans hcx1
    obtain ⟨cy, hcy1, hlinky⟩ := Cond.classLink_spec hown hly e.platform hpl
    cases hcU.symm.trans hcy1
    obtain ⟨dk2, _, _, kt2, hd2, _, _, _, _, hkt2, _, hopen2⟩ := hlinky.here
    obtain ⟨kt3, hkt3, -⟩ := hW1.alike.2.2 _ _ hkt2
    obtain ⟨k3, hk3, -⟩ := hW1.alike.2.2 _ _ hk0
    have hW2 : s.WarmedH ((T.vm.noted g.method.cls x.catchType (.cls cx)).noted g.method.cls y.catchType (.cls cU)) := hW1.noted hd2 hopen2 (State.rightAt_cls hlinky)
    refine fin _ hW2 (fun Qh E d acts => ?_)
    rw [W.findHandler_eq (s := (T.setTop g).pushFrame (.throwing a)) (meth := meth) (code := c) X.method' X.code, htab,
      xt_row (U := (T.setTop g).pushFrame (.throwing a)) hcx hx0 (X.warmed.classLinks hlinkx) hcell hob ⟨k1, hk1⟩ ⟨kt1, hkt1⟩, if_neg (by show ¬ T.vm.assignable _ _ = true; rw [hal.assignable, hno]; decide), htl]
    refine (xt_row (U := ((T.setTop g).pushFrame (.throwing a)).setVm (T.vm.noted g.method.cls x.catchType (.cls cx))) hcy hy0 (hW1.classLinks hlinky) hcell hob ⟨k3, hk3⟩ ⟨kt3, hkt3⟩).trans ?_
    rw [if_pos (by show (T.vm.noted g.method.cls x.catchType (.cls cx)).assignable _ _ = true; rw [hW1.alike.assignable]; exact hfit), hp2]
    exact Iff.rfl
/-- the call of a method that throws, from a frame whose own table takes the exception -/
theorem xt_callV {pc hpc : Nat} {ls : Array Slot} {st0 : List Value} {A0 A1 : Nat → Prop} {H0 : Heap} {tx : String} {B : State → Prop} {hhs : List (Nat × Nat × Nat × Nat)} (S : CallFix p m c cc nL s args Ts own)
    (hM : xt_Met l y ws rm Pc Qt mc ms free) (cw : CallW R s args own C index y bytes maxL ret ws rm mc ms n) (hp : PreV s H C b Pc As)
    (hn : As.length = n) (hsize : ls.size = nL) (hstack : st0 = As.reverse ++ .ref b :: rest) (hWt : (rest.map fun v => v.category).sum ≤ 8) (hdg : decode cc pc = .ok (.invokevirtual index, 3)) (hf : cells + mc ≤ R.cells ∧ slots + ms ≤ R.slots)
    (hQ : ∀ (st t : State) (q : Addr), st.heap = H → Qt (Value.ref b :: As).toArray st q t → va_F A1 st t ∧ B t ∧ ∃ ce : Cell, t.heap[q]? = some ce ∧ ce.vm.isStatics = false ∧ st.vm.findClass tx = some ce.cls)
    (htab : c.exceptionTable.toList.map (fun h => (h.startPc, h.endPc, h.handlerPc, h.catchType)) = hhs)
    (hh : ∀ cT : ClassId, s.vm.findClass tx = some cT → ∃ (x : Nat × Nat × Nat × Nat) (tl : List (Nat × Nat × Nat × Nat)) (nx : String), hhs = x :: tl ∧ (decide (x.1 ≤ pc) && decide (pc < x.2.1)) = true ∧ x.2.2.2 ≠ 0 ∧ (Cond.classLink own x.2.2.2 nx).before args s = true ∧
      ((x.2.2.1 = hpc ∧ ∃ cN, s.vm.findClass nx = some cN ∧ s.vm.assignable cT cN = true) ∨
       ((∃ cN, s.vm.findClass nx = some cN ∧ s.vm.assignable cT cN = false) ∧ ∃ (z : Nat × Nat × Nat × Nat) (t2 : List (Nat × Nat × Nat × Nat)) (ny : String), tl = z :: t2 ∧ (decide (z.1 ≤ pc) && decide (pc < z.2.1)) = true ∧ z.2.2.2 ≠ 0 ∧ z.2.2.1 = hpc ∧ (Cond.classLink own z.2.2.2 ny).before args s = true ∧ ∃ cN, s.vm.findClass ny = some cN ∧ s.vm.assignable cT cN = true)))
    (hS : va_S A0 H0 H locs) (hA : ∀ q, q < H.size → A1 q → A0 q) (hfr : ∀ q, free q → A0 q)
    (kk : ∀ (q : Addr) (t : State) (H1 : Heap) (locs1 : List Loc), t.heap = H1 → s.vm.Alike t.vm → B t → H.size ≤ H1.size → (∀ q : Nat, q < H.size → ¬ A1 q → H1[q]? = H[q]?) → va_S A0 H0 H1 locs1 → W p l e R s m args below meth c H1 locs1 (cells + mc) (slots + ms) Q (F0 m hpc ls [.ref q])) :
    W p l e R s m args below meth c H locs cells slots Q (F0 m pc ls st0) := by
  obtain ⟨⟨hrc, hrs, hfrm, hlo, hws, hcw, hcode, hini, hy, hlen, hl⟩, hin, hse⟩ := cw
  obtain ⟨hx, hb, hml, ho, -⟩ := S
  obtain ⟨hbl, ⟨cellB, hcB, hoB, hclB⟩, hPc⟩ := hp
  intro T hT X
  obtain ⟨mk, methM, hnamed, hmethM, hstM, habM⟩ := Cond.instanceMethod_spec hin
  obtain ⟨methM2, cM, hmethM2, -, -, -, -, -, -, hsigM⟩ := Cond.code_spec hnamed hcode
  cases hmethM.symm.trans hmethM2
  obtain ⟨c2, r2, m2, q1, q2, q3, q4, kP, hkP, hkPi⟩ := Cond.selects_spec hse
  cases hclB.symm.trans q1
  cases (State.methodFound?_of_named hnamed hy).symm.trans q2
  cases hnamed.symm.trans q3
  have hselP : selectMethod e.platform s.vm cellB.cls mk = .method mk := by rw [Launch.admits_selectMethod X.admits]; exact q4
  obtain ⟨vm1, X1, hstep1⟩ := X.invokevirtual hx ho hl hnamed hmethM hstM hkP hkPi hy (a := b) (cell := cellB) (by rw [hT]; exact hcB)
    (fun z h => by rw [h] at hoB; cases hoB) hselP hmethM habM hkP hkPi (g := F0 m pc ls st0) rfl (argsL := As) (rest := rest) (hn.trans (hlen _ hsigM)) hstack (by rw [hb]; exact hdg)
  obtain ⟨q, t, U2, L, X2, e1, e2, hq, hL, hsteps⟩ := xt_back (g := F0 m pc ls rest) (Wt := 8) (a := (Value.ref b :: As).toArray) hM hbl hrc hrs hfrm hlo hws hcw (fun a' U hW => word_at hW (Or.inl (by first | rfl | simp [Cond.onTables, Cond.keeps, Cond.steady])) hini) X1 rfl (hsize.trans hml.symm) (by rw [hb]; exact hdg) (by show 2 * 0 + _ ≤ 8; simpa using hWt) (X1.named hnamed) hf.1 hf.2 (hPc _ hT X1.warmed)
  obtain ⟨⟨hz, hk⟩, hB, ce, hce, hcv, hcc⟩ := hQ _ t q (by exact hT) hq
  have hz : H.size ≤ t.heap.size := by rw [← hT]; exact hz
  have hk : ∀ q : Nat, q < H.size → ¬ A1 q → t.heap[q]? = H[q]? := by rw [← hT]; exact hk
  have hcc : s.vm.findClass tx = some ce.cls := by rw [← X1.warmed.alike.findClass]; exact hcc
  obtain ⟨x, tl, nx, g1, g2, g3, g4, g5⟩ := hh ce.cls hcc
  obtain ⟨vm2, X3, hst⟩ := xt_note (own := own) (tx := tx) (hpc := hpc) (g := F0 m pc ls rest) (cell := ce) (a := q) X2 rfl ho (by rw [e1]; exact hce) hcv hcc (by
    rw [g1] at htab
    obtain ⟨x', tl', h1, rfl, h3⟩ := List.map_eq_cons_iff.mp htab
    refine ⟨x', tl', nx, h1, g2, g3, g4, ?_⟩
    rcases g5 with g5 | ⟨g5, z, t2, ny, g6, g7, g8, g9, g10, g11⟩
    · exact Or.inl g5
    · rw [g6] at h3
      obtain ⟨z', tz', h4, rfl, h6⟩ := List.map_eq_cons_iff.mp h3
      exact Or.inr ⟨g5, z', tz', ny, h4, g7, g8, g9, g10, g11⟩)
  obtain ⟨t2, a1, b1⟩ := kk q t U2.heap (locs ++ L) e1.symm (by rw [← e2]; exact X2.warmed.alike) hB (by rw [e1]; exact hz) (fun z h1 h2 => by rw [e1]; exact hk z h1 h2)
    ⟨Nat.le_trans hS.1 (by rw [e1]; exact hz), fun z h1 h2 => by rw [e1, hk z (Nat.lt_of_lt_of_le h1 hS.1) (fun w => h2 (hA z (Nat.lt_of_lt_of_le h1 hS.1) w))]; exact hS.2.1 z h1 h2, fun z hz => by
      rcases List.mem_append.mp hz with h | h
      · exact hS.2.2 z h
      · exact hfr _ (hL z h)⟩ (U2.setVm vm2) rfl X3
  exact ⟨t2, hstep1 _ (fun acts => by rw [doInvoke_state]; exact hsteps.trans (hst _ a1)), b1⟩
end XT
end
section
/-! ===== numbers and rows of bytes, apart from any class ===== -/
def by8 (x : Int32) : Int32 := x.toInt8.toInt32
theorem by8_255 (x : Int32) : by8 (x &&& 255) = by8 x := by
  have h : (x &&& 255).toInt8 = x.toInt8 := by
    apply Int8.toBitVec_inj.mp
    rw [Int32.toBitVec_toInt8, Int32.toBitVec_toInt8, Int32.toBitVec_and]
    apply BitVec.eq_of_getLsbD_eq
    intro i hi
    have h32 : i < 32 := by omega
    have hz : (255 : Int32).toBitVec.getLsbD i = true := by
      have : ∀ j, j < 8 → (255 : Int32).toBitVec.getLsbD j = true := by decide
      exact this i hi
    rw [BitVec.getLsbD_signExtend, BitVec.getLsbD_signExtend, if_pos h32, if_pos h32, BitVec.getLsbD_and, hz, Bool.and_true]
  unfold by8
  rw [h]
theorem by8_and (x : Int32) : by8 x &&& 255 = x &&& 255 := by
  apply Int32.toBitVec_inj.mp
  unfold by8
  apply BitVec.eq_of_getLsbD_eq
  intro i hi
  rw [Int32.toBitVec_and, Int32.toBitVec_and, BitVec.getLsbD_and, BitVec.getLsbD_and]
  by_cases h8 : i < 8
  · rw [Int8.toBitVec_toInt32, Int32.toBitVec_toInt8, BitVec.getLsbD_signExtend, if_pos h8, BitVec.getLsbD_signExtend, if_pos hi]
    simp [h8, hi]
  · have hz : (255 : Int32).toBitVec.getLsbD i = false := by
      have : ∀ j, j < 32 → ¬ j < 8 → (255 : Int32).toBitVec.getLsbD j = false := by decide
      exact this i hi h8
    rw [hz, Bool.and_false, Bool.and_false]
/-- a row f of bytes begins with those of l (each as a number 0 .. 255) -/
def Hd (l : List Int32) (f : Nat → Int32) : Prop := ∀ i, i < l.length → f i = by8 (l.getD i 0)
theorem Hd_put {l : List Int32} {f : Nat → Int32} (h : Hd l f) (x : Int32) : Hd (l ++ [x &&& 255]) (upd f l.length (vp_nar .byte x)) := by
  intro i hi
  rw [List.length_append, List.length_singleton] at hi
  by_cases e : i = l.length
  · subst e
    rw [pk_us, vp_nar_byte]
    simp only [List.getD_eq_getElem?_getD, List.getElem?_append_right (Nat.le_refl _), Nat.sub_self, List.getElem?_cons_zero, Option.getD_some]
    exact (by8_255 x).symm
  · have hl : i < l.length := by omega
    rw [pk_un e, h i hl]
    simp only [List.getD_eq_getElem?_getD, List.getElem?_append_left hl]
theorem by8_by8 (x : Int32) : vp_nar .byte x.toInt8.toInt32 = vp_nar .byte x := by
  rw [vp_nar_byte, vp_nar_byte]
  simp
/-- U: groups of seven bits, the lowest first -/
def encUf : Nat → Nat → List Int32
  | 0, n => [nI n]
  | k + 1, n => if n < 128 then [nI n] else nI (128 + n % 128) :: encUf k (n / 128)
def encU (n : Nat) : List Int32 := encUf 4 n
theorem encUf_pos (k n : Nat) : 0 < (encUf k n).length := by
  cases k with
  | zero => simp [encUf]
  | succ k => simp only [encUf]; split <;> simp
theorem encUf_le : ∀ k n : Nat, (encUf k n).length ≤ k + 1 := by
  intro k
  induction k with
  | zero => intro n; simp [encUf]
  | succ k ih => intro n; simp only [encUf]; split
                 · simp
                 · simp only [List.length_cons]; have := ih (n / 128); omega
theorem nI_127 {n : Nat} (h : n < 2 ^ 31) : nI n ≤ 127 ↔ n < 128 := by
  have h1 := nI_leI (a := n) (b := 127) h (by decide)
  exact (show nI n ≤ nI 127 ↔ n < 128 by rw [h1]; omega)
theorem nI_255 {n : Nat} (h : n < 256) : nI n &&& 255 = nI n := by
  have h1 := pk_andN (n := n) (by omega) (m := 255) 8 (by decide)
  rw [h1, Nat.mod_eq_of_lt (by omega)]
/-- S: groups of seven bits of an int, with its sign; each as a byte 0 .. 255 -/
def encSf : Nat → Int32 → List Int32
  | 0, v => [(v &&& 127) &&& 255]
  | k + 1, v => if v < -64 ∨ 63 < v then ((v &&& 127 ||| 128) &&& 255) :: encSf k (v >>> ((7 : Int32) &&& 31)) else [(v &&& 127) &&& 255]
theorem encSf_pos (k : Nat) (v : Int32) : 0 < (encSf k v).length := by
  cases k with
  | zero => simp [encSf]
  | succ k => simp only [encSf]; split <;> simp
theorem encSf_le : ∀ (k : Nat) (v : Int32), (encSf k v).length ≤ k + 1 := by
  intro k
  induction k with
  | zero => intro v; simp [encSf]
  | succ k ih => intro v; simp only [encSf]; split
                 · simp only [List.length_cons]; have := ih (v >>> ((7 : Int32) &&& 31)); omega
                 · simp
/-- so many groups are enough -/
def inS (k : Nat) (v : Int32) : Prop := -(64 * 128 ^ k : Int) ≤ v.toInt ∧ v.toInt < (64 * 128 ^ k : Int)
theorem inS_4 (v : Int32) : inS 4 v := by
  have h1 := Int32.le_toInt v
  have h2 := Int32.toInt_lt v
  unfold inS
  omega
theorem inS_shr {k : Nat} {v : Int32} (h : inS (k + 1) v) : inS k (v >>> ((7 : Int32) &&& 31)) := by
  have e : (v >>> ((7 : Int32) &&& 31)).toInt = v.toInt >>> 7 := pk_shr v _ 7 (by decide)
  unfold inS at h ⊢
  rw [e, Int.shiftRight_eq_div_pow]
  have hp : (128 : Int) ^ (k + 1) = 128 ^ k * 128 := Int.pow_succ ..
  rw [hp] at h
  generalize (128 : Int) ^ k = q at h ⊢
  omega
theorem inS_0 {v : Int32} (h : inS 0 v) : ¬ (v < -64 ∨ 63 < v) := by
  unfold inS at h
  rw [Int32.lt_iff_toInt_lt, Int32.lt_iff_toInt_lt]
  have e1 : (-64 : Int32).toInt = -64 := by decide
  have e2 : (63 : Int32).toInt = 63 := by decide
  rw [e1, e2]
  simp only [Int.pow_zero] at h
  omega
/-! ===== answers of methods that only read ===== -/
def b2i (b : Bool) : Int32 := if b then 1 else 0
theorem b2i_t {P : Prop} {d : Decidable P} (h : P) : (1 : Int32) = b2i (@decide P d) := by rw [decide_eq_true h]; rfl
theorem b2i_f {P : Prop} {d : Decidable P} (h : ¬ P) : (0 : Int32) = b2i (@decide P d) := by rw [decide_eq_false h]; rfl
theorem b2i_n (b : Bool) : narrow .boolean (.int (b2i b)) = .int (b2i b) := by cases b <;> rfl
theorem b2i_1 {P : Prop} {d : Decidable P} : b2i (@decide P d) = 0 ↔ ¬ P := by
  by_cases h : P
  · rw [decide_eq_true h]; simp [b2i, h]
  · rw [decide_eq_false h]; simp [b2i, h]
def qr_L (r : Int64) : Array Value → State → Outcome → State → Prop := fun _ st o t => o = .returned (some (.long r)) ∧ t.heap = st.heap
theorem qr_call {p : Program} {l : Launch} {e : Env} {R : Room} {s : State} {m : MethodId} {args : Array Value} {below : List Frame} {meth : Method} {c : Code} {H : Heap} {locs : List Loc} {cells slots : Nat} {Q : State → Prop} {g : JFrame} {rest : List Value} {a : Array Value} {r : Int64}
    (hr : CallRun p l e R s m args below meth c H locs cells slots 0 0 g rest (qr_L r a) (fun _ => False)) (kk : W p l e R s m args below meth c H locs cells slots Q { g with pc := g.pc + 3, stack := .long r :: rest }) : W p l e R s m args below meth c H locs cells slots Q g := by
  intro T hT X
  obtain ⟨v, st₀, t, T', L, h0, X', hL, e1, ⟨hv, hh⟩, st⟩ := hr T hT X
  cases hv
  obtain ⟨t2, a1, b1⟩ := kk T' (by rw [e1, hh, h0]) (Stand.forget X' (fun q h => (hL q h).elim))
  exact ⟨t2, st t2 a1, b1⟩
abbrev kr_pre (dC : Nat → ClassId) (dI : Nat → Nat → Nat) (tys : List (ClassId × FieldType)) (w0 : va_W) (U : State) : Prop := va_P (dC, dI) vcl w0 U.heap ∧ va_K (dC, dI) vcl tys U
theorem lc_lt {x y : Int64} : lg_cmp x y < 0 ↔ x < y := by
  unfold lg_cmp
  by_cases h1 : y < x
  · simp only [h1, if_true]; exact ⟨fun z => absurd z (by decide), fun z => absurd h1 (Int64.lt_asymm z)⟩
  · by_cases h2 : x = y
    · subst h2; simp
    · simp only [h1, h2, if_false]; exact ⟨fun _ => Int64.lt_of_le_of_ne (Int64.not_lt.mp h1) h2, fun _ => by decide⟩
theorem lc_gt {x y : Int64} : 0 < lg_cmp x y ↔ y < x := by
  unfold lg_cmp
  by_cases h1 : y < x
  · simp only [h1, if_true]; exact ⟨fun _ => trivial, fun _ => by decide⟩
  · by_cases h2 : x = y
    · subst h2; simp
    · simp only [h1, h2, if_false]; exact ⟨fun z => absurd z (by decide), fun z => z.elim⟩
theorem lc_eq {x y : Int64} : lg_cmp x y = 0 ↔ x = y := by
  unfold lg_cmp
  by_cases h1 : y < x
  · simp only [h1, if_true]; exact ⟨fun z => absurd z (by decide), fun z => absurd h1 (by rw [z]; exact Int64.lt_irrefl)⟩
  · by_cases h2 : x = y
    · subst h2; simp
    · simp only [h1, h2, if_false]; exact ⟨fun z => absurd z (by decide), fun z => z.elim⟩
theorem lc_ge {x y : Int64} : 0 ≤ lg_cmp x y ↔ y ≤ x := by
  rw [← Int64.not_lt, ← Int32.not_lt, lc_lt]
theorem lc_le {x y : Int64} : lg_cmp x y ≤ 0 ↔ x ≤ y := by
  rw [← Int64.not_lt, ← Int32.not_lt, lc_gt]
/-! ===== letters of a long, the last one lowest ===== -/
def lb8 (v : Int64) : Int32 := (v &&& 255).toInt32
def sh8 (v : Int64) : Int64 := (v.toUInt64 >>> ((8 : Int32).toInt64.toUInt64 &&& Int64.toUInt64 63)).toInt64
def isLt (c : Int32) : Prop := ¬ c < 97 ∧ ¬ 122 < c
theorem isLt_dec (c : Int32) : isLt c ∨ ¬ isLt c := Classical.em _
noncomputable def ltrs : Nat → Int64 → Option Nat
  | 0, _ => some 0
  | k + 1, v => @ite _ (v = 0) (Classical.propDecidable _) (some 0) (@ite _ (isLt (lb8 v)) (Classical.propDecidable _) ((ltrs k (sh8 v)).map (fun j => j + 1)) none)
theorem ltrs_z (k : Nat) : ltrs k 0 = some 0 := by
  cases k with
  | zero => rfl
  | succ k => rw [ltrs, if_pos rfl]
theorem ltrs_y {k : Nat} {v : Int64} (h : ¬ v = 0) (h2 : isLt (lb8 v)) : ltrs (k + 1) v = (ltrs k (sh8 v)).map (fun j => j + 1) := by rw [ltrs, if_neg h, if_pos h2]
theorem ltrs_n {k : Nat} {v : Int64} (h : ¬ v = 0) (h2 : ¬ isLt (lb8 v)) : ltrs (k + 1) v = none := by rw [ltrs, if_neg h, if_neg h2]
def ltR (g : Bool) (n : Nat) (o : Option Nat) : Int32 := match o with
  | some j => if g then nI (n + j) else -1
  | none => -1
theorem ltR_f (n : Nat) (o : Option Nat) : ltR false n o = -1 := by cases o <;> rfl
theorem ltR_n {g : Bool} (h : b2i g = 0) (n : Nat) (o : Option Nat) : ltR g n o = -1 := by
  cases g
  · exact ltR_f n o
  · exact absurd h (by decide)
theorem ltR_t {g : Bool} (h : ¬ b2i g = 0) (n : Nat) : ltR g n (some 0) = nI n := by
  cases g
  · exact absurd rfl h
  · rfl
theorem ltR_s (g : Bool) (n : Nat) (o : Option Nat) : ltR g n (o.map (fun j => j + 1)) = ltR g (n + 1) o := by
  cases o with
  | none => rfl
  | some j => simp only [Option.map_some, ltR]; rw [show n + (j + 1) = n + 1 + j by omega]
theorem b2i_tt {g : Bool} (h : ¬ b2i g = 0) : g = true := by
  cases g
  · exact absurd rfl h
  · rfl
def inL (k : Nat) (v : Int64) : Prop := v.toUInt64.toNat < 256 ^ k
theorem inL_8 (v : Int64) : inL 8 v := v.toUInt64.toNat_lt
theorem sh8_nat (v : Int64) : (sh8 v).toUInt64.toNat = v.toUInt64.toNat / 256 := by
  unfold sh8
  rw [show ((8 : Int32).toInt64.toUInt64 &&& Int64.toUInt64 63) = (8 : UInt64) by decide]
  simp only [UInt64.toUInt64_toInt64, UInt64.toNat_shiftRight]
  rw [show (8 : UInt64).toNat % 64 = 8 by decide, Nat.shiftRight_eq_div_pow]
theorem inL_sh {k : Nat} {v : Int64} (h : inL (k + 1) v) : inL k (sh8 v) := by
  unfold inL at h ⊢
  rw [sh8_nat]
  rw [Nat.pow_succ] at h
  exact Nat.div_lt_of_lt_mul (by rw [Nat.mul_comm]; exact h)
theorem inL_0 {v : Int64} (h : inL 0 v) : v = 0 := by
  unfold inL at h
  have h1 : v.toUInt64 = 0 := UInt64.toNat_inj.mp (by rw [show (0 : UInt64).toNat = 0 from rfl]; omega)
  have h2 : v.toUInt64.toInt64 = (0 : UInt64).toInt64 := by rw [h1]
  simpa using h2
/-- letter k of a long, from the lowest on -/
def ltb (v : Int64) (k : Nat) : Int32 := nI (v.toUInt64.toNat / 256 ^ k % 256)
def encLk : Nat → Int64 → List Int32
  | 0, _ => []
  | j + 1, v => ltb v j :: encLk j v
theorem encLk_len (j : Nat) (v : Int64) : (encLk j v).length = j := by
  induction j with
  | zero => rfl
  | succ j ih => simp [encLk, ih]
theorem ltrs_le : ∀ (k : Nat) (v : Int64) (n : Nat), ltrs k v = some n → n ≤ k := by
  intro k
  induction k with
  | zero => intro v n h; simp [ltrs] at h; omega
  | succ k ih =>
    intro v n h
    by_cases h1 : v = 0
    · rw [h1, ltrs_z] at h; cases h; omega
    · by_cases h2 : isLt (lb8 v)
      · rw [ltrs_y h1 h2] at h
        cases ho : ltrs k (sh8 v) with
        | none => rw [ho] at h; cases h
        | some j => rw [ho] at h; cases h; have := ih _ _ ho; show j + 1 ≤ k + 1; omega
      · rw [ltrs_n h1 h2] at h; cases h
theorem ltb_sar (v : Int64) (k : Nat) (hk : k < 8) : ((v >>> ((nI (8 * k)).toInt64 &&& 63)) &&& 255).toInt32 &&& 255 = ltb v k := by
  have hc : ∀ k, k < 8 → ((nI (8 * k)).toInt64 &&& 63) = Int64.ofNat (8 * k) := by decide
  have hs : ∀ k, k < 8 → (Int64.ofNat (8 * k)).toBitVec.smod 64 = BitVec.ofNat 64 (8 * k) := by decide
  rw [hc k hk]
  apply Int32.toBitVec_inj.mp
  apply BitVec.eq_of_getLsbD_eq
  intro i hi
  have hm : ∀ i, i < 32 → (255 : Int32).toBitVec.getLsbD i = decide (i < 8) := by decide
  have hm2 : ∀ i, i < 64 → (255 : Int64).toBitVec.getLsbD i = decide (i < 8) := by decide
  have e2 : (ltb v k).toBitVec.getLsbD i = (decide (i < 8) && v.toBitVec.getLsbD (8 * k + i)) := by
    have h1 : (ltb v k).toBitVec = BitVec.ofNat 32 (v.toBitVec.toNat / 256 ^ k % 256) := rfl
    rw [h1, BitVec.getLsbD_ofNat, show (256 : Nat) = 2 ^ 8 from rfl, ← Nat.pow_mul, Nat.testBit_mod_two_pow, Nat.testBit_div_two_pow]
    simp only [hi, decide_true, Bool.true_and]
    rw [show i + 8 * k = 8 * k + i by omega]
    rfl
  rw [e2, Int32.toBitVec_and, BitVec.getLsbD_and, hm i hi, Bool.and_comm]
  by_cases h8 : i < 8
  · simp only [h8, decide_true, Bool.true_and]
    rw [Int64.toBitVec_toInt32, BitVec.getLsbD_signExtend, if_pos (by omega), Int64.toBitVec_and, BitVec.getLsbD_and, hm2 i (by omega), decide_eq_true h8, Bool.and_true, decide_eq_true hi, Bool.true_and]
    rw [Int64.toBitVec_shiftRight, hs k hk, BitVec.getLsbD_sshiftRight']
    have hz : (BitVec.ofNat 64 (8 * k)).toNat = 8 * k := by rw [BitVec.toNat_ofNat]; exact Nat.mod_eq_of_lt (by omega)
    rw [hz, if_pos (by omega), decide_eq_false (by omega)]
    rfl
  · simp [h8]
theorem nI_sm {j : Nat} : nI (j + 1) - 1 = nI j := nI_pred j
theorem i32_m1 (x : Int32) : x + -1 = x - 1 := (Int32.sub_eq_add_neg x 1).symm
/-- REF of an id from an operation with the counter c -/
def refN (c i : Nat) : Nat := if i = 0 then 0 else (c - i / 8) * 8 + i % 8 + 1
theorem refN_lt {c i : Nat} (h : c ≤ 200000) : refN c i < 2147483648 := by
  unfold refN
  split
  · omega
  · have := Nat.mod_lt i (show 0 < 8 by omega); omega
theorem encUf_0 (k : Nat) : encUf k 0 = [nI 0] := by cases k <;> simp [encUf]
/-! ===== the bytes of an operation ===== -/
def refOf (c : Nat) (x : Int32) : List Int32 := encUf 4 (refN c x.toNatClampNeg)
theorem refOf_nI {c i : Nat} {x : Int32} (h : x = nI i) (hi : i < 2147483648) : refOf c x = encUf 4 (refN c i) := by rw [h, refOf, nI_clamp (by omega)]
noncomputable def encLt (v : Int64) : List Int32 := match ltrs 8 v with
  | some n => nI n :: encLk n v
  | none => []
theorem encLt_some {v : Int64} {n : Nat} (h : ltrs 8 v = some n) : encLt v = nI n :: encLk n v := by rw [encLt, h]
noncomputable def encKey (c : Nat) (t : Int32) (ky : Int64) : List Int32 := if 2 ≤ t then (if t ≤ 2 then [] else refOf c ky.toInt32) else encLt ky
noncomputable def encVal (t d va : Int32) : List Int32 := if t = 2 then encSf 4 va else if d = 2 then encSf 4 va else if d = 4 then encSf 4 va else if d = 1 then [va &&& 255] else if d = 3 then encLt (va.toInt64 &&& 4294967295) else []
noncomputable def encOp (c : Nat) (t d ob : Int32) (ky : Int64) (va : Int32) : List Int32 := [(t + 8 * d) &&& 255] ++ refOf c ob ++ encKey c t ky ++ encVal t d va
/-- an operation that can be laid -/
def okOp (c : Nat) (t d ob : Int32) (ky : Int64) (va : Int32) : Prop :=
  (∃ i, i < 2147483648 ∧ ob = nI i ∧ i / 8 ≤ c) ∧ (¬ 2 ≤ t → ∃ n, ltrs 8 ky = some n) ∧ (¬ t ≤ 2 → ∃ i, i < 2147483648 ∧ ky.toInt32 = nI i ∧ i / 8 ≤ c) ∧ (d = 3 → ∃ n, ltrs 8 (va.toInt64 &&& 4294967295) = some n)
theorem refOf_le (c : Nat) (x : Int32) : (refOf c x).length ≤ 5 := encUf_le 4 _
theorem encLt_le (v : Int64) : (encLt v).length ≤ 9 := by
  unfold encLt
  split
  · rename_i n h
    have := ltrs_le 8 v n h
    rw [List.length_cons, encLk_len]
    omega
  · simp
theorem encKey_le (c : Nat) (t : Int32) (ky : Int64) : (encKey c t ky).length ≤ 9 := by
  unfold encKey
  split
  · split
    · simp
    · have := refOf_le c ky.toInt32; omega
  · exact encLt_le ky
theorem encVal_le (t d va : Int32) : (encVal t d va).length ≤ 9 := by
  unfold encVal
  have h1 := encSf_le 4 va
  have h2 := encLt_le (va.toInt64 &&& 4294967295)
  split
  · omega
  · split
    · omega
    · split
      · omega
      · split
        · simp
        · split
          · exact h2
          · simp
theorem encOp_le (c : Nat) (t d ob : Int32) (ky : Int64) (va : Int32) : (encOp c t d ob ky va).length ≤ 24 := by
  unfold encOp
  have h1 := refOf_le c ob
  have h2 := encKey_le c t ky
  have h3 := encVal_le t d va
  simp only [List.length_append, List.length_cons, List.length_nil]
  omega
end
section
set_option maxHeartbeats 4000000 in
set_option maxRecDepth 100000 in
/-- lay(b): one byte more -/
theorem cb_M_lay (l : Launch) (dC : Nat → ClassId) (dI : Nat → Nat → Nat) (cB cI cJ : ClassId) (sz : Nat) (h : Nat) (g0 g1 g2 g3 g4 g6 g12 g13 g14 g16 g23 g25 g26 g27 g28 g31 g32 : Int32) (g5 g7 g8 g9 g10 g11 g15 g17 g18 g19 g20 g21 g22 g24 g29 : Nat) (f : Nat → Int32) (bs : List Int32) (hH : Hd bs f) (p0 : Int32) (hn : bs.length < 1400) : Met l yy_M_lay (Cond.code yy_M_lay cc_M_lay 2 none :: gw) { frames := 0, cells := 0, slots := 0, locals := 0 } (va_Pc [.ref h, .int p0] (ks_pre dC dI [(cB, .byte), (cI, .int), (cJ, .long)] [(h, .inr (1, [.int g0, .int g1, .int g2, .int g3, .int g4, .ref g5, .int g6, .ref g7, .ref g8, .ref g9, .ref g10, .ref g11, .int g12, .int g13, .int g14, .ref g15, .int g16, .ref g17, .ref g18, .ref g19, .ref g20, .ref g21, .ref g22, .int g23, .ref g24, .int g25, .int g26, .int g27, .int g28, .ref g29, .int (nI bs.length), .int g31, .int g32])), (g29, .inl (cB, 1400, .inl f))] sz)) (va_Qv (fun (u : Nat → Int32) => Hd (bs ++ [p0 &&& 255]) u) (fun (u : Nat → Int32) => ks_post dC dI [(cB, .byte), (cI, .int), (cJ, .long)] (va_A [(h, .inr (1, [.int g0, .int g1, .int g2, .int g3, .int g4, .ref g5, .int g6, .ref g7, .ref g8, .ref g9, .ref g10, .ref g11, .int g12, .int g13, .int g14, .ref g15, .int g16, .ref g17, .ref g18, .ref g19, .ref g20, .ref g21, .ref g22, .int g23, .ref g24, .int g25, .int g26, .int g27, .int g28, .ref g29, .int (nI bs.length), .int g31, .int g32])), (g29, .inl (cB, 1400, .inl f))] sz) [(h, .inr (1, [.int g0, .int g1, .int g2, .int g3, .int g4, .ref g5, .int g6, .ref g7, .ref g8, .ref g9, .ref g10, .ref g11, .int g12, .int g13, .int g14, .ref g15, .int g16, .ref g17, .ref g18, .ref g19, .ref g20, .ref g21, .ref g22, .int g23, .ref g24, .int g25, .int g26, .int g27, .int g28, .ref g29, .int (nI (bs.length + 1)), .int g31, .int g32])), (g29, .inl (cB, 1400, .inl u))]) (va_A [(h, .inr (1, [.int g0, .int g1, .int g2, .int g3, .int g4, .ref g5, .int g6, .ref g7, .ref g8, .ref g9, .ref g10, .ref g11, .int g12, .int g13, .int g14, .ref g15, .int g16, .ref g17, .ref g18, .ref g19, .ref g20, .ref g21, .ref g22, .int g23, .ref g24, .int g25, .int g26, .int g27, .int g28, .ref g29, .int (nI bs.length), .int g31, .int g32])), (g29, .inl (cB, 1400, .inl f))] sz)) 0 0 (va_A [(h, .inr (1, [.int g0, .int g1, .int g2, .int g3, .int g4, .ref g5, .int g6, .ref g7, .ref g8, .ref g9, .ref g10, .ref g11, .int g12, .int g13, .int g14, .ref g15, .int g16, .ref g17, .ref g18, .ref g19, .ref g20, .ref g21, .ref g22, .int g23, .ref g24, .int g25, .int g26, .int g27, .int g28, .ref g29, .int (nI bs.length), .int g31, .int g32])), (g29, .inl (cB, 1400, .inl f))] sz) := by
  refine Met.ofW (cc := cc_M_lay) (maxL := 2) (ret := none) (by decide) rfl ?_
  intro p e s m args below meth c s₁ B hml hv
  obtain ⟨rfl, hsz, hP, hK, hD0⟩ := hv
  have hx := B.exec
  have hb := B.bytes
  have hr := B.returns
  have hw : ∀ w ∈ gw, w.before _ s = true := fun w h => atoms_spec (ws := (Cond.code yy_M_lay cc_M_lay 2 none :: gw)) B.pre w (List.mem_cons_of_mem _ h)
  have hown : s.vm.findClass RR_M = some m.cls := findClass_of_methodNamed B.named
  have hlocks := B.notSynchronized
  subst hsz
  have hD := hD0.self (sz := s.heap.size)
  generalize hAe : va_A [(h, .inr (1, [.int g0, .int g1, .int g2, .int g3, .int g4, .ref g5, .int g6, .ref g7, .ref g8, .ref g9, .ref g10, .ref g11, .int g12, .int g13, .int g14, .ref g15, .int g16, .ref g17, .ref g18, .ref g19, .ref g20, .ref g21, .ref g22, .int g23, .ref g24, .int g25, .int g26, .int g27, .int g28, .ref g29, .int (nI bs.length), .int g31, .int g32])), (g29, .inl (cB, 1400, .inl f))] s.heap.size = A at hD ⊢
  have hA : ∀ q : Nat, s.heap.size ≤ q → A q := fun q h => by rw [← hAe]; exact Or.inr h
  have hS : va_S A s.heap s.heap [] := va_S.rf
  have hP : va_P (dC, dI) vcl [(h, .inr (1, [.int g0, .int g1, .int g2, .int g3, .int g4, .ref g5, .int g6, .ref g7, .ref g8, .ref g9, .ref g10, .ref g11, .int g12, .int g13, .int g14, .ref g15, .int g16, .ref g17, .ref g18, .ref g19, .ref g20, .ref g21, .ref g22, .int g23, .ref g24, .int g25, .int g26, .int g27, .int g28, .ref g29, .int (nI bs.length), .int g31, .int g32])), (g29, .inl (cB, 1400, .inl f))] s.heap := hP
  have hl := lv_entry ([.ref h, .int p0]) (n := 2) (Nat.le_of_ble_eq_true rfl)
  rw [lg_entry_eq]
  generalize (lg_sl ([.ref h, .int p0]) ++ List.replicate (2 - (lg_sl ([.ref h, .int p0])).length) Slot.unset).toArray = ls at hl ⊢
  have hl : lv_has ls 2 [(0, .ref h), (1, .int p0)] := hl
  refine lv_aload_n hx hb dd_M_lay_0 rfl (lv_at hl 0 rfl) ?_
  refine va_get (D := (dC, dI)) (ci := 1) (v := .ref g29) (C := RR_M) (T := TT_M) (N := 33) hx hb hw hh_M hown hK hP 0 rfl rfl 29 (by decide) (hw _ qq_608) (fun _ h9 => h9) rfl dd_M_lay_1 ?_
  refine lv_aload_n hx hb dd_M_lay_4 rfl (lv_at hl 0 rfl) ?_
  refine va_get (D := (dC, dI)) (ci := 1) (v := .int (nI bs.length)) (C := RR_M) (T := TT_M) (N := 33) hx hb hw hh_M hown hK hP 0 rfl rfl 30 (by decide) (hw _ qq_609) (fun _ h9 => h9) rfl dd_M_lay_5 ?_
  refine lv_iload_n hx hb dd_M_lay_8 rfl (lv_at hl 1 rfl) ?_
  refine lv_i2b (v := p0.toInt8.toInt32) hx hb dd_M_lay_9 rfl ?_
  refine va_bast hx hb hK hP hD hS 1 0 rfl rfl (vp_in_nI (by omega) (by decide)) dd_M_lay_10 (fun H locs hP hD hS => ?_)
  have hP : va_P (dC, dI) vcl [(h, .inr (1, [.int g0, .int g1, .int g2, .int g3, .int g4, .ref g5, .int g6, .ref g7, .ref g8, .ref g9, .ref g10, .ref g11, .int g12, .int g13, .int g14, .ref g15, .int g16, .ref g17, .ref g18, .ref g19, .ref g20, .ref g21, .ref g22, .int g23, .ref g24, .int g25, .int g26, .int g27, .int g28, .ref g29, .int (nI bs.length), .int g31, .int g32])), (g29, .inl (cB, 1400, .inl (upd f (nI bs.length).toNatClampNeg (vp_nar .byte p0.toInt8.toInt32))))] H := hP
  have hD : va_D A [(h, .inr (1, [.int g0, .int g1, .int g2, .int g3, .int g4, .ref g5, .int g6, .ref g7, .ref g8, .ref g9, .ref g10, .ref g11, .int g12, .int g13, .int g14, .ref g15, .int g16, .ref g17, .ref g18, .ref g19, .ref g20, .ref g21, .ref g22, .int g23, .ref g24, .int g25, .int g26, .int g27, .int g28, .ref g29, .int (nI bs.length), .int g31, .int g32])), (g29, .inl (cB, 1400, .inl (upd f (nI bs.length).toNatClampNeg (vp_nar .byte p0.toInt8.toInt32))))] := hD
  refine lv_aload_n hx hb dd_M_lay_11 rfl (lv_at hl 0 rfl) ?_
  refine lv_dup hx hb dd_M_lay_12 rfl ?_
  refine va_get (D := (dC, dI)) (ci := 1) (v := .int (nI bs.length)) (C := RR_M) (T := TT_M) (N := 33) hx hb hw hh_M hown hK hP 0 rfl rfl 30 (by decide) (hw _ qq_609) (fun _ h9 => h9) rfl dd_M_lay_13 ?_
  refine lv_iconst (v := 1) hx hb dd_M_lay_16 (by decide) ?_
  refine lv_iadd hx hb dd_M_lay_17 ?_
  refine va_put (D := (dC, dI)) (ci := 1) (v := .int ((nI bs.length) + 1)) (ty := .int) (C := RR_M) (T := TT_M) (N := 33) hx hb hw hh_M ty_M ty_M_ok nm_M hown hK hP hD hS 0 rfl rfl 30 (by decide) (hw _ qq_609) (fun _ h9 => h9) rfl (by decide +kernel) rfl rfl (Nat.le_of_ble_eq_true rfl) dd_M_lay_18 (fun H locs hP hD hS => ?_)
  have hP : va_P (dC, dI) vcl [(h, .inr (1, [.int g0, .int g1, .int g2, .int g3, .int g4, .ref g5, .int g6, .ref g7, .ref g8, .ref g9, .ref g10, .ref g11, .int g12, .int g13, .int g14, .ref g15, .int g16, .ref g17, .ref g18, .ref g19, .ref g20, .ref g21, .ref g22, .int g23, .ref g24, .int g25, .int g26, .int g27, .int g28, .ref g29, .int ((nI bs.length) + 1), .int g31, .int g32])), (g29, .inl (cB, 1400, .inl (upd f (nI bs.length).toNatClampNeg (vp_nar .byte p0.toInt8.toInt32))))] H := hP
  have hD : va_D A [(h, .inr (1, [.int g0, .int g1, .int g2, .int g3, .int g4, .ref g5, .int g6, .ref g7, .ref g8, .ref g9, .ref g10, .ref g11, .int g12, .int g13, .int g14, .ref g15, .int g16, .ref g17, .ref g18, .ref g19, .ref g20, .ref g21, .ref g22, .int g23, .ref g24, .int g25, .int g26, .int g27, .int g28, .ref g29, .int ((nI bs.length) + 1), .int g31, .int g32])), (g29, .inl (cB, 1400, .inl (upd f (nI bs.length).toNatClampNeg (vp_nar .byte p0.toInt8.toInt32))))] := hD
  have e_1 : ((nI bs.length) + 1 : Int32) = nI (bs.length + 1) := nI_1 bs.length
  have hP : va_P (dC, dI) vcl [(h, .inr (1, [.int g0, .int g1, .int g2, .int g3, .int g4, .ref g5, .int g6, .ref g7, .ref g8, .ref g9, .ref g10, .ref g11, .int g12, .int g13, .int g14, .ref g15, .int g16, .ref g17, .ref g18, .ref g19, .ref g20, .ref g21, .ref g22, .int g23, .ref g24, .int g25, .int g26, .int g27, .int g28, .ref g29, .int (nI (bs.length + 1)), .int g31, .int g32])), (g29, .inl (cB, 1400, .inl (upd f (nI bs.length).toNatClampNeg (vp_nar .byte p0.toInt8.toInt32))))] H := by rw [← e_1]; exact hP
  have hD : va_D A [(h, .inr (1, [.int g0, .int g1, .int g2, .int g3, .int g4, .ref g5, .int g6, .ref g7, .ref g8, .ref g9, .ref g10, .ref g11, .int g12, .int g13, .int g14, .ref g15, .int g16, .ref g17, .ref g18, .ref g19, .ref g20, .ref g21, .ref g22, .int g23, .ref g24, .int g25, .int g26, .int g27, .int g28, .ref g29, .int (nI (bs.length + 1)), .int g31, .int g32])), (g29, .inl (cB, 1400, .inl (upd f (nI bs.length).toNatClampNeg (vp_nar .byte p0.toInt8.toInt32))))] := by rw [← e_1]; exact hD
  have hP9 := hP.sub (ws' := [(h, .inr (1, [.int g0, .int g1, .int g2, .int g3, .int g4, .ref g5, .int g6, .ref g7, .ref g8, .ref g9, .ref g10, .ref g11, .int g12, .int g13, .int g14, .ref g15, .int g16, .ref g17, .ref g18, .ref g19, .ref g20, .ref g21, .ref g22, .int g23, .ref g24, .int g25, .int g26, .int g27, .int g28, .ref g29, .int (nI (bs.length + 1)), .int g31, .int g32])), (g29, .inl (cB, 1400, .inl (upd f (nI bs.length).toNatClampNeg (vp_nar .byte p0.toInt8.toInt32))))]) [0, 1] rfl
  have hD9 := hD.sub (ws' := [(h, .inr (1, [.int g0, .int g1, .int g2, .int g3, .int g4, .ref g5, .int g6, .ref g7, .ref g8, .ref g9, .ref g10, .ref g11, .int g12, .int g13, .int g14, .ref g15, .int g16, .ref g17, .ref g18, .ref g19, .ref g20, .ref g21, .ref g22, .int g23, .ref g24, .int g25, .int g26, .int g27, .int g28, .ref g29, .int (nI (bs.length + 1)), .int g31, .int g32])), (g29, .inl (cB, 1400, .inl (upd f (nI bs.length).toNatClampNeg (vp_nar .byte p0.toInt8.toInt32))))]) [0, 1] (by decide) rfl
  refine W.widen (k := 0) (n := 0) (by first | exact Nat.le_refl _ | omega) (by first | exact Nat.le_refl _ | omega) ?_
  exact W.vret hx hb hr (fun t ht hW => ⟨⟨upd f (nI bs.length).toNatClampNeg (vp_nar .byte p0.toInt8.toInt32), rfl, (by rw [nI_clamp (by omega), by8_by8]; exact Hd_put hH p0), by rw [ht]; exact hP9, va_K.moved hW.alike hK, hD9⟩, hS.F ht⟩) hS.2.2 dd_M_lay_21

set_option maxHeartbeats 4000000 in
set_option maxRecDepth 100000 in
/-- layU(n) -/
theorem cb_M_layU (l : Launch) (dC : Nat → ClassId) (dI : Nat → Nat → Nat) (cB cI cJ : ClassId) (sz : Nat) (h : Nat) (g0 g1 g2 g3 g4 g6 g12 g13 g14 g16 g23 g25 g26 g27 g28 g31 g32 : Int32) (g5 g7 g8 g9 g10 g11 g15 g17 g18 g19 g20 g21 g22 g24 g29 : Nat) (f0 : Nat → Int32) (bs0 : List Int32) (hH : Hd bs0 f0) (n0 : Nat) (hn0 : n0 < 2147483648) (hRm : bs0.length + (encUf 4 n0).length ≤ 1400) : Met l yy_M_layU (Cond.code yy_M_layU cc_M_layU 3 none :: gw) { frames := 1, cells := 0, slots := 0, locals := 21 } (va_Pc [.ref h, .int (nI n0)] (ks_pre dC dI [(cB, .byte), (cI, .int), (cJ, .long)] [(h, .inr (1, [.int g0, .int g1, .int g2, .int g3, .int g4, .ref g5, .int g6, .ref g7, .ref g8, .ref g9, .ref g10, .ref g11, .int g12, .int g13, .int g14, .ref g15, .int g16, .ref g17, .ref g18, .ref g19, .ref g20, .ref g21, .ref g22, .int g23, .ref g24, .int g25, .int g26, .int g27, .int g28, .ref g29, .int (nI bs0.length), .int g31, .int g32])), (g29, .inl (cB, 1400, .inl f0))] sz)) (va_Qv (fun (u : Nat → Int32) => Hd (bs0 ++ encUf 4 n0) u) (fun (u : Nat → Int32) => ks_post dC dI [(cB, .byte), (cI, .int), (cJ, .long)] (va_A [(h, .inr (1, [.int g0, .int g1, .int g2, .int g3, .int g4, .ref g5, .int g6, .ref g7, .ref g8, .ref g9, .ref g10, .ref g11, .int g12, .int g13, .int g14, .ref g15, .int g16, .ref g17, .ref g18, .ref g19, .ref g20, .ref g21, .ref g22, .int g23, .ref g24, .int g25, .int g26, .int g27, .int g28, .ref g29, .int (nI bs0.length), .int g31, .int g32])), (g29, .inl (cB, 1400, .inl f0))] sz) [(h, .inr (1, [.int g0, .int g1, .int g2, .int g3, .int g4, .ref g5, .int g6, .ref g7, .ref g8, .ref g9, .ref g10, .ref g11, .int g12, .int g13, .int g14, .ref g15, .int g16, .ref g17, .ref g18, .ref g19, .ref g20, .ref g21, .ref g22, .int g23, .ref g24, .int g25, .int g26, .int g27, .int g28, .ref g29, .int (nI (bs0 ++ encUf 4 n0).length), .int g31, .int g32])), (g29, .inl (cB, 1400, .inl u))]) (va_A [(h, .inr (1, [.int g0, .int g1, .int g2, .int g3, .int g4, .ref g5, .int g6, .ref g7, .ref g8, .ref g9, .ref g10, .ref g11, .int g12, .int g13, .int g14, .ref g15, .int g16, .ref g17, .ref g18, .ref g19, .ref g20, .ref g21, .ref g22, .int g23, .ref g24, .int g25, .int g26, .int g27, .int g28, .ref g29, .int (nI bs0.length), .int g31, .int g32])), (g29, .inl (cB, 1400, .inl f0))] sz)) 0 0 (va_A [(h, .inr (1, [.int g0, .int g1, .int g2, .int g3, .int g4, .ref g5, .int g6, .ref g7, .ref g8, .ref g9, .ref g10, .ref g11, .int g12, .int g13, .int g14, .ref g15, .int g16, .ref g17, .ref g18, .ref g19, .ref g20, .ref g21, .ref g22, .int g23, .ref g24, .int g25, .int g26, .int g27, .int g28, .ref g29, .int (nI bs0.length), .int g31, .int g32])), (g29, .inl (cB, 1400, .inl f0))] sz) := by
  refine Met.ofW (cc := cc_M_layU) (maxL := 3) (ret := none) (by decide) rfl ?_
  intro p e s m args below meth c s₁ B hml hv
  obtain ⟨rfl, hsz, hP, hK, hD0⟩ := hv
  have hx := B.exec
  have hb := B.bytes
  have hr := B.returns
  have hw : ∀ w ∈ gw, w.before _ s = true := fun w h => atoms_spec (ws := (Cond.code yy_M_layU cc_M_layU 3 none :: gw)) B.pre w (List.mem_cons_of_mem _ h)
  have hown : s.vm.findClass RR_M = some m.cls := findClass_of_methodNamed B.named
  have hlocks := B.notSynchronized
  subst hsz
  have hD := hD0.self (sz := s.heap.size)
  generalize hAe : va_A [(h, .inr (1, [.int g0, .int g1, .int g2, .int g3, .int g4, .ref g5, .int g6, .ref g7, .ref g8, .ref g9, .ref g10, .ref g11, .int g12, .int g13, .int g14, .ref g15, .int g16, .ref g17, .ref g18, .ref g19, .ref g20, .ref g21, .ref g22, .int g23, .ref g24, .int g25, .int g26, .int g27, .int g28, .ref g29, .int (nI bs0.length), .int g31, .int g32])), (g29, .inl (cB, 1400, .inl f0))] s.heap.size = A at hD ⊢
  have hA : ∀ q : Nat, s.heap.size ≤ q → A q := fun q h => by rw [← hAe]; exact Or.inr h
  have hS : va_S A s.heap s.heap [] := va_S.rf
  have hP : va_P (dC, dI) vcl [(h, .inr (1, [.int g0, .int g1, .int g2, .int g3, .int g4, .ref g5, .int g6, .ref g7, .ref g8, .ref g9, .ref g10, .ref g11, .int g12, .int g13, .int g14, .ref g15, .int g16, .ref g17, .ref g18, .ref g19, .ref g20, .ref g21, .ref g22, .int g23, .ref g24, .int g25, .int g26, .int g27, .int g28, .ref g29, .int (nI bs0.length), .int g31, .int g32])), (g29, .inl (cB, 1400, .inl f0))] s.heap := hP
  have hl := lv_entry ([.ref h, .int (nI n0)]) (n := 3) (Nat.le_of_ble_eq_true rfl)
  rw [lg_entry_eq]
  generalize (lg_sl ([.ref h, .int (nI n0)]) ++ List.replicate (3 - (lg_sl ([.ref h, .int (nI n0)])).length) Slot.unset).toArray = ls at hl ⊢
  have hl : lv_has ls 3 [(0, .ref h), (1, .int (nI n0))] := hl
  refine lv_iload_n hx hb dd_M_layU_0 rfl (lv_at hl 1 rfl) ?_
  refine lv_istore_n (lv' := [(2, .int (nI n0)), (0, .ref h), (1, .int (nI n0))]) hx hb dd_M_layU_1 rfl hl (by decide) rfl (fun ls hl => ?_)
  have lp_1 : ∀ (k : Nat) (n : Nat) (bs : List Int32) (f : Nat → Int32), (Hd bs f) → (n < 128 ^ (k + 1)) → (n < 2147483648) → (bs0 ++ encUf 4 n0 = bs ++ encUf k n) → (bs.length + (encUf k n).length ≤ 1400) → ∀ (H : Heap) (locs : List Loc), va_P (dC, dI) vcl [(h, .inr (1, [.int g0, .int g1, .int g2, .int g3, .int g4, .ref g5, .int g6, .ref g7, .ref g8, .ref g9, .ref g10, .ref g11, .int g12, .int g13, .int g14, .ref g15, .int g16, .ref g17, .ref g18, .ref g19, .ref g20, .ref g21, .ref g22, .int g23, .ref g24, .int g25, .int g26, .int g27, .int g28, .ref g29, .int (nI bs.length), .int g31, .int g32])), (g29, .inl (cB, 1400, .inl f))] H → va_D A [(h, .inr (1, [.int g0, .int g1, .int g2, .int g3, .int g4, .ref g5, .int g6, .ref g7, .ref g8, .ref g9, .ref g10, .ref g11, .int g12, .int g13, .int g14, .ref g15, .int g16, .ref g17, .ref g18, .ref g19, .ref g20, .ref g21, .ref g22, .int g23, .ref g24, .int g25, .int g26, .int g27, .int g28, .ref g29, .int (nI bs.length), .int g31, .int g32])), (g29, .inl (cB, 1400, .inl f))] → va_S A s.heap H locs → ∀ ls : Array Slot, lv_has ls 3 [(0, .ref h), (1, .int (nI n0)), (2, .int (nI n))] → W p l e (headSpec (Cond.code yy_M_layU cc_M_layU 3 none :: gw) { frames := 1, cells := 0, slots := 0, locals := 21 }).room s m ([.ref h, .int (nI n0)] : List Value).toArray below meth c H locs 0 0 (MQ below (va_Qv (fun (u : Nat → Int32) => Hd (bs0 ++ encUf 4 n0) u) (fun (u : Nat → Int32) => ks_post dC dI [(cB, .byte), (cI, .int), (cJ, .long)] A [(h, .inr (1, [.int g0, .int g1, .int g2, .int g3, .int g4, .ref g5, .int g6, .ref g7, .ref g8, .ref g9, .ref g10, .ref g11, .int g12, .int g13, .int g14, .ref g15, .int g16, .ref g17, .ref g18, .ref g19, .ref g20, .ref g21, .ref g22, .int g23, .ref g24, .int g25, .int g26, .int g27, .int g28, .ref g29, .int (nI (bs0 ++ encUf 4 n0).length), .int g31, .int g32])), (g29, .inl (cB, 1400, .inl u))]) A) ([.ref h, .int (nI n0)] : List Value).toArray s 0 0 A) (F0 m 2 ls []) := by
    intro k
    induction k with
    | zero =>
      intro n bs f hH hk hn hU hRm H locs hP hD hS ls hl
      refine lv_iload_n hx hb dd_M_layU_2 rfl (lv_at hl 2 rfl) ?_
      refine lv_bipush (v := 127) hx hb dd_M_layU_3 (by decide) ?_
      refine lv_icmp_le (tgt := 30) hx hb dd_M_layU_5 (by decide) (fun c_2 => ?_) (fun c_2 => ?_)
      · have hlt : n < 128 := by omega
        refine lv_aload_n hx hb dd_M_layU_30 rfl (lv_at hl 0 rfl) ?_
        refine lv_iload_n hx hb dd_M_layU_31 rfl (lv_at hl 2 rfl) ?_
        have hPc := hP.sub (ws' := [(h, .inr (1, [.int g0, .int g1, .int g2, .int g3, .int g4, .ref g5, .int g6, .ref g7, .ref g8, .ref g9, .ref g10, .ref g11, .int g12, .int g13, .int g14, .ref g15, .int g16, .ref g17, .ref g18, .ref g19, .ref g20, .ref g21, .ref g22, .int g23, .ref g24, .int g25, .int g26, .int g27, .int g28, .ref g29, .int (nI bs.length), .int g31, .int g32])), (g29, .inl (cB, 1400, .inl f))]) [0, 1] rfl
        have hDc := hD.sub (ws' := [(h, .inr (1, [.int g0, .int g1, .int g2, .int g3, .int g4, .ref g5, .int g6, .ref g7, .ref g8, .ref g9, .ref g10, .ref g11, .int g12, .int g13, .int g14, .ref g15, .int g16, .ref g17, .ref g18, .ref g19, .ref g20, .ref g21, .ref g22, .int g23, .ref g24, .int g25, .int g26, .int g27, .int g28, .ref g29, .int (nI bs.length), .int g31, .int g32])), (g29, .inl (cB, 1400, .inl f))]) [0, 1] (by decide) rfl
        have hFc := va_free (wc := [(h, .inr (1, [.int g0, .int g1, .int g2, .int g3, .int g4, .ref g5, .int g6, .ref g7, .ref g8, .ref g9, .ref g10, .ref g11, .int g12, .int g13, .int g14, .ref g15, .int g16, .ref g17, .ref g18, .ref g19, .ref g20, .ref g21, .ref g22, .int g23, .ref g24, .int g25, .int g26, .int g27, .int g28, .ref g29, .int (nI bs.length), .int g31, .int g32])), (g29, .inl (cB, 1400, .inl f))]) hD hS hA [0, 1] rfl
        refine va_callv (va_runV (As := [.int (nI n)]) (rest := []) ⟨hx, hb, hml, hown, hw⟩ (cb_M_lay l dC dI cB cI cJ H.size h g0 g1 g2 g3 g4 g6 g12 g13 g14 g16 g23 g25 g26 g27 g28 g31 g32 g5 g7 g8 g9 g10 g11 g15 g17 g18 g19 g20 g21 g22 g24 g29 f bs hH (nI n) (by have := encUf_pos 0 n; omega)) (kw_V 1 hw qq_735 qq_5 qq_738 qq_737 qs_M_lay rfl rfl (by decide +kernel) ⟨Nat.le_of_ble_eq_true rfl, Nat.le_of_ble_eq_true rfl⟩) ⟨fun a U g mk q => by obtain ⟨q0, q1, qP, qK, qD⟩ := q; exact ⟨q0, q1, qP, va_K.moved (u := U) (U := U.calling g mk a) (Vm.Alike.refl U.vm) qK, qD⟩, va_recv hK hPc (ci := 1) (q0 := 0) rfl rfl, fun U hU hW => ⟨rfl, by rw [hU], by rw [hU]; exact hPc, va_K.moved hW.alike hK, hDc.weaken (fun _ _ _ _ => trivial)⟩⟩ rfl rfl hl.1 rfl (lv_room (Nat.le_of_ble_eq_true rfl)) dd_M_layU_32 ⟨by first | exact Nat.le_of_ble_eq_true rfl | (simp only [headSpec]; omega), by first | exact Nat.le_of_ble_eq_true rfl | (simp only [headSpec]; omega)⟩) hS (fun q _ h => hFc q h) hFc (fun f_3 t H1 locs ht hvm hq_4 hB hz1 hk1 hS => ?_)
        obtain ⟨hP1, hK1, hD1⟩ := hB
        rw [ht] at hP1
        obtain ⟨hP, hD⟩ := va_join (wr := []) (w1 := [(h, .inr (1, [.int g0, .int g1, .int g2, .int g3, .int g4, .ref g5, .int g6, .ref g7, .ref g8, .ref g9, .ref g10, .ref g11, .int g12, .int g13, .int g14, .ref g15, .int g16, .ref g17, .ref g18, .ref g19, .ref g20, .ref g21, .ref g22, .int g23, .ref g24, .int g25, .int g26, .int g27, .int g28, .ref g29, .int (nI (bs.length + 1)), .int g31, .int g32])), (g29, .inl (cB, 1400, .inl f_3))]) hP hD [0, 1] [] rfl rfl (by decide) (by decide) hk1 hFc hP1 hD1
        clear hP1 hK1 hD1 ht hvm hz1 hk1 hPc hDc hFc
        generalize H1 = H at hP hS ⊢
        have hP : va_P (dC, dI) vcl [(h, .inr (1, [.int g0, .int g1, .int g2, .int g3, .int g4, .ref g5, .int g6, .ref g7, .ref g8, .ref g9, .ref g10, .ref g11, .int g12, .int g13, .int g14, .ref g15, .int g16, .ref g17, .ref g18, .ref g19, .ref g20, .ref g21, .ref g22, .int g23, .ref g24, .int g25, .int g26, .int g27, .int g28, .ref g29, .int (nI (bs.length + 1)), .int g31, .int g32])), (g29, .inl (cB, 1400, .inl f_3))] H := hP
        have hD : va_D A [(h, .inr (1, [.int g0, .int g1, .int g2, .int g3, .int g4, .ref g5, .int g6, .ref g7, .ref g8, .ref g9, .ref g10, .ref g11, .int g12, .int g13, .int g14, .ref g15, .int g16, .ref g17, .ref g18, .ref g19, .ref g20, .ref g21, .ref g22, .int g23, .ref g24, .int g25, .int g26, .int g27, .int g28, .ref g29, .int (nI (bs.length + 1)), .int g31, .int g32])), (g29, .inl (cB, 1400, .inl f_3))] := hD
        have hq_4 : Hd (bs ++ [nI n]) f_3 := by rw [nI_255 (by omega)] at hq_4; exact hq_4
        have e_5 : (nI (bs.length + 1) : Int32) = nI (bs ++ [nI n]).length := (by simp only [List.length_append, List.length_cons, List.length_nil])
        have hP : va_P (dC, dI) vcl [(h, .inr (1, [.int g0, .int g1, .int g2, .int g3, .int g4, .ref g5, .int g6, .ref g7, .ref g8, .ref g9, .ref g10, .ref g11, .int g12, .int g13, .int g14, .ref g15, .int g16, .ref g17, .ref g18, .ref g19, .ref g20, .ref g21, .ref g22, .int g23, .ref g24, .int g25, .int g26, .int g27, .int g28, .ref g29, .int (nI (bs ++ [nI n]).length), .int g31, .int g32])), (g29, .inl (cB, 1400, .inl f_3))] H := by rw [← e_5]; exact hP
        have hD : va_D A [(h, .inr (1, [.int g0, .int g1, .int g2, .int g3, .int g4, .ref g5, .int g6, .ref g7, .ref g8, .ref g9, .ref g10, .ref g11, .int g12, .int g13, .int g14, .ref g15, .int g16, .ref g17, .ref g18, .ref g19, .ref g20, .ref g21, .ref g22, .int g23, .ref g24, .int g25, .int g26, .int g27, .int g28, .ref g29, .int (nI (bs ++ [nI n]).length), .int g31, .int g32])), (g29, .inl (cB, 1400, .inl f_3))] := by rw [← e_5]; exact hD
        have hfin : bs ++ [nI n] = bs0 ++ encUf 4 n0 := by rw [hU, encUf]
        have e_6 : (nI (bs ++ [nI n]).length : Int32) = nI (bs0 ++ encUf 4 n0).length := (by rw [hfin])
        have hP : va_P (dC, dI) vcl [(h, .inr (1, [.int g0, .int g1, .int g2, .int g3, .int g4, .ref g5, .int g6, .ref g7, .ref g8, .ref g9, .ref g10, .ref g11, .int g12, .int g13, .int g14, .ref g15, .int g16, .ref g17, .ref g18, .ref g19, .ref g20, .ref g21, .ref g22, .int g23, .ref g24, .int g25, .int g26, .int g27, .int g28, .ref g29, .int (nI (bs0 ++ encUf 4 n0).length), .int g31, .int g32])), (g29, .inl (cB, 1400, .inl f_3))] H := by rw [← e_6]; exact hP
        have hD : va_D A [(h, .inr (1, [.int g0, .int g1, .int g2, .int g3, .int g4, .ref g5, .int g6, .ref g7, .ref g8, .ref g9, .ref g10, .ref g11, .int g12, .int g13, .int g14, .ref g15, .int g16, .ref g17, .ref g18, .ref g19, .ref g20, .ref g21, .ref g22, .int g23, .ref g24, .int g25, .int g26, .int g27, .int g28, .ref g29, .int (nI (bs0 ++ encUf 4 n0).length), .int g31, .int g32])), (g29, .inl (cB, 1400, .inl f_3))] := by rw [← e_6]; exact hD
        have hP9 := hP.sub (ws' := [(h, .inr (1, [.int g0, .int g1, .int g2, .int g3, .int g4, .ref g5, .int g6, .ref g7, .ref g8, .ref g9, .ref g10, .ref g11, .int g12, .int g13, .int g14, .ref g15, .int g16, .ref g17, .ref g18, .ref g19, .ref g20, .ref g21, .ref g22, .int g23, .ref g24, .int g25, .int g26, .int g27, .int g28, .ref g29, .int (nI (bs0 ++ encUf 4 n0).length), .int g31, .int g32])), (g29, .inl (cB, 1400, .inl f_3))]) [0, 1] rfl
        have hD9 := hD.sub (ws' := [(h, .inr (1, [.int g0, .int g1, .int g2, .int g3, .int g4, .ref g5, .int g6, .ref g7, .ref g8, .ref g9, .ref g10, .ref g11, .int g12, .int g13, .int g14, .ref g15, .int g16, .ref g17, .ref g18, .ref g19, .ref g20, .ref g21, .ref g22, .int g23, .ref g24, .int g25, .int g26, .int g27, .int g28, .ref g29, .int (nI (bs0 ++ encUf 4 n0).length), .int g31, .int g32])), (g29, .inl (cB, 1400, .inl f_3))]) [0, 1] (by decide) rfl
        refine W.widen (k := 0) (n := 0) (by first | exact Nat.le_refl _ | omega) (by first | exact Nat.le_refl _ | omega) ?_
        exact W.vret hx hb hr (fun t ht hW => ⟨⟨f_3, rfl, (by rw [← hfin]; exact hq_4), by rw [ht]; exact hP9, va_K.moved hW.alike hK, hD9⟩, hS.F ht⟩) hS.2.2 dd_M_layU_35
      · exact absurd ((nI_127 (by omega)).mpr (by omega)) c_2
    | succ k ih =>
      intro n bs f hH hk hn hU hRm H locs hP hD hS ls hl
      refine lv_iload_n hx hb dd_M_layU_2 rfl (lv_at hl 2 rfl) ?_
      refine lv_bipush (v := 127) hx hb dd_M_layU_3 (by decide) ?_
      refine lv_icmp_le (tgt := 30) hx hb dd_M_layU_5 (by decide) (fun c_7 => ?_) (fun c_7 => ?_)
      · have hlt : n < 128 := (nI_127 (by omega)).mp c_7
        refine lv_aload_n hx hb dd_M_layU_30 rfl (lv_at hl 0 rfl) ?_
        refine lv_iload_n hx hb dd_M_layU_31 rfl (lv_at hl 2 rfl) ?_
        have hPc := hP.sub (ws' := [(h, .inr (1, [.int g0, .int g1, .int g2, .int g3, .int g4, .ref g5, .int g6, .ref g7, .ref g8, .ref g9, .ref g10, .ref g11, .int g12, .int g13, .int g14, .ref g15, .int g16, .ref g17, .ref g18, .ref g19, .ref g20, .ref g21, .ref g22, .int g23, .ref g24, .int g25, .int g26, .int g27, .int g28, .ref g29, .int (nI bs.length), .int g31, .int g32])), (g29, .inl (cB, 1400, .inl f))]) [0, 1] rfl
        have hDc := hD.sub (ws' := [(h, .inr (1, [.int g0, .int g1, .int g2, .int g3, .int g4, .ref g5, .int g6, .ref g7, .ref g8, .ref g9, .ref g10, .ref g11, .int g12, .int g13, .int g14, .ref g15, .int g16, .ref g17, .ref g18, .ref g19, .ref g20, .ref g21, .ref g22, .int g23, .ref g24, .int g25, .int g26, .int g27, .int g28, .ref g29, .int (nI bs.length), .int g31, .int g32])), (g29, .inl (cB, 1400, .inl f))]) [0, 1] (by decide) rfl
        have hFc := va_free (wc := [(h, .inr (1, [.int g0, .int g1, .int g2, .int g3, .int g4, .ref g5, .int g6, .ref g7, .ref g8, .ref g9, .ref g10, .ref g11, .int g12, .int g13, .int g14, .ref g15, .int g16, .ref g17, .ref g18, .ref g19, .ref g20, .ref g21, .ref g22, .int g23, .ref g24, .int g25, .int g26, .int g27, .int g28, .ref g29, .int (nI bs.length), .int g31, .int g32])), (g29, .inl (cB, 1400, .inl f))]) hD hS hA [0, 1] rfl
        refine va_callv (va_runV (As := [.int (nI n)]) (rest := []) ⟨hx, hb, hml, hown, hw⟩ (cb_M_lay l dC dI cB cI cJ H.size h g0 g1 g2 g3 g4 g6 g12 g13 g14 g16 g23 g25 g26 g27 g28 g31 g32 g5 g7 g8 g9 g10 g11 g15 g17 g18 g19 g20 g21 g22 g24 g29 f bs hH (nI n) (by have := encUf_pos (k + 1) n; omega)) (kw_V 1 hw qq_735 qq_5 qq_738 qq_737 qs_M_lay rfl rfl (by decide +kernel) ⟨Nat.le_of_ble_eq_true rfl, Nat.le_of_ble_eq_true rfl⟩) ⟨fun a U g mk q => by obtain ⟨q0, q1, qP, qK, qD⟩ := q; exact ⟨q0, q1, qP, va_K.moved (u := U) (U := U.calling g mk a) (Vm.Alike.refl U.vm) qK, qD⟩, va_recv hK hPc (ci := 1) (q0 := 0) rfl rfl, fun U hU hW => ⟨rfl, by rw [hU], by rw [hU]; exact hPc, va_K.moved hW.alike hK, hDc.weaken (fun _ _ _ _ => trivial)⟩⟩ rfl rfl hl.1 rfl (lv_room (Nat.le_of_ble_eq_true rfl)) dd_M_layU_32 ⟨by first | exact Nat.le_of_ble_eq_true rfl | (simp only [headSpec]; omega), by first | exact Nat.le_of_ble_eq_true rfl | (simp only [headSpec]; omega)⟩) hS (fun q _ h => hFc q h) hFc (fun f_8 t H1 locs ht hvm hq_9 hB hz1 hk1 hS => ?_)
        obtain ⟨hP1, hK1, hD1⟩ := hB
        rw [ht] at hP1
        obtain ⟨hP, hD⟩ := va_join (wr := []) (w1 := [(h, .inr (1, [.int g0, .int g1, .int g2, .int g3, .int g4, .ref g5, .int g6, .ref g7, .ref g8, .ref g9, .ref g10, .ref g11, .int g12, .int g13, .int g14, .ref g15, .int g16, .ref g17, .ref g18, .ref g19, .ref g20, .ref g21, .ref g22, .int g23, .ref g24, .int g25, .int g26, .int g27, .int g28, .ref g29, .int (nI (bs.length + 1)), .int g31, .int g32])), (g29, .inl (cB, 1400, .inl f_8))]) hP hD [0, 1] [] rfl rfl (by decide) (by decide) hk1 hFc hP1 hD1
        clear hP1 hK1 hD1 ht hvm hz1 hk1 hPc hDc hFc
        generalize H1 = H at hP hS ⊢
        have hP : va_P (dC, dI) vcl [(h, .inr (1, [.int g0, .int g1, .int g2, .int g3, .int g4, .ref g5, .int g6, .ref g7, .ref g8, .ref g9, .ref g10, .ref g11, .int g12, .int g13, .int g14, .ref g15, .int g16, .ref g17, .ref g18, .ref g19, .ref g20, .ref g21, .ref g22, .int g23, .ref g24, .int g25, .int g26, .int g27, .int g28, .ref g29, .int (nI (bs.length + 1)), .int g31, .int g32])), (g29, .inl (cB, 1400, .inl f_8))] H := hP
        have hD : va_D A [(h, .inr (1, [.int g0, .int g1, .int g2, .int g3, .int g4, .ref g5, .int g6, .ref g7, .ref g8, .ref g9, .ref g10, .ref g11, .int g12, .int g13, .int g14, .ref g15, .int g16, .ref g17, .ref g18, .ref g19, .ref g20, .ref g21, .ref g22, .int g23, .ref g24, .int g25, .int g26, .int g27, .int g28, .ref g29, .int (nI (bs.length + 1)), .int g31, .int g32])), (g29, .inl (cB, 1400, .inl f_8))] := hD
        have hq_9 : Hd (bs ++ [nI n]) f_8 := by rw [nI_255 (by omega)] at hq_9; exact hq_9
        have e_10 : (nI (bs.length + 1) : Int32) = nI (bs ++ [nI n]).length := (by simp only [List.length_append, List.length_cons, List.length_nil])
        have hP : va_P (dC, dI) vcl [(h, .inr (1, [.int g0, .int g1, .int g2, .int g3, .int g4, .ref g5, .int g6, .ref g7, .ref g8, .ref g9, .ref g10, .ref g11, .int g12, .int g13, .int g14, .ref g15, .int g16, .ref g17, .ref g18, .ref g19, .ref g20, .ref g21, .ref g22, .int g23, .ref g24, .int g25, .int g26, .int g27, .int g28, .ref g29, .int (nI (bs ++ [nI n]).length), .int g31, .int g32])), (g29, .inl (cB, 1400, .inl f_8))] H := by rw [← e_10]; exact hP
        have hD : va_D A [(h, .inr (1, [.int g0, .int g1, .int g2, .int g3, .int g4, .ref g5, .int g6, .ref g7, .ref g8, .ref g9, .ref g10, .ref g11, .int g12, .int g13, .int g14, .ref g15, .int g16, .ref g17, .ref g18, .ref g19, .ref g20, .ref g21, .ref g22, .int g23, .ref g24, .int g25, .int g26, .int g27, .int g28, .ref g29, .int (nI (bs ++ [nI n]).length), .int g31, .int g32])), (g29, .inl (cB, 1400, .inl f_8))] := by rw [← e_10]; exact hD
        have hfin : bs ++ [nI n] = bs0 ++ encUf 4 n0 := by rw [hU, encUf, if_pos hlt]
        have e_11 : (nI (bs ++ [nI n]).length : Int32) = nI (bs0 ++ encUf 4 n0).length := (by rw [hfin])
        have hP : va_P (dC, dI) vcl [(h, .inr (1, [.int g0, .int g1, .int g2, .int g3, .int g4, .ref g5, .int g6, .ref g7, .ref g8, .ref g9, .ref g10, .ref g11, .int g12, .int g13, .int g14, .ref g15, .int g16, .ref g17, .ref g18, .ref g19, .ref g20, .ref g21, .ref g22, .int g23, .ref g24, .int g25, .int g26, .int g27, .int g28, .ref g29, .int (nI (bs0 ++ encUf 4 n0).length), .int g31, .int g32])), (g29, .inl (cB, 1400, .inl f_8))] H := by rw [← e_11]; exact hP
        have hD : va_D A [(h, .inr (1, [.int g0, .int g1, .int g2, .int g3, .int g4, .ref g5, .int g6, .ref g7, .ref g8, .ref g9, .ref g10, .ref g11, .int g12, .int g13, .int g14, .ref g15, .int g16, .ref g17, .ref g18, .ref g19, .ref g20, .ref g21, .ref g22, .int g23, .ref g24, .int g25, .int g26, .int g27, .int g28, .ref g29, .int (nI (bs0 ++ encUf 4 n0).length), .int g31, .int g32])), (g29, .inl (cB, 1400, .inl f_8))] := by rw [← e_11]; exact hD
        have hP9 := hP.sub (ws' := [(h, .inr (1, [.int g0, .int g1, .int g2, .int g3, .int g4, .ref g5, .int g6, .ref g7, .ref g8, .ref g9, .ref g10, .ref g11, .int g12, .int g13, .int g14, .ref g15, .int g16, .ref g17, .ref g18, .ref g19, .ref g20, .ref g21, .ref g22, .int g23, .ref g24, .int g25, .int g26, .int g27, .int g28, .ref g29, .int (nI (bs0 ++ encUf 4 n0).length), .int g31, .int g32])), (g29, .inl (cB, 1400, .inl f_8))]) [0, 1] rfl
        have hD9 := hD.sub (ws' := [(h, .inr (1, [.int g0, .int g1, .int g2, .int g3, .int g4, .ref g5, .int g6, .ref g7, .ref g8, .ref g9, .ref g10, .ref g11, .int g12, .int g13, .int g14, .ref g15, .int g16, .ref g17, .ref g18, .ref g19, .ref g20, .ref g21, .ref g22, .int g23, .ref g24, .int g25, .int g26, .int g27, .int g28, .ref g29, .int (nI (bs0 ++ encUf 4 n0).length), .int g31, .int g32])), (g29, .inl (cB, 1400, .inl f_8))]) [0, 1] (by decide) rfl
        refine W.widen (k := 0) (n := 0) (by first | exact Nat.le_refl _ | omega) (by first | exact Nat.le_refl _ | omega) ?_
        exact W.vret hx hb hr (fun t ht hW => ⟨⟨f_8, rfl, (by rw [← hfin]; exact hq_9), by rw [ht]; exact hP9, va_K.moved hW.alike hK, hD9⟩, hS.F ht⟩) hS.2.2 dd_M_layU_35
      · have hge : ¬ n < 128 := fun z => c_7 ((nI_127 (by omega)).mpr z)
        refine lv_aload_n hx hb dd_M_layU_8 rfl (lv_at hl 0 rfl) ?_
        refine lv_sipush (v := 128) hx hb dd_M_layU_9 (by decide) ?_
        refine lv_iload_n hx hb dd_M_layU_12 rfl (lv_at hl 2 rfl) ?_
        refine lv_sipush (v := 128) hx hb dd_M_layU_13 (by decide) ?_
        refine lv_irem hx hb dd_M_layU_16 (by decide) ?_
        refine lv_topi (fun z_12 hz_12 => ?_)
        obtain rfl : z_12 = nI (n % 128) := hz_12.trans (pk_rem (by omega) (by decide) (by decide))
        refine lv_iadd hx hb dd_M_layU_17 ?_
        refine lv_topi (fun z_13 hz_13 => ?_)
        obtain rfl : z_13 = nI (128 + n % 128) := hz_13.trans (nI_add 128 (n % 128))
        have hPc := hP.sub (ws' := [(h, .inr (1, [.int g0, .int g1, .int g2, .int g3, .int g4, .ref g5, .int g6, .ref g7, .ref g8, .ref g9, .ref g10, .ref g11, .int g12, .int g13, .int g14, .ref g15, .int g16, .ref g17, .ref g18, .ref g19, .ref g20, .ref g21, .ref g22, .int g23, .ref g24, .int g25, .int g26, .int g27, .int g28, .ref g29, .int (nI bs.length), .int g31, .int g32])), (g29, .inl (cB, 1400, .inl f))]) [0, 1] rfl
        have hDc := hD.sub (ws' := [(h, .inr (1, [.int g0, .int g1, .int g2, .int g3, .int g4, .ref g5, .int g6, .ref g7, .ref g8, .ref g9, .ref g10, .ref g11, .int g12, .int g13, .int g14, .ref g15, .int g16, .ref g17, .ref g18, .ref g19, .ref g20, .ref g21, .ref g22, .int g23, .ref g24, .int g25, .int g26, .int g27, .int g28, .ref g29, .int (nI bs.length), .int g31, .int g32])), (g29, .inl (cB, 1400, .inl f))]) [0, 1] (by decide) rfl
        have hFc := va_free (wc := [(h, .inr (1, [.int g0, .int g1, .int g2, .int g3, .int g4, .ref g5, .int g6, .ref g7, .ref g8, .ref g9, .ref g10, .ref g11, .int g12, .int g13, .int g14, .ref g15, .int g16, .ref g17, .ref g18, .ref g19, .ref g20, .ref g21, .ref g22, .int g23, .ref g24, .int g25, .int g26, .int g27, .int g28, .ref g29, .int (nI bs.length), .int g31, .int g32])), (g29, .inl (cB, 1400, .inl f))]) hD hS hA [0, 1] rfl
        refine va_callv (va_runV (As := [.int (nI (128 + n % 128))]) (rest := []) ⟨hx, hb, hml, hown, hw⟩ (cb_M_lay l dC dI cB cI cJ H.size h g0 g1 g2 g3 g4 g6 g12 g13 g14 g16 g23 g25 g26 g27 g28 g31 g32 g5 g7 g8 g9 g10 g11 g15 g17 g18 g19 g20 g21 g22 g24 g29 f bs hH (nI (128 + n % 128)) (by have := encUf_pos (k + 1) n; omega)) (kw_V 1 hw qq_735 qq_5 qq_738 qq_737 qs_M_lay rfl rfl (by decide +kernel) ⟨Nat.le_of_ble_eq_true rfl, Nat.le_of_ble_eq_true rfl⟩) ⟨fun a U g mk q => by obtain ⟨q0, q1, qP, qK, qD⟩ := q; exact ⟨q0, q1, qP, va_K.moved (u := U) (U := U.calling g mk a) (Vm.Alike.refl U.vm) qK, qD⟩, va_recv hK hPc (ci := 1) (q0 := 0) rfl rfl, fun U hU hW => ⟨rfl, by rw [hU], by rw [hU]; exact hPc, va_K.moved hW.alike hK, hDc.weaken (fun _ _ _ _ => trivial)⟩⟩ rfl rfl hl.1 rfl (lv_room (Nat.le_of_ble_eq_true rfl)) dd_M_layU_18 ⟨by first | exact Nat.le_of_ble_eq_true rfl | (simp only [headSpec]; omega), by first | exact Nat.le_of_ble_eq_true rfl | (simp only [headSpec]; omega)⟩) hS (fun q _ h => hFc q h) hFc (fun f_14 t H1 locs ht hvm hq_15 hB hz1 hk1 hS => ?_)
        obtain ⟨hP1, hK1, hD1⟩ := hB
        rw [ht] at hP1
        obtain ⟨hP, hD⟩ := va_join (wr := []) (w1 := [(h, .inr (1, [.int g0, .int g1, .int g2, .int g3, .int g4, .ref g5, .int g6, .ref g7, .ref g8, .ref g9, .ref g10, .ref g11, .int g12, .int g13, .int g14, .ref g15, .int g16, .ref g17, .ref g18, .ref g19, .ref g20, .ref g21, .ref g22, .int g23, .ref g24, .int g25, .int g26, .int g27, .int g28, .ref g29, .int (nI (bs.length + 1)), .int g31, .int g32])), (g29, .inl (cB, 1400, .inl f_14))]) hP hD [0, 1] [] rfl rfl (by decide) (by decide) hk1 hFc hP1 hD1
        clear hP1 hK1 hD1 ht hvm hz1 hk1 hPc hDc hFc
        generalize H1 = H at hP hS ⊢
        have hP : va_P (dC, dI) vcl [(h, .inr (1, [.int g0, .int g1, .int g2, .int g3, .int g4, .ref g5, .int g6, .ref g7, .ref g8, .ref g9, .ref g10, .ref g11, .int g12, .int g13, .int g14, .ref g15, .int g16, .ref g17, .ref g18, .ref g19, .ref g20, .ref g21, .ref g22, .int g23, .ref g24, .int g25, .int g26, .int g27, .int g28, .ref g29, .int (nI (bs.length + 1)), .int g31, .int g32])), (g29, .inl (cB, 1400, .inl f_14))] H := hP
        have hD : va_D A [(h, .inr (1, [.int g0, .int g1, .int g2, .int g3, .int g4, .ref g5, .int g6, .ref g7, .ref g8, .ref g9, .ref g10, .ref g11, .int g12, .int g13, .int g14, .ref g15, .int g16, .ref g17, .ref g18, .ref g19, .ref g20, .ref g21, .ref g22, .int g23, .ref g24, .int g25, .int g26, .int g27, .int g28, .ref g29, .int (nI (bs.length + 1)), .int g31, .int g32])), (g29, .inl (cB, 1400, .inl f_14))] := hD
        have hq_15 : Hd (bs ++ [nI (128 + n % 128)]) f_14 := by rw [nI_255 (by omega)] at hq_15; exact hq_15
        have e_16 : (nI (bs.length + 1) : Int32) = nI (bs ++ [nI (128 + n % 128)]).length := (by simp only [List.length_append, List.length_cons, List.length_nil])
        have hP : va_P (dC, dI) vcl [(h, .inr (1, [.int g0, .int g1, .int g2, .int g3, .int g4, .ref g5, .int g6, .ref g7, .ref g8, .ref g9, .ref g10, .ref g11, .int g12, .int g13, .int g14, .ref g15, .int g16, .ref g17, .ref g18, .ref g19, .ref g20, .ref g21, .ref g22, .int g23, .ref g24, .int g25, .int g26, .int g27, .int g28, .ref g29, .int (nI (bs ++ [nI (128 + n % 128)]).length), .int g31, .int g32])), (g29, .inl (cB, 1400, .inl f_14))] H := by rw [← e_16]; exact hP
        have hD : va_D A [(h, .inr (1, [.int g0, .int g1, .int g2, .int g3, .int g4, .ref g5, .int g6, .ref g7, .ref g8, .ref g9, .ref g10, .ref g11, .int g12, .int g13, .int g14, .ref g15, .int g16, .ref g17, .ref g18, .ref g19, .ref g20, .ref g21, .ref g22, .int g23, .ref g24, .int g25, .int g26, .int g27, .int g28, .ref g29, .int (nI (bs ++ [nI (128 + n % 128)]).length), .int g31, .int g32])), (g29, .inl (cB, 1400, .inl f_14))] := by rw [← e_16]; exact hD
        refine lv_iload_n hx hb dd_M_layU_21 rfl (lv_at hl 2 rfl) ?_
        refine lv_sipush (v := 128) hx hb dd_M_layU_22 (by decide) ?_
        refine lv_idiv hx hb dd_M_layU_25 (by decide) ?_
        refine lv_topi (fun z_17 hz_17 => ?_)
        obtain rfl : z_17 = nI (n / 128) := hz_17.trans (pk_div (by omega) (by decide) (by decide))
        refine lv_istore_n (lv' := [(2, .int (nI (n / 128))), (0, .ref h), (1, .int (nI n0))]) hx hb dd_M_layU_26 rfl hl (by decide) rfl (fun ls hl => ?_)
        refine lv_goto (tgt := 2) hx hb dd_M_layU_27 (by decide) ?_
        exact ih (n / 128) (bs ++ [nI (128 + n % 128)]) f_14 hq_15 (by omega) (by omega) (by rw [hU, encUf, if_neg (by omega), List.append_assoc]; rfl) (by rw [encUf, if_neg hge] at hRm; simp only [List.length_append, List.length_cons, List.length_nil] at hRm ⊢; omega) _ _ hP hD hS _ (lv_sub hl [1, 2, 0] rfl)
  exact lp_1 4 n0 bs0 f0 hH (by omega) (by omega) rfl hRm _ _ hP hD hS _ (lv_sub hl [1, 2, 0] rfl)

set_option maxHeartbeats 4000000 in
set_option maxRecDepth 100000 in
/-- layS(v) -/
theorem cb_M_layS (l : Launch) (dC : Nat → ClassId) (dI : Nat → Nat → Nat) (cB cI cJ : ClassId) (sz : Nat) (h : Nat) (g0 g1 g2 g3 g4 g6 g12 g13 g14 g16 g23 g25 g26 g27 g28 g31 g32 : Int32) (g5 g7 g8 g9 g10 g11 g15 g17 g18 g19 g20 g21 g22 g24 g29 : Nat) (f0 : Nat → Int32) (bs0 : List Int32) (hH : Hd bs0 f0) (p0 : Int32) (hRm : bs0.length + (encSf 4 p0).length ≤ 1400) : Met l yy_M_layS (Cond.code yy_M_layS cc_M_layS 3 none :: gw) { frames := 1, cells := 0, slots := 0, locals := 21 } (va_Pc [.ref h, .int p0] (ks_pre dC dI [(cB, .byte), (cI, .int), (cJ, .long)] [(h, .inr (1, [.int g0, .int g1, .int g2, .int g3, .int g4, .ref g5, .int g6, .ref g7, .ref g8, .ref g9, .ref g10, .ref g11, .int g12, .int g13, .int g14, .ref g15, .int g16, .ref g17, .ref g18, .ref g19, .ref g20, .ref g21, .ref g22, .int g23, .ref g24, .int g25, .int g26, .int g27, .int g28, .ref g29, .int (nI bs0.length), .int g31, .int g32])), (g29, .inl (cB, 1400, .inl f0))] sz)) (va_Qv (fun (u : Nat → Int32) => Hd (bs0 ++ encSf 4 p0) u) (fun (u : Nat → Int32) => ks_post dC dI [(cB, .byte), (cI, .int), (cJ, .long)] (va_A [(h, .inr (1, [.int g0, .int g1, .int g2, .int g3, .int g4, .ref g5, .int g6, .ref g7, .ref g8, .ref g9, .ref g10, .ref g11, .int g12, .int g13, .int g14, .ref g15, .int g16, .ref g17, .ref g18, .ref g19, .ref g20, .ref g21, .ref g22, .int g23, .ref g24, .int g25, .int g26, .int g27, .int g28, .ref g29, .int (nI bs0.length), .int g31, .int g32])), (g29, .inl (cB, 1400, .inl f0))] sz) [(h, .inr (1, [.int g0, .int g1, .int g2, .int g3, .int g4, .ref g5, .int g6, .ref g7, .ref g8, .ref g9, .ref g10, .ref g11, .int g12, .int g13, .int g14, .ref g15, .int g16, .ref g17, .ref g18, .ref g19, .ref g20, .ref g21, .ref g22, .int g23, .ref g24, .int g25, .int g26, .int g27, .int g28, .ref g29, .int (nI (bs0 ++ encSf 4 p0).length), .int g31, .int g32])), (g29, .inl (cB, 1400, .inl u))]) (va_A [(h, .inr (1, [.int g0, .int g1, .int g2, .int g3, .int g4, .ref g5, .int g6, .ref g7, .ref g8, .ref g9, .ref g10, .ref g11, .int g12, .int g13, .int g14, .ref g15, .int g16, .ref g17, .ref g18, .ref g19, .ref g20, .ref g21, .ref g22, .int g23, .ref g24, .int g25, .int g26, .int g27, .int g28, .ref g29, .int (nI bs0.length), .int g31, .int g32])), (g29, .inl (cB, 1400, .inl f0))] sz)) 0 0 (va_A [(h, .inr (1, [.int g0, .int g1, .int g2, .int g3, .int g4, .ref g5, .int g6, .ref g7, .ref g8, .ref g9, .ref g10, .ref g11, .int g12, .int g13, .int g14, .ref g15, .int g16, .ref g17, .ref g18, .ref g19, .ref g20, .ref g21, .ref g22, .int g23, .ref g24, .int g25, .int g26, .int g27, .int g28, .ref g29, .int (nI bs0.length), .int g31, .int g32])), (g29, .inl (cB, 1400, .inl f0))] sz) := by
  refine Met.ofW (cc := cc_M_layS) (maxL := 3) (ret := none) (by decide) rfl ?_
  intro p e s m args below meth c s₁ B hml hv
  obtain ⟨rfl, hsz, hP, hK, hD0⟩ := hv
  have hx := B.exec
  have hb := B.bytes
  have hr := B.returns
  have hw : ∀ w ∈ gw, w.before _ s = true := fun w h => atoms_spec (ws := (Cond.code yy_M_layS cc_M_layS 3 none :: gw)) B.pre w (List.mem_cons_of_mem _ h)
  have hown : s.vm.findClass RR_M = some m.cls := findClass_of_methodNamed B.named
  have hlocks := B.notSynchronized
  subst hsz
  have hD := hD0.self (sz := s.heap.size)
  generalize hAe : va_A [(h, .inr (1, [.int g0, .int g1, .int g2, .int g3, .int g4, .ref g5, .int g6, .ref g7, .ref g8, .ref g9, .ref g10, .ref g11, .int g12, .int g13, .int g14, .ref g15, .int g16, .ref g17, .ref g18, .ref g19, .ref g20, .ref g21, .ref g22, .int g23, .ref g24, .int g25, .int g26, .int g27, .int g28, .ref g29, .int (nI bs0.length), .int g31, .int g32])), (g29, .inl (cB, 1400, .inl f0))] s.heap.size = A at hD ⊢
  have hA : ∀ q : Nat, s.heap.size ≤ q → A q := fun q h => by rw [← hAe]; exact Or.inr h
  have hS : va_S A s.heap s.heap [] := va_S.rf
  have hP : va_P (dC, dI) vcl [(h, .inr (1, [.int g0, .int g1, .int g2, .int g3, .int g4, .ref g5, .int g6, .ref g7, .ref g8, .ref g9, .ref g10, .ref g11, .int g12, .int g13, .int g14, .ref g15, .int g16, .ref g17, .ref g18, .ref g19, .ref g20, .ref g21, .ref g22, .int g23, .ref g24, .int g25, .int g26, .int g27, .int g28, .ref g29, .int (nI bs0.length), .int g31, .int g32])), (g29, .inl (cB, 1400, .inl f0))] s.heap := hP
  have hl := lv_entry ([.ref h, .int p0]) (n := 3) (Nat.le_of_ble_eq_true rfl)
  rw [lg_entry_eq]
  generalize (lg_sl ([.ref h, .int p0]) ++ List.replicate (3 - (lg_sl ([.ref h, .int p0])).length) Slot.unset).toArray = ls at hl ⊢
  have hl : lv_has ls 3 [(0, .ref h), (1, .int p0)] := hl
  refine lv_iload_n hx hb dd_M_layS_0 rfl (lv_at hl 1 rfl) ?_
  refine lv_istore_n (lv' := [(2, .int p0), (0, .ref h), (1, .int p0)]) hx hb dd_M_layS_1 rfl hl (by decide) rfl (fun ls hl => ?_)
  have lp_1 : ∀ (k : Nat) (v : Int32) (bs : List Int32) (f : Nat → Int32), (Hd bs f) → (inS k v) → (bs0 ++ encSf 4 p0 = bs ++ encSf k v) → (bs.length + (encSf k v).length ≤ 1400) → ∀ (H : Heap) (locs : List Loc), va_P (dC, dI) vcl [(h, .inr (1, [.int g0, .int g1, .int g2, .int g3, .int g4, .ref g5, .int g6, .ref g7, .ref g8, .ref g9, .ref g10, .ref g11, .int g12, .int g13, .int g14, .ref g15, .int g16, .ref g17, .ref g18, .ref g19, .ref g20, .ref g21, .ref g22, .int g23, .ref g24, .int g25, .int g26, .int g27, .int g28, .ref g29, .int (nI bs.length), .int g31, .int g32])), (g29, .inl (cB, 1400, .inl f))] H → va_D A [(h, .inr (1, [.int g0, .int g1, .int g2, .int g3, .int g4, .ref g5, .int g6, .ref g7, .ref g8, .ref g9, .ref g10, .ref g11, .int g12, .int g13, .int g14, .ref g15, .int g16, .ref g17, .ref g18, .ref g19, .ref g20, .ref g21, .ref g22, .int g23, .ref g24, .int g25, .int g26, .int g27, .int g28, .ref g29, .int (nI bs.length), .int g31, .int g32])), (g29, .inl (cB, 1400, .inl f))] → va_S A s.heap H locs → ∀ ls : Array Slot, lv_has ls 3 [(0, .ref h), (1, .int p0), (2, .int v)] → W p l e (headSpec (Cond.code yy_M_layS cc_M_layS 3 none :: gw) { frames := 1, cells := 0, slots := 0, locals := 21 }).room s m ([.ref h, .int p0] : List Value).toArray below meth c H locs 0 0 (MQ below (va_Qv (fun (u : Nat → Int32) => Hd (bs0 ++ encSf 4 p0) u) (fun (u : Nat → Int32) => ks_post dC dI [(cB, .byte), (cI, .int), (cJ, .long)] A [(h, .inr (1, [.int g0, .int g1, .int g2, .int g3, .int g4, .ref g5, .int g6, .ref g7, .ref g8, .ref g9, .ref g10, .ref g11, .int g12, .int g13, .int g14, .ref g15, .int g16, .ref g17, .ref g18, .ref g19, .ref g20, .ref g21, .ref g22, .int g23, .ref g24, .int g25, .int g26, .int g27, .int g28, .ref g29, .int (nI (bs0 ++ encSf 4 p0).length), .int g31, .int g32])), (g29, .inl (cB, 1400, .inl u))]) A) ([.ref h, .int p0] : List Value).toArray s 0 0 A) (F0 m 2 ls []) := by
    intro k
    induction k with
    | zero =>
      intro v bs f hH hk hU hRm H locs hP hD hS ls hl
      refine lv_iload_n hx hb dd_M_layS_2 rfl (lv_at hl 2 rfl) ?_
      refine lv_bipush (v := -64) hx hb dd_M_layS_3 (by decide) ?_
      refine lv_icmp_lt (tgt := 14) hx hb dd_M_layS_5 (by decide) (fun c_2 => ?_) (fun c_2 => ?_)
      · exact absurd (Or.inl c_2) (inS_0 hk)
      · have hc1 := c_2
        refine lv_iload_n hx hb dd_M_layS_8 rfl (lv_at hl 2 rfl) ?_
        refine lv_bipush (v := 63) hx hb dd_M_layS_9 (by decide) ?_
        refine lv_icmp_le (tgt := 34) hx hb dd_M_layS_11 (by decide) (fun c_3 => ?_) (fun c_3 => ?_)
        · have hc : ¬ (v < -64 ∨ 63 < v) := fun z => z.elim hc1 (fun z => absurd c_3 (Int32.not_le.mpr z))
          refine lv_aload_n hx hb dd_M_layS_34 rfl (lv_at hl 0 rfl) ?_
          refine lv_iload_n hx hb dd_M_layS_35 rfl (lv_at hl 2 rfl) ?_
          refine lv_bipush (v := 127) hx hb dd_M_layS_36 (by decide) ?_
          refine lv_iand hx hb dd_M_layS_38 ?_
          have hPc := hP.sub (ws' := [(h, .inr (1, [.int g0, .int g1, .int g2, .int g3, .int g4, .ref g5, .int g6, .ref g7, .ref g8, .ref g9, .ref g10, .ref g11, .int g12, .int g13, .int g14, .ref g15, .int g16, .ref g17, .ref g18, .ref g19, .ref g20, .ref g21, .ref g22, .int g23, .ref g24, .int g25, .int g26, .int g27, .int g28, .ref g29, .int (nI bs.length), .int g31, .int g32])), (g29, .inl (cB, 1400, .inl f))]) [0, 1] rfl
          have hDc := hD.sub (ws' := [(h, .inr (1, [.int g0, .int g1, .int g2, .int g3, .int g4, .ref g5, .int g6, .ref g7, .ref g8, .ref g9, .ref g10, .ref g11, .int g12, .int g13, .int g14, .ref g15, .int g16, .ref g17, .ref g18, .ref g19, .ref g20, .ref g21, .ref g22, .int g23, .ref g24, .int g25, .int g26, .int g27, .int g28, .ref g29, .int (nI bs.length), .int g31, .int g32])), (g29, .inl (cB, 1400, .inl f))]) [0, 1] (by decide) rfl
          have hFc := va_free (wc := [(h, .inr (1, [.int g0, .int g1, .int g2, .int g3, .int g4, .ref g5, .int g6, .ref g7, .ref g8, .ref g9, .ref g10, .ref g11, .int g12, .int g13, .int g14, .ref g15, .int g16, .ref g17, .ref g18, .ref g19, .ref g20, .ref g21, .ref g22, .int g23, .ref g24, .int g25, .int g26, .int g27, .int g28, .ref g29, .int (nI bs.length), .int g31, .int g32])), (g29, .inl (cB, 1400, .inl f))]) hD hS hA [0, 1] rfl
          refine va_callv (va_runV (As := [.int (v &&& 127)]) (rest := []) ⟨hx, hb, hml, hown, hw⟩ (cb_M_lay l dC dI cB cI cJ H.size h g0 g1 g2 g3 g4 g6 g12 g13 g14 g16 g23 g25 g26 g27 g28 g31 g32 g5 g7 g8 g9 g10 g11 g15 g17 g18 g19 g20 g21 g22 g24 g29 f bs hH (v &&& 127) (by have := encSf_pos 0 v; omega)) (kw_V 1 hw qq_735 qq_5 qq_738 qq_737 qs_M_lay rfl rfl (by decide +kernel) ⟨Nat.le_of_ble_eq_true rfl, Nat.le_of_ble_eq_true rfl⟩) ⟨fun a U g mk q => by obtain ⟨q0, q1, qP, qK, qD⟩ := q; exact ⟨q0, q1, qP, va_K.moved (u := U) (U := U.calling g mk a) (Vm.Alike.refl U.vm) qK, qD⟩, va_recv hK hPc (ci := 1) (q0 := 0) rfl rfl, fun U hU hW => ⟨rfl, by rw [hU], by rw [hU]; exact hPc, va_K.moved hW.alike hK, hDc.weaken (fun _ _ _ _ => trivial)⟩⟩ rfl rfl hl.1 rfl (lv_room (Nat.le_of_ble_eq_true rfl)) dd_M_layS_39 ⟨by first | exact Nat.le_of_ble_eq_true rfl | (simp only [headSpec]; omega), by first | exact Nat.le_of_ble_eq_true rfl | (simp only [headSpec]; omega)⟩) hS (fun q _ h => hFc q h) hFc (fun f_4 t H1 locs ht hvm hq_5 hB hz1 hk1 hS => ?_)
          obtain ⟨hP1, hK1, hD1⟩ := hB
          rw [ht] at hP1
          obtain ⟨hP, hD⟩ := va_join (wr := []) (w1 := [(h, .inr (1, [.int g0, .int g1, .int g2, .int g3, .int g4, .ref g5, .int g6, .ref g7, .ref g8, .ref g9, .ref g10, .ref g11, .int g12, .int g13, .int g14, .ref g15, .int g16, .ref g17, .ref g18, .ref g19, .ref g20, .ref g21, .ref g22, .int g23, .ref g24, .int g25, .int g26, .int g27, .int g28, .ref g29, .int (nI (bs.length + 1)), .int g31, .int g32])), (g29, .inl (cB, 1400, .inl f_4))]) hP hD [0, 1] [] rfl rfl (by decide) (by decide) hk1 hFc hP1 hD1
          clear hP1 hK1 hD1 ht hvm hz1 hk1 hPc hDc hFc
          generalize H1 = H at hP hS ⊢
          have hP : va_P (dC, dI) vcl [(h, .inr (1, [.int g0, .int g1, .int g2, .int g3, .int g4, .ref g5, .int g6, .ref g7, .ref g8, .ref g9, .ref g10, .ref g11, .int g12, .int g13, .int g14, .ref g15, .int g16, .ref g17, .ref g18, .ref g19, .ref g20, .ref g21, .ref g22, .int g23, .ref g24, .int g25, .int g26, .int g27, .int g28, .ref g29, .int (nI (bs.length + 1)), .int g31, .int g32])), (g29, .inl (cB, 1400, .inl f_4))] H := hP
          have hD : va_D A [(h, .inr (1, [.int g0, .int g1, .int g2, .int g3, .int g4, .ref g5, .int g6, .ref g7, .ref g8, .ref g9, .ref g10, .ref g11, .int g12, .int g13, .int g14, .ref g15, .int g16, .ref g17, .ref g18, .ref g19, .ref g20, .ref g21, .ref g22, .int g23, .ref g24, .int g25, .int g26, .int g27, .int g28, .ref g29, .int (nI (bs.length + 1)), .int g31, .int g32])), (g29, .inl (cB, 1400, .inl f_4))] := hD
          have hq_5 : Hd (bs ++ [(v &&& 127) &&& 255]) f_4 := by exact hq_5
          have e_6 : (nI (bs.length + 1) : Int32) = nI (bs ++ [(v &&& 127) &&& 255]).length := (by simp only [List.length_append, List.length_cons, List.length_nil])
          have hP : va_P (dC, dI) vcl [(h, .inr (1, [.int g0, .int g1, .int g2, .int g3, .int g4, .ref g5, .int g6, .ref g7, .ref g8, .ref g9, .ref g10, .ref g11, .int g12, .int g13, .int g14, .ref g15, .int g16, .ref g17, .ref g18, .ref g19, .ref g20, .ref g21, .ref g22, .int g23, .ref g24, .int g25, .int g26, .int g27, .int g28, .ref g29, .int (nI (bs ++ [(v &&& 127) &&& 255]).length), .int g31, .int g32])), (g29, .inl (cB, 1400, .inl f_4))] H := by rw [← e_6]; exact hP
          have hD : va_D A [(h, .inr (1, [.int g0, .int g1, .int g2, .int g3, .int g4, .ref g5, .int g6, .ref g7, .ref g8, .ref g9, .ref g10, .ref g11, .int g12, .int g13, .int g14, .ref g15, .int g16, .ref g17, .ref g18, .ref g19, .ref g20, .ref g21, .ref g22, .int g23, .ref g24, .int g25, .int g26, .int g27, .int g28, .ref g29, .int (nI (bs ++ [(v &&& 127) &&& 255]).length), .int g31, .int g32])), (g29, .inl (cB, 1400, .inl f_4))] := by rw [← e_6]; exact hD
          have hfin : bs ++ [(v &&& 127) &&& 255] = bs0 ++ encSf 4 p0 := by rw [hU, encSf]
          have e_7 : (nI (bs ++ [(v &&& 127) &&& 255]).length : Int32) = nI (bs0 ++ encSf 4 p0).length := (by rw [hfin])
          have hP : va_P (dC, dI) vcl [(h, .inr (1, [.int g0, .int g1, .int g2, .int g3, .int g4, .ref g5, .int g6, .ref g7, .ref g8, .ref g9, .ref g10, .ref g11, .int g12, .int g13, .int g14, .ref g15, .int g16, .ref g17, .ref g18, .ref g19, .ref g20, .ref g21, .ref g22, .int g23, .ref g24, .int g25, .int g26, .int g27, .int g28, .ref g29, .int (nI (bs0 ++ encSf 4 p0).length), .int g31, .int g32])), (g29, .inl (cB, 1400, .inl f_4))] H := by rw [← e_7]; exact hP
          have hD : va_D A [(h, .inr (1, [.int g0, .int g1, .int g2, .int g3, .int g4, .ref g5, .int g6, .ref g7, .ref g8, .ref g9, .ref g10, .ref g11, .int g12, .int g13, .int g14, .ref g15, .int g16, .ref g17, .ref g18, .ref g19, .ref g20, .ref g21, .ref g22, .int g23, .ref g24, .int g25, .int g26, .int g27, .int g28, .ref g29, .int (nI (bs0 ++ encSf 4 p0).length), .int g31, .int g32])), (g29, .inl (cB, 1400, .inl f_4))] := by rw [← e_7]; exact hD
          have hP9 := hP.sub (ws' := [(h, .inr (1, [.int g0, .int g1, .int g2, .int g3, .int g4, .ref g5, .int g6, .ref g7, .ref g8, .ref g9, .ref g10, .ref g11, .int g12, .int g13, .int g14, .ref g15, .int g16, .ref g17, .ref g18, .ref g19, .ref g20, .ref g21, .ref g22, .int g23, .ref g24, .int g25, .int g26, .int g27, .int g28, .ref g29, .int (nI (bs0 ++ encSf 4 p0).length), .int g31, .int g32])), (g29, .inl (cB, 1400, .inl f_4))]) [0, 1] rfl
          have hD9 := hD.sub (ws' := [(h, .inr (1, [.int g0, .int g1, .int g2, .int g3, .int g4, .ref g5, .int g6, .ref g7, .ref g8, .ref g9, .ref g10, .ref g11, .int g12, .int g13, .int g14, .ref g15, .int g16, .ref g17, .ref g18, .ref g19, .ref g20, .ref g21, .ref g22, .int g23, .ref g24, .int g25, .int g26, .int g27, .int g28, .ref g29, .int (nI (bs0 ++ encSf 4 p0).length), .int g31, .int g32])), (g29, .inl (cB, 1400, .inl f_4))]) [0, 1] (by decide) rfl
          refine W.widen (k := 0) (n := 0) (by first | exact Nat.le_refl _ | omega) (by first | exact Nat.le_refl _ | omega) ?_
          exact W.vret hx hb hr (fun t ht hW => ⟨⟨f_4, rfl, (by rw [← hfin]; exact hq_5), by rw [ht]; exact hP9, va_K.moved hW.alike hK, hD9⟩, hS.F ht⟩) hS.2.2 dd_M_layS_42
        · exact absurd (Or.inr (Int32.not_le.mp c_3)) (inS_0 hk)
    | succ k ih =>
      intro v bs f hH hk hU hRm H locs hP hD hS ls hl
      refine lv_iload_n hx hb dd_M_layS_2 rfl (lv_at hl 2 rfl) ?_
      refine lv_bipush (v := -64) hx hb dd_M_layS_3 (by decide) ?_
      refine lv_icmp_lt (tgt := 14) hx hb dd_M_layS_5 (by decide) (fun c_8 => ?_) (fun c_8 => ?_)
      · have hc : v < -64 ∨ 63 < v := by first | exact Or.inl c_8 | exact Or.inr (Int32.not_le.mp c_8)
        refine lv_aload_n hx hb dd_M_layS_14 rfl (lv_at hl 0 rfl) ?_
        refine lv_iload_n hx hb dd_M_layS_15 rfl (lv_at hl 2 rfl) ?_
        refine lv_bipush (v := 127) hx hb dd_M_layS_16 (by decide) ?_
        refine lv_iand hx hb dd_M_layS_18 ?_
        refine lv_sipush (v := 128) hx hb dd_M_layS_19 (by decide) ?_
        refine lv_ior hx hb dd_M_layS_22 ?_
        have hPc := hP.sub (ws' := [(h, .inr (1, [.int g0, .int g1, .int g2, .int g3, .int g4, .ref g5, .int g6, .ref g7, .ref g8, .ref g9, .ref g10, .ref g11, .int g12, .int g13, .int g14, .ref g15, .int g16, .ref g17, .ref g18, .ref g19, .ref g20, .ref g21, .ref g22, .int g23, .ref g24, .int g25, .int g26, .int g27, .int g28, .ref g29, .int (nI bs.length), .int g31, .int g32])), (g29, .inl (cB, 1400, .inl f))]) [0, 1] rfl
        have hDc := hD.sub (ws' := [(h, .inr (1, [.int g0, .int g1, .int g2, .int g3, .int g4, .ref g5, .int g6, .ref g7, .ref g8, .ref g9, .ref g10, .ref g11, .int g12, .int g13, .int g14, .ref g15, .int g16, .ref g17, .ref g18, .ref g19, .ref g20, .ref g21, .ref g22, .int g23, .ref g24, .int g25, .int g26, .int g27, .int g28, .ref g29, .int (nI bs.length), .int g31, .int g32])), (g29, .inl (cB, 1400, .inl f))]) [0, 1] (by decide) rfl
        have hFc := va_free (wc := [(h, .inr (1, [.int g0, .int g1, .int g2, .int g3, .int g4, .ref g5, .int g6, .ref g7, .ref g8, .ref g9, .ref g10, .ref g11, .int g12, .int g13, .int g14, .ref g15, .int g16, .ref g17, .ref g18, .ref g19, .ref g20, .ref g21, .ref g22, .int g23, .ref g24, .int g25, .int g26, .int g27, .int g28, .ref g29, .int (nI bs.length), .int g31, .int g32])), (g29, .inl (cB, 1400, .inl f))]) hD hS hA [0, 1] rfl
        refine va_callv (va_runV (As := [.int ((v &&& 127) ||| 128)]) (rest := []) ⟨hx, hb, hml, hown, hw⟩ (cb_M_lay l dC dI cB cI cJ H.size h g0 g1 g2 g3 g4 g6 g12 g13 g14 g16 g23 g25 g26 g27 g28 g31 g32 g5 g7 g8 g9 g10 g11 g15 g17 g18 g19 g20 g21 g22 g24 g29 f bs hH ((v &&& 127) ||| 128) (by have := encSf_pos (k + 1) v; omega)) (kw_V 1 hw qq_735 qq_5 qq_738 qq_737 qs_M_lay rfl rfl (by decide +kernel) ⟨Nat.le_of_ble_eq_true rfl, Nat.le_of_ble_eq_true rfl⟩) ⟨fun a U g mk q => by obtain ⟨q0, q1, qP, qK, qD⟩ := q; exact ⟨q0, q1, qP, va_K.moved (u := U) (U := U.calling g mk a) (Vm.Alike.refl U.vm) qK, qD⟩, va_recv hK hPc (ci := 1) (q0 := 0) rfl rfl, fun U hU hW => ⟨rfl, by rw [hU], by rw [hU]; exact hPc, va_K.moved hW.alike hK, hDc.weaken (fun _ _ _ _ => trivial)⟩⟩ rfl rfl hl.1 rfl (lv_room (Nat.le_of_ble_eq_true rfl)) dd_M_layS_23 ⟨by first | exact Nat.le_of_ble_eq_true rfl | (simp only [headSpec]; omega), by first | exact Nat.le_of_ble_eq_true rfl | (simp only [headSpec]; omega)⟩) hS (fun q _ h => hFc q h) hFc (fun f_9 t H1 locs ht hvm hq_10 hB hz1 hk1 hS => ?_)
        obtain ⟨hP1, hK1, hD1⟩ := hB
        rw [ht] at hP1
        obtain ⟨hP, hD⟩ := va_join (wr := []) (w1 := [(h, .inr (1, [.int g0, .int g1, .int g2, .int g3, .int g4, .ref g5, .int g6, .ref g7, .ref g8, .ref g9, .ref g10, .ref g11, .int g12, .int g13, .int g14, .ref g15, .int g16, .ref g17, .ref g18, .ref g19, .ref g20, .ref g21, .ref g22, .int g23, .ref g24, .int g25, .int g26, .int g27, .int g28, .ref g29, .int (nI (bs.length + 1)), .int g31, .int g32])), (g29, .inl (cB, 1400, .inl f_9))]) hP hD [0, 1] [] rfl rfl (by decide) (by decide) hk1 hFc hP1 hD1
        clear hP1 hK1 hD1 ht hvm hz1 hk1 hPc hDc hFc
        generalize H1 = H at hP hS ⊢
        have hP : va_P (dC, dI) vcl [(h, .inr (1, [.int g0, .int g1, .int g2, .int g3, .int g4, .ref g5, .int g6, .ref g7, .ref g8, .ref g9, .ref g10, .ref g11, .int g12, .int g13, .int g14, .ref g15, .int g16, .ref g17, .ref g18, .ref g19, .ref g20, .ref g21, .ref g22, .int g23, .ref g24, .int g25, .int g26, .int g27, .int g28, .ref g29, .int (nI (bs.length + 1)), .int g31, .int g32])), (g29, .inl (cB, 1400, .inl f_9))] H := hP
        have hD : va_D A [(h, .inr (1, [.int g0, .int g1, .int g2, .int g3, .int g4, .ref g5, .int g6, .ref g7, .ref g8, .ref g9, .ref g10, .ref g11, .int g12, .int g13, .int g14, .ref g15, .int g16, .ref g17, .ref g18, .ref g19, .ref g20, .ref g21, .ref g22, .int g23, .ref g24, .int g25, .int g26, .int g27, .int g28, .ref g29, .int (nI (bs.length + 1)), .int g31, .int g32])), (g29, .inl (cB, 1400, .inl f_9))] := hD
        have hq_10 : Hd (bs ++ [(v &&& 127 ||| 128) &&& 255]) f_9 := by exact hq_10
        have e_11 : (nI (bs.length + 1) : Int32) = nI (bs ++ [(v &&& 127 ||| 128) &&& 255]).length := (by simp only [List.length_append, List.length_cons, List.length_nil])
        have hP : va_P (dC, dI) vcl [(h, .inr (1, [.int g0, .int g1, .int g2, .int g3, .int g4, .ref g5, .int g6, .ref g7, .ref g8, .ref g9, .ref g10, .ref g11, .int g12, .int g13, .int g14, .ref g15, .int g16, .ref g17, .ref g18, .ref g19, .ref g20, .ref g21, .ref g22, .int g23, .ref g24, .int g25, .int g26, .int g27, .int g28, .ref g29, .int (nI (bs ++ [(v &&& 127 ||| 128) &&& 255]).length), .int g31, .int g32])), (g29, .inl (cB, 1400, .inl f_9))] H := by rw [← e_11]; exact hP
        have hD : va_D A [(h, .inr (1, [.int g0, .int g1, .int g2, .int g3, .int g4, .ref g5, .int g6, .ref g7, .ref g8, .ref g9, .ref g10, .ref g11, .int g12, .int g13, .int g14, .ref g15, .int g16, .ref g17, .ref g18, .ref g19, .ref g20, .ref g21, .ref g22, .int g23, .ref g24, .int g25, .int g26, .int g27, .int g28, .ref g29, .int (nI (bs ++ [(v &&& 127 ||| 128) &&& 255]).length), .int g31, .int g32])), (g29, .inl (cB, 1400, .inl f_9))] := by rw [← e_11]; exact hD
        refine lv_iload_n hx hb dd_M_layS_26 rfl (lv_at hl 2 rfl) ?_
        refine lv_bipush (v := 7) hx hb dd_M_layS_27 (by decide) ?_
        refine lv_ishr hx hb dd_M_layS_29 ?_
        refine lv_istore_n (lv' := [(2, .int (v >>> (7 &&& 31))), (0, .ref h), (1, .int p0)]) hx hb dd_M_layS_30 rfl hl (by decide) rfl (fun ls hl => ?_)
        refine lv_goto (tgt := 2) hx hb dd_M_layS_31 (by decide) ?_
        exact ih (v >>> ((7 : Int32) &&& 31)) (bs ++ [(v &&& 127 ||| 128) &&& 255]) f_9 hq_10 (inS_shr hk) (by rw [hU, encSf, if_pos hc, List.append_assoc]; rfl) (by rw [encSf, if_pos hc] at hRm; simp only [List.length_append, List.length_cons, List.length_nil] at hRm ⊢; omega) _ _ hP hD hS _ (lv_sub hl [1, 2, 0] rfl)
      · have hc1 := c_8
        refine lv_iload_n hx hb dd_M_layS_8 rfl (lv_at hl 2 rfl) ?_
        refine lv_bipush (v := 63) hx hb dd_M_layS_9 (by decide) ?_
        refine lv_icmp_le (tgt := 34) hx hb dd_M_layS_11 (by decide) (fun c_12 => ?_) (fun c_12 => ?_)
        · have hc : ¬ (v < -64 ∨ 63 < v) := fun z => z.elim hc1 (fun z => absurd c_12 (Int32.not_le.mpr z))
          refine lv_aload_n hx hb dd_M_layS_34 rfl (lv_at hl 0 rfl) ?_
          refine lv_iload_n hx hb dd_M_layS_35 rfl (lv_at hl 2 rfl) ?_
          refine lv_bipush (v := 127) hx hb dd_M_layS_36 (by decide) ?_
          refine lv_iand hx hb dd_M_layS_38 ?_
          have hPc := hP.sub (ws' := [(h, .inr (1, [.int g0, .int g1, .int g2, .int g3, .int g4, .ref g5, .int g6, .ref g7, .ref g8, .ref g9, .ref g10, .ref g11, .int g12, .int g13, .int g14, .ref g15, .int g16, .ref g17, .ref g18, .ref g19, .ref g20, .ref g21, .ref g22, .int g23, .ref g24, .int g25, .int g26, .int g27, .int g28, .ref g29, .int (nI bs.length), .int g31, .int g32])), (g29, .inl (cB, 1400, .inl f))]) [0, 1] rfl
          have hDc := hD.sub (ws' := [(h, .inr (1, [.int g0, .int g1, .int g2, .int g3, .int g4, .ref g5, .int g6, .ref g7, .ref g8, .ref g9, .ref g10, .ref g11, .int g12, .int g13, .int g14, .ref g15, .int g16, .ref g17, .ref g18, .ref g19, .ref g20, .ref g21, .ref g22, .int g23, .ref g24, .int g25, .int g26, .int g27, .int g28, .ref g29, .int (nI bs.length), .int g31, .int g32])), (g29, .inl (cB, 1400, .inl f))]) [0, 1] (by decide) rfl
          have hFc := va_free (wc := [(h, .inr (1, [.int g0, .int g1, .int g2, .int g3, .int g4, .ref g5, .int g6, .ref g7, .ref g8, .ref g9, .ref g10, .ref g11, .int g12, .int g13, .int g14, .ref g15, .int g16, .ref g17, .ref g18, .ref g19, .ref g20, .ref g21, .ref g22, .int g23, .ref g24, .int g25, .int g26, .int g27, .int g28, .ref g29, .int (nI bs.length), .int g31, .int g32])), (g29, .inl (cB, 1400, .inl f))]) hD hS hA [0, 1] rfl
          refine va_callv (va_runV (As := [.int (v &&& 127)]) (rest := []) ⟨hx, hb, hml, hown, hw⟩ (cb_M_lay l dC dI cB cI cJ H.size h g0 g1 g2 g3 g4 g6 g12 g13 g14 g16 g23 g25 g26 g27 g28 g31 g32 g5 g7 g8 g9 g10 g11 g15 g17 g18 g19 g20 g21 g22 g24 g29 f bs hH (v &&& 127) (by have := encSf_pos (k + 1) v; omega)) (kw_V 1 hw qq_735 qq_5 qq_738 qq_737 qs_M_lay rfl rfl (by decide +kernel) ⟨Nat.le_of_ble_eq_true rfl, Nat.le_of_ble_eq_true rfl⟩) ⟨fun a U g mk q => by obtain ⟨q0, q1, qP, qK, qD⟩ := q; exact ⟨q0, q1, qP, va_K.moved (u := U) (U := U.calling g mk a) (Vm.Alike.refl U.vm) qK, qD⟩, va_recv hK hPc (ci := 1) (q0 := 0) rfl rfl, fun U hU hW => ⟨rfl, by rw [hU], by rw [hU]; exact hPc, va_K.moved hW.alike hK, hDc.weaken (fun _ _ _ _ => trivial)⟩⟩ rfl rfl hl.1 rfl (lv_room (Nat.le_of_ble_eq_true rfl)) dd_M_layS_39 ⟨by first | exact Nat.le_of_ble_eq_true rfl | (simp only [headSpec]; omega), by first | exact Nat.le_of_ble_eq_true rfl | (simp only [headSpec]; omega)⟩) hS (fun q _ h => hFc q h) hFc (fun f_13 t H1 locs ht hvm hq_14 hB hz1 hk1 hS => ?_)
          obtain ⟨hP1, hK1, hD1⟩ := hB
          rw [ht] at hP1
          obtain ⟨hP, hD⟩ := va_join (wr := []) (w1 := [(h, .inr (1, [.int g0, .int g1, .int g2, .int g3, .int g4, .ref g5, .int g6, .ref g7, .ref g8, .ref g9, .ref g10, .ref g11, .int g12, .int g13, .int g14, .ref g15, .int g16, .ref g17, .ref g18, .ref g19, .ref g20, .ref g21, .ref g22, .int g23, .ref g24, .int g25, .int g26, .int g27, .int g28, .ref g29, .int (nI (bs.length + 1)), .int g31, .int g32])), (g29, .inl (cB, 1400, .inl f_13))]) hP hD [0, 1] [] rfl rfl (by decide) (by decide) hk1 hFc hP1 hD1
          clear hP1 hK1 hD1 ht hvm hz1 hk1 hPc hDc hFc
          generalize H1 = H at hP hS ⊢
          have hP : va_P (dC, dI) vcl [(h, .inr (1, [.int g0, .int g1, .int g2, .int g3, .int g4, .ref g5, .int g6, .ref g7, .ref g8, .ref g9, .ref g10, .ref g11, .int g12, .int g13, .int g14, .ref g15, .int g16, .ref g17, .ref g18, .ref g19, .ref g20, .ref g21, .ref g22, .int g23, .ref g24, .int g25, .int g26, .int g27, .int g28, .ref g29, .int (nI (bs.length + 1)), .int g31, .int g32])), (g29, .inl (cB, 1400, .inl f_13))] H := hP
          have hD : va_D A [(h, .inr (1, [.int g0, .int g1, .int g2, .int g3, .int g4, .ref g5, .int g6, .ref g7, .ref g8, .ref g9, .ref g10, .ref g11, .int g12, .int g13, .int g14, .ref g15, .int g16, .ref g17, .ref g18, .ref g19, .ref g20, .ref g21, .ref g22, .int g23, .ref g24, .int g25, .int g26, .int g27, .int g28, .ref g29, .int (nI (bs.length + 1)), .int g31, .int g32])), (g29, .inl (cB, 1400, .inl f_13))] := hD
          have hq_14 : Hd (bs ++ [(v &&& 127) &&& 255]) f_13 := by exact hq_14
          have e_15 : (nI (bs.length + 1) : Int32) = nI (bs ++ [(v &&& 127) &&& 255]).length := (by simp only [List.length_append, List.length_cons, List.length_nil])
          have hP : va_P (dC, dI) vcl [(h, .inr (1, [.int g0, .int g1, .int g2, .int g3, .int g4, .ref g5, .int g6, .ref g7, .ref g8, .ref g9, .ref g10, .ref g11, .int g12, .int g13, .int g14, .ref g15, .int g16, .ref g17, .ref g18, .ref g19, .ref g20, .ref g21, .ref g22, .int g23, .ref g24, .int g25, .int g26, .int g27, .int g28, .ref g29, .int (nI (bs ++ [(v &&& 127) &&& 255]).length), .int g31, .int g32])), (g29, .inl (cB, 1400, .inl f_13))] H := by rw [← e_15]; exact hP
          have hD : va_D A [(h, .inr (1, [.int g0, .int g1, .int g2, .int g3, .int g4, .ref g5, .int g6, .ref g7, .ref g8, .ref g9, .ref g10, .ref g11, .int g12, .int g13, .int g14, .ref g15, .int g16, .ref g17, .ref g18, .ref g19, .ref g20, .ref g21, .ref g22, .int g23, .ref g24, .int g25, .int g26, .int g27, .int g28, .ref g29, .int (nI (bs ++ [(v &&& 127) &&& 255]).length), .int g31, .int g32])), (g29, .inl (cB, 1400, .inl f_13))] := by rw [← e_15]; exact hD
          have hfin : bs ++ [(v &&& 127) &&& 255] = bs0 ++ encSf 4 p0 := by rw [hU, encSf, if_neg hc]
          have e_16 : (nI (bs ++ [(v &&& 127) &&& 255]).length : Int32) = nI (bs0 ++ encSf 4 p0).length := (by rw [hfin])
          have hP : va_P (dC, dI) vcl [(h, .inr (1, [.int g0, .int g1, .int g2, .int g3, .int g4, .ref g5, .int g6, .ref g7, .ref g8, .ref g9, .ref g10, .ref g11, .int g12, .int g13, .int g14, .ref g15, .int g16, .ref g17, .ref g18, .ref g19, .ref g20, .ref g21, .ref g22, .int g23, .ref g24, .int g25, .int g26, .int g27, .int g28, .ref g29, .int (nI (bs0 ++ encSf 4 p0).length), .int g31, .int g32])), (g29, .inl (cB, 1400, .inl f_13))] H := by rw [← e_16]; exact hP
          have hD : va_D A [(h, .inr (1, [.int g0, .int g1, .int g2, .int g3, .int g4, .ref g5, .int g6, .ref g7, .ref g8, .ref g9, .ref g10, .ref g11, .int g12, .int g13, .int g14, .ref g15, .int g16, .ref g17, .ref g18, .ref g19, .ref g20, .ref g21, .ref g22, .int g23, .ref g24, .int g25, .int g26, .int g27, .int g28, .ref g29, .int (nI (bs0 ++ encSf 4 p0).length), .int g31, .int g32])), (g29, .inl (cB, 1400, .inl f_13))] := by rw [← e_16]; exact hD
          have hP9 := hP.sub (ws' := [(h, .inr (1, [.int g0, .int g1, .int g2, .int g3, .int g4, .ref g5, .int g6, .ref g7, .ref g8, .ref g9, .ref g10, .ref g11, .int g12, .int g13, .int g14, .ref g15, .int g16, .ref g17, .ref g18, .ref g19, .ref g20, .ref g21, .ref g22, .int g23, .ref g24, .int g25, .int g26, .int g27, .int g28, .ref g29, .int (nI (bs0 ++ encSf 4 p0).length), .int g31, .int g32])), (g29, .inl (cB, 1400, .inl f_13))]) [0, 1] rfl
          have hD9 := hD.sub (ws' := [(h, .inr (1, [.int g0, .int g1, .int g2, .int g3, .int g4, .ref g5, .int g6, .ref g7, .ref g8, .ref g9, .ref g10, .ref g11, .int g12, .int g13, .int g14, .ref g15, .int g16, .ref g17, .ref g18, .ref g19, .ref g20, .ref g21, .ref g22, .int g23, .ref g24, .int g25, .int g26, .int g27, .int g28, .ref g29, .int (nI (bs0 ++ encSf 4 p0).length), .int g31, .int g32])), (g29, .inl (cB, 1400, .inl f_13))]) [0, 1] (by decide) rfl
          refine W.widen (k := 0) (n := 0) (by first | exact Nat.le_refl _ | omega) (by first | exact Nat.le_refl _ | omega) ?_
          exact W.vret hx hb hr (fun t ht hW => ⟨⟨f_13, rfl, (by rw [← hfin]; exact hq_14), by rw [ht]; exact hP9, va_K.moved hW.alike hK, hD9⟩, hS.F ht⟩) hS.2.2 dd_M_layS_42
        · have hc : v < -64 ∨ 63 < v := by first | exact Or.inl c_12 | exact Or.inr (Int32.not_le.mp c_12)
          refine lv_aload_n hx hb dd_M_layS_14 rfl (lv_at hl 0 rfl) ?_
          refine lv_iload_n hx hb dd_M_layS_15 rfl (lv_at hl 2 rfl) ?_
          refine lv_bipush (v := 127) hx hb dd_M_layS_16 (by decide) ?_
          refine lv_iand hx hb dd_M_layS_18 ?_
          refine lv_sipush (v := 128) hx hb dd_M_layS_19 (by decide) ?_
          refine lv_ior hx hb dd_M_layS_22 ?_
          have hPc := hP.sub (ws' := [(h, .inr (1, [.int g0, .int g1, .int g2, .int g3, .int g4, .ref g5, .int g6, .ref g7, .ref g8, .ref g9, .ref g10, .ref g11, .int g12, .int g13, .int g14, .ref g15, .int g16, .ref g17, .ref g18, .ref g19, .ref g20, .ref g21, .ref g22, .int g23, .ref g24, .int g25, .int g26, .int g27, .int g28, .ref g29, .int (nI bs.length), .int g31, .int g32])), (g29, .inl (cB, 1400, .inl f))]) [0, 1] rfl
          have hDc := hD.sub (ws' := [(h, .inr (1, [.int g0, .int g1, .int g2, .int g3, .int g4, .ref g5, .int g6, .ref g7, .ref g8, .ref g9, .ref g10, .ref g11, .int g12, .int g13, .int g14, .ref g15, .int g16, .ref g17, .ref g18, .ref g19, .ref g20, .ref g21, .ref g22, .int g23, .ref g24, .int g25, .int g26, .int g27, .int g28, .ref g29, .int (nI bs.length), .int g31, .int g32])), (g29, .inl (cB, 1400, .inl f))]) [0, 1] (by decide) rfl
          have hFc := va_free (wc := [(h, .inr (1, [.int g0, .int g1, .int g2, .int g3, .int g4, .ref g5, .int g6, .ref g7, .ref g8, .ref g9, .ref g10, .ref g11, .int g12, .int g13, .int g14, .ref g15, .int g16, .ref g17, .ref g18, .ref g19, .ref g20, .ref g21, .ref g22, .int g23, .ref g24, .int g25, .int g26, .int g27, .int g28, .ref g29, .int (nI bs.length), .int g31, .int g32])), (g29, .inl (cB, 1400, .inl f))]) hD hS hA [0, 1] rfl
          refine va_callv (va_runV (As := [.int ((v &&& 127) ||| 128)]) (rest := []) ⟨hx, hb, hml, hown, hw⟩ (cb_M_lay l dC dI cB cI cJ H.size h g0 g1 g2 g3 g4 g6 g12 g13 g14 g16 g23 g25 g26 g27 g28 g31 g32 g5 g7 g8 g9 g10 g11 g15 g17 g18 g19 g20 g21 g22 g24 g29 f bs hH ((v &&& 127) ||| 128) (by have := encSf_pos (k + 1) v; omega)) (kw_V 1 hw qq_735 qq_5 qq_738 qq_737 qs_M_lay rfl rfl (by decide +kernel) ⟨Nat.le_of_ble_eq_true rfl, Nat.le_of_ble_eq_true rfl⟩) ⟨fun a U g mk q => by obtain ⟨q0, q1, qP, qK, qD⟩ := q; exact ⟨q0, q1, qP, va_K.moved (u := U) (U := U.calling g mk a) (Vm.Alike.refl U.vm) qK, qD⟩, va_recv hK hPc (ci := 1) (q0 := 0) rfl rfl, fun U hU hW => ⟨rfl, by rw [hU], by rw [hU]; exact hPc, va_K.moved hW.alike hK, hDc.weaken (fun _ _ _ _ => trivial)⟩⟩ rfl rfl hl.1 rfl (lv_room (Nat.le_of_ble_eq_true rfl)) dd_M_layS_23 ⟨by first | exact Nat.le_of_ble_eq_true rfl | (simp only [headSpec]; omega), by first | exact Nat.le_of_ble_eq_true rfl | (simp only [headSpec]; omega)⟩) hS (fun q _ h => hFc q h) hFc (fun f_17 t H1 locs ht hvm hq_18 hB hz1 hk1 hS => ?_)
          obtain ⟨hP1, hK1, hD1⟩ := hB
          rw [ht] at hP1
          obtain ⟨hP, hD⟩ := va_join (wr := []) (w1 := [(h, .inr (1, [.int g0, .int g1, .int g2, .int g3, .int g4, .ref g5, .int g6, .ref g7, .ref g8, .ref g9, .ref g10, .ref g11, .int g12, .int g13, .int g14, .ref g15, .int g16, .ref g17, .ref g18, .ref g19, .ref g20, .ref g21, .ref g22, .int g23, .ref g24, .int g25, .int g26, .int g27, .int g28, .ref g29, .int (nI (bs.length + 1)), .int g31, .int g32])), (g29, .inl (cB, 1400, .inl f_17))]) hP hD [0, 1] [] rfl rfl (by decide) (by decide) hk1 hFc hP1 hD1
          clear hP1 hK1 hD1 ht hvm hz1 hk1 hPc hDc hFc
          generalize H1 = H at hP hS ⊢
          have hP : va_P (dC, dI) vcl [(h, .inr (1, [.int g0, .int g1, .int g2, .int g3, .int g4, .ref g5, .int g6, .ref g7, .ref g8, .ref g9, .ref g10, .ref g11, .int g12, .int g13, .int g14, .ref g15, .int g16, .ref g17, .ref g18, .ref g19, .ref g20, .ref g21, .ref g22, .int g23, .ref g24, .int g25, .int g26, .int g27, .int g28, .ref g29, .int (nI (bs.length + 1)), .int g31, .int g32])), (g29, .inl (cB, 1400, .inl f_17))] H := hP
          have hD : va_D A [(h, .inr (1, [.int g0, .int g1, .int g2, .int g3, .int g4, .ref g5, .int g6, .ref g7, .ref g8, .ref g9, .ref g10, .ref g11, .int g12, .int g13, .int g14, .ref g15, .int g16, .ref g17, .ref g18, .ref g19, .ref g20, .ref g21, .ref g22, .int g23, .ref g24, .int g25, .int g26, .int g27, .int g28, .ref g29, .int (nI (bs.length + 1)), .int g31, .int g32])), (g29, .inl (cB, 1400, .inl f_17))] := hD
          have hq_18 : Hd (bs ++ [(v &&& 127 ||| 128) &&& 255]) f_17 := by exact hq_18
          have e_19 : (nI (bs.length + 1) : Int32) = nI (bs ++ [(v &&& 127 ||| 128) &&& 255]).length := (by simp only [List.length_append, List.length_cons, List.length_nil])
          have hP : va_P (dC, dI) vcl [(h, .inr (1, [.int g0, .int g1, .int g2, .int g3, .int g4, .ref g5, .int g6, .ref g7, .ref g8, .ref g9, .ref g10, .ref g11, .int g12, .int g13, .int g14, .ref g15, .int g16, .ref g17, .ref g18, .ref g19, .ref g20, .ref g21, .ref g22, .int g23, .ref g24, .int g25, .int g26, .int g27, .int g28, .ref g29, .int (nI (bs ++ [(v &&& 127 ||| 128) &&& 255]).length), .int g31, .int g32])), (g29, .inl (cB, 1400, .inl f_17))] H := by rw [← e_19]; exact hP
          have hD : va_D A [(h, .inr (1, [.int g0, .int g1, .int g2, .int g3, .int g4, .ref g5, .int g6, .ref g7, .ref g8, .ref g9, .ref g10, .ref g11, .int g12, .int g13, .int g14, .ref g15, .int g16, .ref g17, .ref g18, .ref g19, .ref g20, .ref g21, .ref g22, .int g23, .ref g24, .int g25, .int g26, .int g27, .int g28, .ref g29, .int (nI (bs ++ [(v &&& 127 ||| 128) &&& 255]).length), .int g31, .int g32])), (g29, .inl (cB, 1400, .inl f_17))] := by rw [← e_19]; exact hD
          refine lv_iload_n hx hb dd_M_layS_26 rfl (lv_at hl 2 rfl) ?_
          refine lv_bipush (v := 7) hx hb dd_M_layS_27 (by decide) ?_
          refine lv_ishr hx hb dd_M_layS_29 ?_
          refine lv_istore_n (lv' := [(2, .int (v >>> (7 &&& 31))), (0, .ref h), (1, .int p0)]) hx hb dd_M_layS_30 rfl hl (by decide) rfl (fun ls hl => ?_)
          refine lv_goto (tgt := 2) hx hb dd_M_layS_31 (by decide) ?_
          exact ih (v >>> ((7 : Int32) &&& 31)) (bs ++ [(v &&& 127 ||| 128) &&& 255]) f_17 hq_18 (inS_shr hk) (by rw [hU, encSf, if_pos hc, List.append_assoc]; rfl) (by rw [encSf, if_pos hc] at hRm; simp only [List.length_append, List.length_cons, List.length_nil] at hRm ⊢; omega) _ _ hP hD hS _ (lv_sub hl [1, 2, 0] rfl)
  exact lp_1 4 p0 bs0 f0 hH (inS_4 p0) rfl hRm _ _ hP hD hS _ (lv_sub hl [1, 2, 0] rfl)

set_option maxHeartbeats 4000000 in
set_option maxRecDepth 100000 in
/-- isActor(a) -/
theorem cp_M_isActor (l : Launch) (p0 : Int32) : Met l yy_M_isActor (Cond.code yy_M_isActor cc_M_isActor 1 (some .boolean) :: gw) { frames := 0, cells := 0, slots := 0, locals := 0 } (va_Pc [.int p0] (fun _ => True)) (QcRead (b2i (decide (¬ p0 < 0 ∧ ¬ 8 ≤ p0)))) 0 0 (fun _ => False) := by
  refine Met.ofW (cc := cc_M_isActor) (maxL := 1) (ret := (some .boolean)) (by decide) rfl ?_
  intro p e s m args below meth c s₁ B hml hv
  obtain ⟨rfl, -⟩ := hv
  have hx := B.exec
  have hb := B.bytes
  have hr := B.returns
  have hw : ∀ w ∈ gw, w.before _ s = true := fun w h => atoms_spec (ws := (Cond.code yy_M_isActor cc_M_isActor 1 (some .boolean) :: gw)) B.pre w (List.mem_cons_of_mem _ h)
  have hown : s.vm.findClass RR_M = some m.cls := findClass_of_methodNamed B.named
  have hlocks := B.notSynchronized
  have hl := lv_entry ([.int p0]) (n := 1) (Nat.le_of_ble_eq_true rfl)
  rw [lg_entry_eq]
  generalize (lg_sl ([.int p0]) ++ List.replicate (1 - (lg_sl ([.int p0])).length) Slot.unset).toArray = ls at hl ⊢
  have hl : lv_has ls 1 [(0, .int p0)] := hl
  refine lv_iload_n hx hb dd_M_isActor_0 rfl (lv_at hl 0 rfl) ?_
  refine lv_if_lt (tgt := 14) hx hb dd_M_isActor_1 (by decide) (fun c_1 => ?_) (fun c_1 => ?_)
  · refine lv_iconst (v := 0) hx hb dd_M_isActor_14 (by decide) ?_
    refine lv_topi (fun z_2 hz_2 => ?_)
    obtain rfl : z_2 = b2i (decide (¬ p0 < 0 ∧ ¬ 8 ≤ p0)) := hz_2.trans (b2i_f (by simp [c_1]))
    exact W.zret (ty := .boolean) (v := b2i (decide (¬ p0 < 0 ∧ ¬ 8 ≤ p0))) hx hb hr (b2i_n _) (fun t ht hW => ⟨rfl, ht⟩) (fun q h => by cases h) dd_M_isActor_15
  · refine lv_iload_n hx hb dd_M_isActor_4 rfl (lv_at hl 0 rfl) ?_
    refine lv_bipush (v := 8) hx hb dd_M_isActor_5 (by decide) ?_
    refine lv_icmp_ge (tgt := 14) hx hb dd_M_isActor_7 (by decide) (fun c_3 => ?_) (fun c_3 => ?_)
    · refine lv_iconst (v := 0) hx hb dd_M_isActor_14 (by decide) ?_
      refine lv_topi (fun z_4 hz_4 => ?_)
      obtain rfl : z_4 = b2i (decide (¬ p0 < 0 ∧ ¬ 8 ≤ p0)) := hz_4.trans (b2i_f (by simp [c_1, c_3]))
      exact W.zret (ty := .boolean) (v := b2i (decide (¬ p0 < 0 ∧ ¬ 8 ≤ p0))) hx hb hr (b2i_n _) (fun t ht hW => ⟨rfl, ht⟩) (fun q h => by cases h) dd_M_isActor_15
    · refine lv_iconst (v := 1) hx hb dd_M_isActor_10 (by decide) ?_
      refine lv_goto (tgt := 15) hx hb dd_M_isActor_11 (by decide) ?_
      refine lv_topi (fun z_5 hz_5 => ?_)
      obtain rfl : z_5 = b2i (decide (¬ p0 < 0 ∧ ¬ 8 ≤ p0)) := hz_5.trans (b2i_t (by simp [c_1, c_3]))
      exact W.zret (ty := .boolean) (v := b2i (decide (¬ p0 < 0 ∧ ¬ 8 ≤ p0))) hx hb hr (b2i_n _) (fun t ht hW => ⟨rfl, ht⟩) (fun q h => by cases h) dd_M_isActor_15

set_option maxHeartbeats 4000000 in
set_option maxRecDepth 100000 in
/-- isId(id) -/
theorem cp_M_isId (l : Launch) (p0 : Int64) : Met l yy_M_isId (Cond.code yy_M_isId cc_M_isId 2 (some .boolean) :: gw) { frames := 0, cells := 0, slots := 0, locals := 0 } (va_Pc [.long p0] (fun _ => True)) (QcRead (b2i (decide (¬ p0 < 8 ∧ ¬ 800007 < p0)))) 0 0 (fun _ => False) := by
  refine Met.ofW (cc := cc_M_isId) (maxL := 2) (ret := (some .boolean)) (by decide) rfl ?_
  intro p e s m args below meth c s₁ B hml hv
  obtain ⟨rfl, -⟩ := hv
  have hx := B.exec
  have hb := B.bytes
  have hr := B.returns
  have hw : ∀ w ∈ gw, w.before _ s = true := fun w h => atoms_spec (ws := (Cond.code yy_M_isId cc_M_isId 2 (some .boolean) :: gw)) B.pre w (List.mem_cons_of_mem _ h)
  have hown : s.vm.findClass RR_M = some m.cls := findClass_of_methodNamed B.named
  have hlocks := B.notSynchronized
  have hl := lv_entry ([.long p0]) (n := 2) (Nat.le_of_ble_eq_true rfl)
  rw [lg_entry_eq]
  generalize (lg_sl ([.long p0]) ++ List.replicate (2 - (lg_sl ([.long p0])).length) Slot.unset).toArray = ls at hl ⊢
  have hl : lv_has ls 2 [(0, .long p0)] := hl
  refine lv_lload_n hx hb dd_M_isId_0 rfl (lv_at hl 0 rfl) ?_
  refine lv_ldc2 (v := 8) hx hb hown (hw _ qq_709) dd_M_isId_1 ?_
  refine W.lcmp hx hb dd_M_isId_4 ?_
  refine lv_if_lt (tgt := 20) hx hb dd_M_isId_5 (by decide) (fun c_1 => ?_) (fun c_1 => ?_)
  · have c_1 := lc_lt.mp c_1
    refine lv_iconst (v := 0) hx hb dd_M_isId_20 (by decide) ?_
    refine lv_topi (fun z_2 hz_2 => ?_)
    obtain rfl : z_2 = b2i (decide (¬ p0 < 8 ∧ ¬ 800007 < p0)) := hz_2.trans (b2i_f (by simp [c_1]))
    exact W.zret (ty := .boolean) (v := b2i (decide (¬ p0 < 8 ∧ ¬ 800007 < p0))) hx hb hr (b2i_n _) (fun t ht hW => ⟨rfl, ht⟩) (fun q h => by cases h) dd_M_isId_21
  · have c_1 := mt lc_lt.mpr c_1
    refine lv_lload_n hx hb dd_M_isId_8 rfl (lv_at hl 0 rfl) ?_
    refine lv_ldc2 (v := 800007) hx hb hown (hw _ qq_710) dd_M_isId_9 ?_
    refine W.lcmp hx hb dd_M_isId_12 ?_
    refine lv_if_gt (tgt := 20) hx hb dd_M_isId_13 (by decide) (fun c_3 => ?_) (fun c_3 => ?_)
    · have c_3 := lc_gt.mp c_3
      refine lv_iconst (v := 0) hx hb dd_M_isId_20 (by decide) ?_
      refine lv_topi (fun z_4 hz_4 => ?_)
      obtain rfl : z_4 = b2i (decide (¬ p0 < 8 ∧ ¬ 800007 < p0)) := hz_4.trans (b2i_f (by simp [c_1, c_3]))
      exact W.zret (ty := .boolean) (v := b2i (decide (¬ p0 < 8 ∧ ¬ 800007 < p0))) hx hb hr (b2i_n _) (fun t ht hW => ⟨rfl, ht⟩) (fun q h => by cases h) dd_M_isId_21
    · have c_3 := mt lc_gt.mpr c_3
      refine lv_iconst (v := 1) hx hb dd_M_isId_16 (by decide) ?_
      refine lv_goto (tgt := 21) hx hb dd_M_isId_17 (by decide) ?_
      refine lv_topi (fun z_5 hz_5 => ?_)
      obtain rfl : z_5 = b2i (decide (¬ p0 < 8 ∧ ¬ 800007 < p0)) := hz_5.trans (b2i_t (by simp [c_1, c_3]))
      exact W.zret (ty := .boolean) (v := b2i (decide (¬ p0 < 8 ∧ ¬ 800007 < p0))) hx hb hr (b2i_n _) (fun t ht hW => ⟨rfl, ht⟩) (fun q h => by cases h) dd_M_isId_21

set_option maxHeartbeats 4000000 in
set_option maxRecDepth 100000 in
/-- idOf(k) -/
theorem cp_M_idOf (l : Launch) (dC : Nat → ClassId) (dI : Nat → Nat → Nat) (cB cI cJ : ClassId) (h : Nat) (g0 g1 g2 g3 g4 g6 g12 g13 g14 g16 g23 g25 g26 g27 g28 g30 g31 g32 : Int32) (g5 g7 g8 g9 g10 g11 g15 g17 g18 g19 g20 g21 g22 g24 g29 : Nat) (p0 : Int32) : Met l yy_M_idOf (Cond.code yy_M_idOf cc_M_idOf 2 (some .int) :: gw) { frames := 0, cells := 0, slots := 0, locals := 0 } (va_Pc [.ref h, .int p0] (kr_pre dC dI [(cB, .byte), (cI, .int), (cJ, .long)] [(h, .inr (1, [.int g0, .int g1, .int g2, .int g3, .int g4, .ref g5, .int g6, .ref g7, .ref g8, .ref g9, .ref g10, .ref g11, .int g12, .int g13, .int g14, .ref g15, .int g16, .ref g17, .ref g18, .ref g19, .ref g20, .ref g21, .ref g22, .int g23, .ref g24, .int g25, .int g26, .int g27, .int g28, .ref g29, .int g30, .int g31, .int g32]))])) (QcRead ((g4 + p0) * 8 + g2)) 0 0 (fun _ => False) := by
  refine Met.ofW (cc := cc_M_idOf) (maxL := 2) (ret := (some .int)) (by decide) rfl ?_
  intro p e s m args below meth c s₁ B hml hv
  obtain ⟨rfl, hP, hK⟩ := hv
  have hx := B.exec
  have hb := B.bytes
  have hr := B.returns
  have hw : ∀ w ∈ gw, w.before _ s = true := fun w h => atoms_spec (ws := (Cond.code yy_M_idOf cc_M_idOf 2 (some .int) :: gw)) B.pre w (List.mem_cons_of_mem _ h)
  have hown : s.vm.findClass RR_M = some m.cls := findClass_of_methodNamed B.named
  have hlocks := B.notSynchronized
  have hP : va_P (dC, dI) vcl [(h, .inr (1, [.int g0, .int g1, .int g2, .int g3, .int g4, .ref g5, .int g6, .ref g7, .ref g8, .ref g9, .ref g10, .ref g11, .int g12, .int g13, .int g14, .ref g15, .int g16, .ref g17, .ref g18, .ref g19, .ref g20, .ref g21, .ref g22, .int g23, .ref g24, .int g25, .int g26, .int g27, .int g28, .ref g29, .int g30, .int g31, .int g32]))] s.heap := hP
  have hl := lv_entry ([.ref h, .int p0]) (n := 2) (Nat.le_of_ble_eq_true rfl)
  rw [lg_entry_eq]
  generalize (lg_sl ([.ref h, .int p0]) ++ List.replicate (2 - (lg_sl ([.ref h, .int p0])).length) Slot.unset).toArray = ls at hl ⊢
  have hl : lv_has ls 2 [(0, .ref h), (1, .int p0)] := hl
  refine lv_aload_n hx hb dd_M_idOf_0 rfl (lv_at hl 0 rfl) ?_
  refine va_get (D := (dC, dI)) (ci := 1) (v := .int g4) (C := RR_M) (T := TT_M) (N := 33) hx hb hw hh_M hown hK hP 0 rfl rfl 4 (by decide) (hw _ qq_583) (fun _ h9 => h9) rfl dd_M_idOf_1 ?_
  refine lv_iload_n hx hb dd_M_idOf_4 rfl (lv_at hl 1 rfl) ?_
  refine lv_iadd hx hb dd_M_idOf_5 ?_
  refine lv_bipush (v := 8) hx hb dd_M_idOf_6 (by decide) ?_
  refine lv_imul hx hb dd_M_idOf_8 ?_
  refine lv_aload_n hx hb dd_M_idOf_9 rfl (lv_at hl 0 rfl) ?_
  refine va_get (D := (dC, dI)) (ci := 1) (v := .int g2) (C := RR_M) (T := TT_M) (N := 33) hx hb hw hh_M hown hK hP 0 rfl rfl 2 (by decide) (hw _ qq_581) (fun _ h9 => h9) rfl dd_M_idOf_10 ?_
  refine lv_iadd hx hb dd_M_idOf_13 ?_
  refine lv_topi (fun z_1 hz_1 => ?_)
  obtain rfl : z_1 = (g4 + p0) * 8 + g2 := hz_1.trans (rfl)
  exact W.iret (v := (g4 + p0) * 8 + g2) hx hb hr (fun t ht hW => ⟨rfl, ht⟩) (fun q h => by cases h) dd_M_idOf_14

set_option maxHeartbeats 4000000 in
set_option maxRecDepth 100000 in
/-- letters(v) -/
theorem cp_M_letters (l : Launch) (p0 : Int64) : Met l yy_M_letters (Cond.code yy_M_letters cc_M_letters 7 (some .int) :: gw) { frames := 0, cells := 0, slots := 0, locals := 0 } (va_Pc [.long p0] (fun _ => True)) (QcRead (ltR true 0 (ltrs 8 p0))) 0 0 (fun _ => False) := by
  refine Met.ofW (cc := cc_M_letters) (maxL := 7) (ret := (some .int)) (by decide) rfl ?_
  intro p e s m args below meth c s₁ B hml hv
  obtain ⟨rfl, -⟩ := hv
  have hx := B.exec
  have hb := B.bytes
  have hr := B.returns
  have hw : ∀ w ∈ gw, w.before _ s = true := fun w h => atoms_spec (ws := (Cond.code yy_M_letters cc_M_letters 7 (some .int) :: gw)) B.pre w (List.mem_cons_of_mem _ h)
  have hown : s.vm.findClass RR_M = some m.cls := findClass_of_methodNamed B.named
  have hlocks := B.notSynchronized
  have hl := lv_entry ([.long p0]) (n := 7) (Nat.le_of_ble_eq_true rfl)
  rw [lg_entry_eq]
  generalize (lg_sl ([.long p0]) ++ List.replicate (7 - (lg_sl ([.long p0])).length) Slot.unset).toArray = ls at hl ⊢
  have hl : lv_has ls 7 [(0, .long p0)] := hl
  refine lv_iconst (v := 0) hx hb dd_M_letters_0 (by decide) ?_
  refine lv_istore_n (lv' := [(2, .int 0), (0, .long p0)]) hx hb dd_M_letters_1 rfl hl (by decide) rfl (fun ls hl => ?_)
  refine lv_iconst (v := 1) hx hb dd_M_letters_2 (by decide) ?_
  refine lv_istore_n (lv' := [(3, .int 1), (2, .int 0), (0, .long p0)]) hx hb dd_M_letters_3 rfl hl (by decide) rfl (fun ls hl => ?_)
  refine lv_lload_n hx hb dd_M_letters_4 rfl (lv_at hl 2 rfl) ?_
  refine lv_lstore (lv' := [(4, .long p0), (3, .int 1), (2, .int 0), (0, .long p0)]) hx hb dd_M_letters_5 hl (by decide) rfl (fun ls hl => ?_)
  have lp_1 : ∀ (k : Nat) (left : Int64) (n : Nat) (g : Bool), (inL k left) → (ltR true 0 (ltrs 8 p0) = ltR g n (ltrs k left)) → ∀ ls : Array Slot, lv_has ls 7 [(0, .long p0), (2, .int (nI n)), (3, .int (b2i g)), (4, .long left)] → W p l e (headSpec (Cond.code yy_M_letters cc_M_letters 7 (some .int) :: gw) { frames := 0, cells := 0, slots := 0, locals := 0 }).room s m ([.long p0] : List Value).toArray below meth c s.heap [] 0 0 (MQ below (QcRead (ltR true 0 (ltrs 8 p0))) ([.long p0] : List Value).toArray s 0 0 (fun _ => False)) (F0 m 7 ls []) := by
    intro k
    induction k with
    | zero =>
      intro left n g hk hU ls hl
      refine lv_lload hx hb dd_M_letters_7 (lv_at hl 3 rfl) ?_
      refine lv_lconst (v := 0) hx hb dd_M_letters_9 (by decide) ?_
      refine W.lcmp hx hb dd_M_letters_10 ?_
      refine lv_if_eq (tgt := 60) hx hb dd_M_letters_11 (by decide) (fun c_2 => ?_) (fun c_2 => ?_)
      · have c_2 := lc_eq.mp c_2
        have hz := c_2
        refine lv_iload_n hx hb dd_M_letters_60 rfl (lv_at hl 2 rfl) ?_
        refine lv_if_eq (tgt := 68) hx hb dd_M_letters_61 (by decide) (fun c_3 => ?_) (fun c_3 => ?_)
        · have hg := c_3
          refine lv_iconst (v := -1) hx hb dd_M_letters_68 (by decide) ?_
          refine lv_topi (fun z_4 hz_4 => ?_)
          obtain rfl : z_4 = ltR true 0 (ltrs 8 p0) := hz_4.trans ((by rw [hU, ltR_n hg]))
          exact W.iret (v := ltR true 0 (ltrs 8 p0)) hx hb hr (fun t ht hW => ⟨rfl, ht⟩) (fun q h => by cases h) dd_M_letters_69
        · have hg := c_3
          refine lv_iload_n hx hb dd_M_letters_64 rfl (lv_at hl 1 rfl) ?_
          refine lv_goto (tgt := 69) hx hb dd_M_letters_65 (by decide) ?_
          refine lv_topi (fun z_5 hz_5 => ?_)
          obtain rfl : z_5 = ltR true 0 (ltrs 8 p0) := hz_5.trans ((by rw [hU, hz, ltrs_z, ltR_t hg]))
          exact W.iret (v := ltR true 0 (ltrs 8 p0)) hx hb hr (fun t ht hW => ⟨rfl, ht⟩) (fun q h => by cases h) dd_M_letters_69
      · have c_2 := mt lc_eq.mpr c_2
        exact absurd (inL_0 hk) c_2
    | succ k ih =>
      intro left n g hk hU ls hl
      refine lv_lload hx hb dd_M_letters_7 (lv_at hl 3 rfl) ?_
      refine lv_lconst (v := 0) hx hb dd_M_letters_9 (by decide) ?_
      refine W.lcmp hx hb dd_M_letters_10 ?_
      refine lv_if_eq (tgt := 60) hx hb dd_M_letters_11 (by decide) (fun c_6 => ?_) (fun c_6 => ?_)
      · have c_6 := lc_eq.mp c_6
        have hz := c_6
        refine lv_iload_n hx hb dd_M_letters_60 rfl (lv_at hl 2 rfl) ?_
        refine lv_if_eq (tgt := 68) hx hb dd_M_letters_61 (by decide) (fun c_7 => ?_) (fun c_7 => ?_)
        · have hg := c_7
          refine lv_iconst (v := -1) hx hb dd_M_letters_68 (by decide) ?_
          refine lv_topi (fun z_8 hz_8 => ?_)
          obtain rfl : z_8 = ltR true 0 (ltrs 8 p0) := hz_8.trans ((by rw [hU, ltR_n hg]))
          exact W.iret (v := ltR true 0 (ltrs 8 p0)) hx hb hr (fun t ht hW => ⟨rfl, ht⟩) (fun q h => by cases h) dd_M_letters_69
        · have hg := c_7
          refine lv_iload_n hx hb dd_M_letters_64 rfl (lv_at hl 1 rfl) ?_
          refine lv_goto (tgt := 69) hx hb dd_M_letters_65 (by decide) ?_
          refine lv_topi (fun z_9 hz_9 => ?_)
          obtain rfl : z_9 = ltR true 0 (ltrs 8 p0) := hz_9.trans ((by rw [hU, hz, ltrs_z, ltR_t hg]))
          exact W.iret (v := ltR true 0 (ltrs 8 p0)) hx hb hr (fun t ht hW => ⟨rfl, ht⟩) (fun q h => by cases h) dd_M_letters_69
      · have c_6 := mt lc_eq.mpr c_6
        have hz := c_6
        refine lv_lload hx hb dd_M_letters_14 (lv_at hl 3 rfl) ?_
        refine lv_ldc2 (v := 255) hx hb hown (hw _ qq_714) dd_M_letters_16 ?_
        refine lv_land hx hb dd_M_letters_19 ?_
        refine lv_l2i (v := (left &&& 255).toInt32) hx hb dd_M_letters_20 rfl ?_
        refine lv_istore (lv' := [(6, .int ((left &&& 255).toInt32)), (0, .long p0), (2, .int (nI n)), (3, .int (b2i g)), (4, .long left)]) hx hb dd_M_letters_21 hl (by decide) rfl (fun ls hl => ?_)
        refine lv_iload_n hx hb dd_M_letters_23 rfl (lv_at hl 3 rfl) ?_
        refine lv_if_eq (tgt := 45) hx hb dd_M_letters_24 (by decide) (fun c_10 => ?_) (fun c_10 => ?_)
        · refine lv_iconst (v := 0) hx hb dd_M_letters_45 (by decide) ?_
          refine lv_istore_n (lv' := [(3, .int 0), (6, .int ((left &&& 255).toInt32)), (0, .long p0), (2, .int (nI n)), (4, .long left)]) hx hb dd_M_letters_46 rfl hl (by decide) rfl (fun ls hl => ?_)
          refine lv_iinc (v := (nI n) + 1) (lv' := [(2, .int ((nI n) + 1)), (3, .int 0), (6, .int ((left &&& 255).toInt32)), (0, .long p0), (4, .long left)]) hx hb dd_M_letters_47 hl (k := 3) rfl rfl (by decide) rfl (fun ls hl => ?_)
          refine lv_lload hx hb dd_M_letters_50 (lv_at hl 4 rfl) ?_
          refine lv_bipush (v := 8) hx hb dd_M_letters_52 (by decide) ?_
          refine lv_lushr (v := (left.toUInt64 >>> ((8 : Int32).toInt64.toUInt64 &&& Int64.toUInt64 63)).toInt64) hx hb dd_M_letters_54 rfl ?_
          refine lv_lstore (lv' := [(4, .long ((left.toUInt64 >>> ((8 : Int32).toInt64.toUInt64 &&& Int64.toUInt64 63)).toInt64)), (2, .int ((nI n) + 1)), (3, .int 0), (6, .int ((left &&& 255).toInt32)), (0, .long p0)]) hx hb dd_M_letters_55 hl (by decide) rfl (fun ls hl => ?_)
          refine lv_goto (tgt := 7) hx hb dd_M_letters_57 (by decide) ?_
          have e_11 : ((nI n) + 1 : Int32) = nI (n + 1) := nI_1 n
          have hl : lv_has ls 7 [(4, .long ((left.toUInt64 >>> ((8 : Int32).toInt64.toUInt64 &&& Int64.toUInt64 63)).toInt64)), (2, .int (nI (n + 1))), (3, .int 0), (6, .int ((left &&& 255).toInt32)), (0, .long p0)] := by rw [← e_11]; exact hl
          exact ih (sh8 left) (n + 1) false (inL_sh hk) (by rw [ltR_f, hU]; exact ltR_n c_10 n _) _ (lv_sub hl [4, 1, 2, 0] rfl)
        · have hg := c_10
          refine lv_iload hx hb dd_M_letters_27 (lv_at hl 0 rfl) ?_
          refine lv_bipush (v := 97) hx hb dd_M_letters_29 (by decide) ?_
          refine lv_icmp_lt (tgt := 45) hx hb dd_M_letters_31 (by decide) (fun c_12 => ?_) (fun c_12 => ?_)
          · refine lv_iconst (v := 0) hx hb dd_M_letters_45 (by decide) ?_
            refine lv_istore_n (lv' := [(3, .int 0), (6, .int ((left &&& 255).toInt32)), (0, .long p0), (2, .int (nI n)), (4, .long left)]) hx hb dd_M_letters_46 rfl hl (by decide) rfl (fun ls hl => ?_)
            refine lv_iinc (v := (nI n) + 1) (lv' := [(2, .int ((nI n) + 1)), (3, .int 0), (6, .int ((left &&& 255).toInt32)), (0, .long p0), (4, .long left)]) hx hb dd_M_letters_47 hl (k := 3) rfl rfl (by decide) rfl (fun ls hl => ?_)
            refine lv_lload hx hb dd_M_letters_50 (lv_at hl 4 rfl) ?_
            refine lv_bipush (v := 8) hx hb dd_M_letters_52 (by decide) ?_
            refine lv_lushr (v := (left.toUInt64 >>> ((8 : Int32).toInt64.toUInt64 &&& Int64.toUInt64 63)).toInt64) hx hb dd_M_letters_54 rfl ?_
            refine lv_lstore (lv' := [(4, .long ((left.toUInt64 >>> ((8 : Int32).toInt64.toUInt64 &&& Int64.toUInt64 63)).toInt64)), (2, .int ((nI n) + 1)), (3, .int 0), (6, .int ((left &&& 255).toInt32)), (0, .long p0)]) hx hb dd_M_letters_55 hl (by decide) rfl (fun ls hl => ?_)
            refine lv_goto (tgt := 7) hx hb dd_M_letters_57 (by decide) ?_
            have e_13 : ((nI n) + 1 : Int32) = nI (n + 1) := nI_1 n
            have hl : lv_has ls 7 [(4, .long ((left.toUInt64 >>> ((8 : Int32).toInt64.toUInt64 &&& Int64.toUInt64 63)).toInt64)), (2, .int (nI (n + 1))), (3, .int 0), (6, .int ((left &&& 255).toInt32)), (0, .long p0)] := by rw [← e_13]; exact hl
            exact ih (sh8 left) (n + 1) false (inL_sh hk) (by rw [ltR_f, hU]; exact (by rw [ltrs_n hz (fun z => z.1 c_12)]; rfl)) _ (lv_sub hl [4, 1, 2, 0] rfl)
          · have hc1 := c_12
            refine lv_iload hx hb dd_M_letters_34 (lv_at hl 0 rfl) ?_
            refine lv_bipush (v := 122) hx hb dd_M_letters_36 (by decide) ?_
            refine lv_icmp_gt (tgt := 45) hx hb dd_M_letters_38 (by decide) (fun c_14 => ?_) (fun c_14 => ?_)
            · refine lv_iconst (v := 0) hx hb dd_M_letters_45 (by decide) ?_
              refine lv_istore_n (lv' := [(3, .int 0), (6, .int ((left &&& 255).toInt32)), (0, .long p0), (2, .int (nI n)), (4, .long left)]) hx hb dd_M_letters_46 rfl hl (by decide) rfl (fun ls hl => ?_)
              refine lv_iinc (v := (nI n) + 1) (lv' := [(2, .int ((nI n) + 1)), (3, .int 0), (6, .int ((left &&& 255).toInt32)), (0, .long p0), (4, .long left)]) hx hb dd_M_letters_47 hl (k := 3) rfl rfl (by decide) rfl (fun ls hl => ?_)
              refine lv_lload hx hb dd_M_letters_50 (lv_at hl 4 rfl) ?_
              refine lv_bipush (v := 8) hx hb dd_M_letters_52 (by decide) ?_
              refine lv_lushr (v := (left.toUInt64 >>> ((8 : Int32).toInt64.toUInt64 &&& Int64.toUInt64 63)).toInt64) hx hb dd_M_letters_54 rfl ?_
              refine lv_lstore (lv' := [(4, .long ((left.toUInt64 >>> ((8 : Int32).toInt64.toUInt64 &&& Int64.toUInt64 63)).toInt64)), (2, .int ((nI n) + 1)), (3, .int 0), (6, .int ((left &&& 255).toInt32)), (0, .long p0)]) hx hb dd_M_letters_55 hl (by decide) rfl (fun ls hl => ?_)
              refine lv_goto (tgt := 7) hx hb dd_M_letters_57 (by decide) ?_
              have e_15 : ((nI n) + 1 : Int32) = nI (n + 1) := nI_1 n
              have hl : lv_has ls 7 [(4, .long ((left.toUInt64 >>> ((8 : Int32).toInt64.toUInt64 &&& Int64.toUInt64 63)).toInt64)), (2, .int (nI (n + 1))), (3, .int 0), (6, .int ((left &&& 255).toInt32)), (0, .long p0)] := by rw [← e_15]; exact hl
              exact ih (sh8 left) (n + 1) false (inL_sh hk) (by rw [ltR_f, hU]; exact (by rw [ltrs_n hz (fun z => z.2 c_14)]; rfl)) _ (lv_sub hl [4, 1, 2, 0] rfl)
            · have hc2 := c_14
              refine lv_iconst (v := 1) hx hb dd_M_letters_41 (by decide) ?_
              refine lv_goto (tgt := 46) hx hb dd_M_letters_42 (by decide) ?_
              refine lv_istore_n (lv' := [(3, .int 1), (6, .int ((left &&& 255).toInt32)), (0, .long p0), (2, .int (nI n)), (4, .long left)]) hx hb dd_M_letters_46 rfl hl (by decide) rfl (fun ls hl => ?_)
              refine lv_iinc (v := (nI n) + 1) (lv' := [(2, .int ((nI n) + 1)), (3, .int 1), (6, .int ((left &&& 255).toInt32)), (0, .long p0), (4, .long left)]) hx hb dd_M_letters_47 hl (k := 3) rfl rfl (by decide) rfl (fun ls hl => ?_)
              refine lv_lload hx hb dd_M_letters_50 (lv_at hl 4 rfl) ?_
              refine lv_bipush (v := 8) hx hb dd_M_letters_52 (by decide) ?_
              refine lv_lushr (v := (left.toUInt64 >>> ((8 : Int32).toInt64.toUInt64 &&& Int64.toUInt64 63)).toInt64) hx hb dd_M_letters_54 rfl ?_
              refine lv_lstore (lv' := [(4, .long ((left.toUInt64 >>> ((8 : Int32).toInt64.toUInt64 &&& Int64.toUInt64 63)).toInt64)), (2, .int ((nI n) + 1)), (3, .int 1), (6, .int ((left &&& 255).toInt32)), (0, .long p0)]) hx hb dd_M_letters_55 hl (by decide) rfl (fun ls hl => ?_)
              refine lv_goto (tgt := 7) hx hb dd_M_letters_57 (by decide) ?_
              have e_16 : ((nI n) + 1 : Int32) = nI (n + 1) := nI_1 n
              have hl : lv_has ls 7 [(4, .long ((left.toUInt64 >>> ((8 : Int32).toInt64.toUInt64 &&& Int64.toUInt64 63)).toInt64)), (2, .int (nI (n + 1))), (3, .int 1), (6, .int ((left &&& 255).toInt32)), (0, .long p0)] := by rw [← e_16]; exact hl
              exact ih (sh8 left) (n + 1) true (inL_sh hk) (by rw [hU, ltrs_y hz ⟨hc1, hc2⟩, b2i_tt hg]; exact ltR_s true n _) _ (lv_sub hl [4, 1, 2, 0] rfl)
  exact lp_1 8 p0 0 true (inL_8 p0) rfl _ (lv_sub hl [3, 2, 1, 0] rfl)

set_option maxHeartbeats 4000000 in
set_option maxRecDepth 100000 in
/-- layLetters(v) -/
theorem cb_M_layLetters (l : Launch) (dC : Nat → ClassId) (dI : Nat → Nat → Nat) (cB cI cJ : ClassId) (sz : Nat) (h : Nat) (g0 g1 g2 g3 g4 g6 g12 g13 g14 g16 g23 g25 g26 g27 g28 g31 g32 : Int32) (g5 g7 g8 g9 g10 g11 g15 g17 g18 g19 g20 g21 g22 g24 g29 : Nat) (f0 : Nat → Int32) (bs0 : List Int32) (hH : Hd bs0 f0) (p0 : Int64) (n : Nat) (hn : ltrs 8 p0 = some n) (hRm : bs0.length + (nI n :: encLk n p0).length ≤ 1400) : Met l yy_M_layLetters (Cond.code yy_M_layLetters cc_M_layLetters 5 none :: gw) { frames := 1, cells := 0, slots := 0, locals := 26 } (va_Pc [.ref h, .long p0] (ks_pre dC dI [(cB, .byte), (cI, .int), (cJ, .long)] [(h, .inr (1, [.int g0, .int g1, .int g2, .int g3, .int g4, .ref g5, .int g6, .ref g7, .ref g8, .ref g9, .ref g10, .ref g11, .int g12, .int g13, .int g14, .ref g15, .int g16, .ref g17, .ref g18, .ref g19, .ref g20, .ref g21, .ref g22, .int g23, .ref g24, .int g25, .int g26, .int g27, .int g28, .ref g29, .int (nI bs0.length), .int g31, .int g32])), (g29, .inl (cB, 1400, .inl f0))] sz)) (va_Qv (fun (u : Nat → Int32) => Hd (bs0 ++ nI n :: encLk n p0) u) (fun (u : Nat → Int32) => ks_post dC dI [(cB, .byte), (cI, .int), (cJ, .long)] (va_A [(h, .inr (1, [.int g0, .int g1, .int g2, .int g3, .int g4, .ref g5, .int g6, .ref g7, .ref g8, .ref g9, .ref g10, .ref g11, .int g12, .int g13, .int g14, .ref g15, .int g16, .ref g17, .ref g18, .ref g19, .ref g20, .ref g21, .ref g22, .int g23, .ref g24, .int g25, .int g26, .int g27, .int g28, .ref g29, .int (nI bs0.length), .int g31, .int g32])), (g29, .inl (cB, 1400, .inl f0))] sz) [(h, .inr (1, [.int g0, .int g1, .int g2, .int g3, .int g4, .ref g5, .int g6, .ref g7, .ref g8, .ref g9, .ref g10, .ref g11, .int g12, .int g13, .int g14, .ref g15, .int g16, .ref g17, .ref g18, .ref g19, .ref g20, .ref g21, .ref g22, .int g23, .ref g24, .int g25, .int g26, .int g27, .int g28, .ref g29, .int (nI (bs0 ++ nI n :: encLk n p0).length), .int g31, .int g32])), (g29, .inl (cB, 1400, .inl u))]) (va_A [(h, .inr (1, [.int g0, .int g1, .int g2, .int g3, .int g4, .ref g5, .int g6, .ref g7, .ref g8, .ref g9, .ref g10, .ref g11, .int g12, .int g13, .int g14, .ref g15, .int g16, .ref g17, .ref g18, .ref g19, .ref g20, .ref g21, .ref g22, .int g23, .ref g24, .int g25, .int g26, .int g27, .int g28, .ref g29, .int (nI bs0.length), .int g31, .int g32])), (g29, .inl (cB, 1400, .inl f0))] sz)) 0 0 (va_A [(h, .inr (1, [.int g0, .int g1, .int g2, .int g3, .int g4, .ref g5, .int g6, .ref g7, .ref g8, .ref g9, .ref g10, .ref g11, .int g12, .int g13, .int g14, .ref g15, .int g16, .ref g17, .ref g18, .ref g19, .ref g20, .ref g21, .ref g22, .int g23, .ref g24, .int g25, .int g26, .int g27, .int g28, .ref g29, .int (nI bs0.length), .int g31, .int g32])), (g29, .inl (cB, 1400, .inl f0))] sz) := by
  refine Met.ofW (cc := cc_M_layLetters) (maxL := 5) (ret := none) (by decide) rfl ?_
  intro p e s m args below meth c s₁ B hml hv
  obtain ⟨rfl, hsz, hP, hK, hD0⟩ := hv
  have hx := B.exec
  have hb := B.bytes
  have hr := B.returns
  have hw : ∀ w ∈ gw, w.before _ s = true := fun w h => atoms_spec (ws := (Cond.code yy_M_layLetters cc_M_layLetters 5 none :: gw)) B.pre w (List.mem_cons_of_mem _ h)
  have hown : s.vm.findClass RR_M = some m.cls := findClass_of_methodNamed B.named
  have hlocks := B.notSynchronized
  subst hsz
  have hD := hD0.self (sz := s.heap.size)
  generalize hAe : va_A [(h, .inr (1, [.int g0, .int g1, .int g2, .int g3, .int g4, .ref g5, .int g6, .ref g7, .ref g8, .ref g9, .ref g10, .ref g11, .int g12, .int g13, .int g14, .ref g15, .int g16, .ref g17, .ref g18, .ref g19, .ref g20, .ref g21, .ref g22, .int g23, .ref g24, .int g25, .int g26, .int g27, .int g28, .ref g29, .int (nI bs0.length), .int g31, .int g32])), (g29, .inl (cB, 1400, .inl f0))] s.heap.size = A at hD ⊢
  have hA : ∀ q : Nat, s.heap.size ≤ q → A q := fun q h => by rw [← hAe]; exact Or.inr h
  have hS : va_S A s.heap s.heap [] := va_S.rf
  have hP : va_P (dC, dI) vcl [(h, .inr (1, [.int g0, .int g1, .int g2, .int g3, .int g4, .ref g5, .int g6, .ref g7, .ref g8, .ref g9, .ref g10, .ref g11, .int g12, .int g13, .int g14, .ref g15, .int g16, .ref g17, .ref g18, .ref g19, .ref g20, .ref g21, .ref g22, .int g23, .ref g24, .int g25, .int g26, .int g27, .int g28, .ref g29, .int (nI bs0.length), .int g31, .int g32])), (g29, .inl (cB, 1400, .inl f0))] s.heap := hP
  have hl := lv_entry ([.ref h, .long p0]) (n := 5) (Nat.le_of_ble_eq_true rfl)
  rw [lg_entry_eq]
  generalize (lg_sl ([.ref h, .long p0]) ++ List.replicate (5 - (lg_sl ([.ref h, .long p0])).length) Slot.unset).toArray = ls at hl ⊢
  have hl : lv_has ls 5 [(0, .ref h), (1, .long p0)] := hl
  refine lv_lload_n hx hb dd_M_layLetters_0 rfl (lv_at hl 1 rfl) ?_
  refine W.callR (W.runS (As := [.long p0]) (rest := []) ⟨hx, hb, hml, hown, hw⟩ (cp_M_letters l p0) (kw_S 1 hw qq_711 qq_5 qq_713 qq_712 rfl rfl (by decide +kernel) ⟨Nat.le_of_ble_eq_true rfl, Nat.le_of_ble_eq_true rfl⟩) ⟨fun a U g mk q => ⟨q.1, trivial⟩, fun U hU hW => ⟨rfl, trivial⟩⟩ rfl rfl hl.1 rfl (lv_room (Nat.le_of_ble_eq_true rfl)) dd_M_layLetters_1 ⟨by first | exact Nat.le_of_ble_eq_true rfl | (simp only [headSpec]; omega), by first | exact Nat.le_of_ble_eq_true rfl | (simp only [headSpec]; omega)⟩) ?_
  refine W.eq (g2 := F0 m 4 ls [.int (ltR true 0 (ltrs 8 p0))]) rfl ?_
  refine lv_topi (fun z_1 hz_1 => ?_)
  obtain rfl : z_1 = nI n := hz_1.trans ((by rw [hn]; simp [ltR]))
  refine lv_istore_n (lv' := [(3, .int (nI n)), (0, .ref h), (1, .long p0)]) hx hb dd_M_layLetters_4 rfl hl (by decide) rfl (fun ls hl => ?_)
  refine lv_aload_n hx hb dd_M_layLetters_5 rfl (lv_at hl 1 rfl) ?_
  refine lv_iload_n hx hb dd_M_layLetters_6 rfl (lv_at hl 0 rfl) ?_
  have hPc := hP.sub (ws' := [(h, .inr (1, [.int g0, .int g1, .int g2, .int g3, .int g4, .ref g5, .int g6, .ref g7, .ref g8, .ref g9, .ref g10, .ref g11, .int g12, .int g13, .int g14, .ref g15, .int g16, .ref g17, .ref g18, .ref g19, .ref g20, .ref g21, .ref g22, .int g23, .ref g24, .int g25, .int g26, .int g27, .int g28, .ref g29, .int (nI bs0.length), .int g31, .int g32])), (g29, .inl (cB, 1400, .inl f0))]) [0, 1] rfl
  have hDc := hD.sub (ws' := [(h, .inr (1, [.int g0, .int g1, .int g2, .int g3, .int g4, .ref g5, .int g6, .ref g7, .ref g8, .ref g9, .ref g10, .ref g11, .int g12, .int g13, .int g14, .ref g15, .int g16, .ref g17, .ref g18, .ref g19, .ref g20, .ref g21, .ref g22, .int g23, .ref g24, .int g25, .int g26, .int g27, .int g28, .ref g29, .int (nI bs0.length), .int g31, .int g32])), (g29, .inl (cB, 1400, .inl f0))]) [0, 1] (by decide) rfl
  have hFc := va_free (wc := [(h, .inr (1, [.int g0, .int g1, .int g2, .int g3, .int g4, .ref g5, .int g6, .ref g7, .ref g8, .ref g9, .ref g10, .ref g11, .int g12, .int g13, .int g14, .ref g15, .int g16, .ref g17, .ref g18, .ref g19, .ref g20, .ref g21, .ref g22, .int g23, .ref g24, .int g25, .int g26, .int g27, .int g28, .ref g29, .int (nI bs0.length), .int g31, .int g32])), (g29, .inl (cB, 1400, .inl f0))]) hD hS hA [0, 1] rfl
  refine va_callv (va_runV (As := [.int (nI n)]) (rest := []) ⟨hx, hb, hml, hown, hw⟩ (cb_M_lay l dC dI cB cI cJ s.heap.size h g0 g1 g2 g3 g4 g6 g12 g13 g14 g16 g23 g25 g26 g27 g28 g31 g32 g5 g7 g8 g9 g10 g11 g15 g17 g18 g19 g20 g21 g22 g24 g29 f0 bs0 hH (nI n) (by simp only [List.length_cons] at hRm; omega)) (kw_V 1 hw qq_735 qq_5 qq_738 qq_737 qs_M_lay rfl rfl (by decide +kernel) ⟨Nat.le_of_ble_eq_true rfl, Nat.le_of_ble_eq_true rfl⟩) ⟨fun a U g mk q => by obtain ⟨q0, q1, qP, qK, qD⟩ := q; exact ⟨q0, q1, qP, va_K.moved (u := U) (U := U.calling g mk a) (Vm.Alike.refl U.vm) qK, qD⟩, va_recv hK hPc (ci := 1) (q0 := 0) rfl rfl, fun U hU hW => ⟨rfl, by rw [hU], by rw [hU]; exact hPc, va_K.moved hW.alike hK, hDc.weaken (fun _ _ _ _ => trivial)⟩⟩ rfl rfl hl.1 rfl (lv_room (Nat.le_of_ble_eq_true rfl)) dd_M_layLetters_7 ⟨by first | exact Nat.le_of_ble_eq_true rfl | (simp only [headSpec]; omega), by first | exact Nat.le_of_ble_eq_true rfl | (simp only [headSpec]; omega)⟩) hS (fun q _ h => hFc q h) hFc (fun f_2 t H1 locs ht hvm hq_3 hB hz1 hk1 hS => ?_)
  obtain ⟨hP1, hK1, hD1⟩ := hB
  rw [ht] at hP1
  obtain ⟨hP, hD⟩ := va_join (wr := []) (w1 := [(h, .inr (1, [.int g0, .int g1, .int g2, .int g3, .int g4, .ref g5, .int g6, .ref g7, .ref g8, .ref g9, .ref g10, .ref g11, .int g12, .int g13, .int g14, .ref g15, .int g16, .ref g17, .ref g18, .ref g19, .ref g20, .ref g21, .ref g22, .int g23, .ref g24, .int g25, .int g26, .int g27, .int g28, .ref g29, .int (nI (bs0.length + 1)), .int g31, .int g32])), (g29, .inl (cB, 1400, .inl f_2))]) hP hD [0, 1] [] rfl rfl (by decide) (by decide) hk1 hFc hP1 hD1
  clear hP1 hK1 hD1 ht hvm hz1 hk1 hPc hDc hFc
  generalize H1 = H at hP hS ⊢
  have hP : va_P (dC, dI) vcl [(h, .inr (1, [.int g0, .int g1, .int g2, .int g3, .int g4, .ref g5, .int g6, .ref g7, .ref g8, .ref g9, .ref g10, .ref g11, .int g12, .int g13, .int g14, .ref g15, .int g16, .ref g17, .ref g18, .ref g19, .ref g20, .ref g21, .ref g22, .int g23, .ref g24, .int g25, .int g26, .int g27, .int g28, .ref g29, .int (nI (bs0.length + 1)), .int g31, .int g32])), (g29, .inl (cB, 1400, .inl f_2))] H := hP
  have hD : va_D A [(h, .inr (1, [.int g0, .int g1, .int g2, .int g3, .int g4, .ref g5, .int g6, .ref g7, .ref g8, .ref g9, .ref g10, .ref g11, .int g12, .int g13, .int g14, .ref g15, .int g16, .ref g17, .ref g18, .ref g19, .ref g20, .ref g21, .ref g22, .int g23, .ref g24, .int g25, .int g26, .int g27, .int g28, .ref g29, .int (nI (bs0.length + 1)), .int g31, .int g32])), (g29, .inl (cB, 1400, .inl f_2))] := hD
  have hq_3 : Hd (bs0 ++ [nI n]) f_2 := by rw [nI_255 (by have := ltrs_le 8 p0 n hn; omega)] at hq_3; exact hq_3
  have e_4 : (nI (bs0.length + 1) : Int32) = nI (bs0 ++ [nI n]).length := (by simp only [List.length_append, List.length_cons, List.length_nil])
  have hP : va_P (dC, dI) vcl [(h, .inr (1, [.int g0, .int g1, .int g2, .int g3, .int g4, .ref g5, .int g6, .ref g7, .ref g8, .ref g9, .ref g10, .ref g11, .int g12, .int g13, .int g14, .ref g15, .int g16, .ref g17, .ref g18, .ref g19, .ref g20, .ref g21, .ref g22, .int g23, .ref g24, .int g25, .int g26, .int g27, .int g28, .ref g29, .int (nI (bs0 ++ [nI n]).length), .int g31, .int g32])), (g29, .inl (cB, 1400, .inl f_2))] H := by rw [← e_4]; exact hP
  have hD : va_D A [(h, .inr (1, [.int g0, .int g1, .int g2, .int g3, .int g4, .ref g5, .int g6, .ref g7, .ref g8, .ref g9, .ref g10, .ref g11, .int g12, .int g13, .int g14, .ref g15, .int g16, .ref g17, .ref g18, .ref g19, .ref g20, .ref g21, .ref g22, .int g23, .ref g24, .int g25, .int g26, .int g27, .int g28, .ref g29, .int (nI (bs0 ++ [nI n]).length), .int g31, .int g32])), (g29, .inl (cB, 1400, .inl f_2))] := by rw [← e_4]; exact hD
  refine lv_iload_n hx hb dd_M_layLetters_10 rfl (lv_at hl 0 rfl) ?_
  refine lv_iconst (v := 1) hx hb dd_M_layLetters_11 (by decide) ?_
  refine lv_isub hx hb dd_M_layLetters_12 ?_
  refine lv_istore (lv' := [(4, .int ((nI n) - 1)), (3, .int (nI n)), (0, .ref h), (1, .long p0)]) hx hb dd_M_layLetters_13 hl (by decide) rfl (fun ls hl => ?_)
  have lp_5 : ∀ (k : Nat) (bs : List Int32) (f : Nat → Int32), (Hd bs f) → (bs0 ++ nI n :: encLk n p0 = bs ++ encLk k p0) → (bs.length + (encLk k p0).length ≤ 1400) → (k ≤ 8) → ∀ (H : Heap) (locs : List Loc), va_P (dC, dI) vcl [(h, .inr (1, [.int g0, .int g1, .int g2, .int g3, .int g4, .ref g5, .int g6, .ref g7, .ref g8, .ref g9, .ref g10, .ref g11, .int g12, .int g13, .int g14, .ref g15, .int g16, .ref g17, .ref g18, .ref g19, .ref g20, .ref g21, .ref g22, .int g23, .ref g24, .int g25, .int g26, .int g27, .int g28, .ref g29, .int (nI bs.length), .int g31, .int g32])), (g29, .inl (cB, 1400, .inl f))] H → va_D A [(h, .inr (1, [.int g0, .int g1, .int g2, .int g3, .int g4, .ref g5, .int g6, .ref g7, .ref g8, .ref g9, .ref g10, .ref g11, .int g12, .int g13, .int g14, .ref g15, .int g16, .ref g17, .ref g18, .ref g19, .ref g20, .ref g21, .ref g22, .int g23, .ref g24, .int g25, .int g26, .int g27, .int g28, .ref g29, .int (nI bs.length), .int g31, .int g32])), (g29, .inl (cB, 1400, .inl f))] → va_S A s.heap H locs → ∀ ls : Array Slot, lv_has ls 5 [(0, .ref h), (1, .long p0), (3, .int (nI n)), (4, .int (nI k - 1))] → W p l e (headSpec (Cond.code yy_M_layLetters cc_M_layLetters 5 none :: gw) { frames := 1, cells := 0, slots := 0, locals := 26 }).room s m ([.ref h, .long p0] : List Value).toArray below meth c H locs 0 0 (MQ below (va_Qv (fun (u : Nat → Int32) => Hd (bs0 ++ nI n :: encLk n p0) u) (fun (u : Nat → Int32) => ks_post dC dI [(cB, .byte), (cI, .int), (cJ, .long)] A [(h, .inr (1, [.int g0, .int g1, .int g2, .int g3, .int g4, .ref g5, .int g6, .ref g7, .ref g8, .ref g9, .ref g10, .ref g11, .int g12, .int g13, .int g14, .ref g15, .int g16, .ref g17, .ref g18, .ref g19, .ref g20, .ref g21, .ref g22, .int g23, .ref g24, .int g25, .int g26, .int g27, .int g28, .ref g29, .int (nI (bs0 ++ nI n :: encLk n p0).length), .int g31, .int g32])), (g29, .inl (cB, 1400, .inl u))]) A) ([.ref h, .long p0] : List Value).toArray s 0 0 A) (F0 m 15 ls []) := by
    intro k
    induction k with
    | zero =>
      intro bs f hH hU hRm hk8 H locs hP hD hS ls hl
      refine lv_iload hx hb dd_M_layLetters_15 (lv_at hl 3 rfl) ?_
      refine lv_if_lt (tgt := 42) hx hb dd_M_layLetters_17 (by decide) (fun c_6 => ?_) (fun c_6 => ?_)
      · have hfin : bs = bs0 ++ nI n :: encLk n p0 := by rw [hU, encLk, List.append_nil]
        have e_7 : (nI bs.length : Int32) = nI (bs0 ++ nI n :: encLk n p0).length := (by rw [hfin])
        have hP : va_P (dC, dI) vcl [(h, .inr (1, [.int g0, .int g1, .int g2, .int g3, .int g4, .ref g5, .int g6, .ref g7, .ref g8, .ref g9, .ref g10, .ref g11, .int g12, .int g13, .int g14, .ref g15, .int g16, .ref g17, .ref g18, .ref g19, .ref g20, .ref g21, .ref g22, .int g23, .ref g24, .int g25, .int g26, .int g27, .int g28, .ref g29, .int (nI (bs0 ++ nI n :: encLk n p0).length), .int g31, .int g32])), (g29, .inl (cB, 1400, .inl f))] H := by rw [← e_7]; exact hP
        have hD : va_D A [(h, .inr (1, [.int g0, .int g1, .int g2, .int g3, .int g4, .ref g5, .int g6, .ref g7, .ref g8, .ref g9, .ref g10, .ref g11, .int g12, .int g13, .int g14, .ref g15, .int g16, .ref g17, .ref g18, .ref g19, .ref g20, .ref g21, .ref g22, .int g23, .ref g24, .int g25, .int g26, .int g27, .int g28, .ref g29, .int (nI (bs0 ++ nI n :: encLk n p0).length), .int g31, .int g32])), (g29, .inl (cB, 1400, .inl f))] := by rw [← e_7]; exact hD
        have hP9 := hP.sub (ws' := [(h, .inr (1, [.int g0, .int g1, .int g2, .int g3, .int g4, .ref g5, .int g6, .ref g7, .ref g8, .ref g9, .ref g10, .ref g11, .int g12, .int g13, .int g14, .ref g15, .int g16, .ref g17, .ref g18, .ref g19, .ref g20, .ref g21, .ref g22, .int g23, .ref g24, .int g25, .int g26, .int g27, .int g28, .ref g29, .int (nI (bs0 ++ nI n :: encLk n p0).length), .int g31, .int g32])), (g29, .inl (cB, 1400, .inl f))]) [0, 1] rfl
        have hD9 := hD.sub (ws' := [(h, .inr (1, [.int g0, .int g1, .int g2, .int g3, .int g4, .ref g5, .int g6, .ref g7, .ref g8, .ref g9, .ref g10, .ref g11, .int g12, .int g13, .int g14, .ref g15, .int g16, .ref g17, .ref g18, .ref g19, .ref g20, .ref g21, .ref g22, .int g23, .ref g24, .int g25, .int g26, .int g27, .int g28, .ref g29, .int (nI (bs0 ++ nI n :: encLk n p0).length), .int g31, .int g32])), (g29, .inl (cB, 1400, .inl f))]) [0, 1] (by decide) rfl
        refine W.widen (k := 0) (n := 0) (by first | exact Nat.le_refl _ | omega) (by first | exact Nat.le_refl _ | omega) ?_
        exact W.vret hx hb hr (fun t ht hW => ⟨⟨f, rfl, (by rw [← hfin]; exact hH), by rw [ht]; exact hP9, va_K.moved hW.alike hK, hD9⟩, hS.F ht⟩) hS.2.2 dd_M_layLetters_42
      · exact absurd (by decide) c_6
    | succ k ih =>
      intro bs f hH hU hRm hk8 H locs hP hD hS ls hl
      have e_8 : (nI (k + 1) - 1 : Int32) = nI k := nI_sm
      have hl : lv_has ls 5 [(0, .ref h), (1, .long p0), (3, .int (nI n)), (4, .int (nI k))] := by rw [← e_8]; exact hl
      refine lv_iload hx hb dd_M_layLetters_15 (lv_at hl 3 rfl) ?_
      refine lv_if_lt (tgt := 42) hx hb dd_M_layLetters_17 (by decide) (fun c_9 => ?_) (fun c_9 => ?_)
      · exact absurd c_9 (nI_pos (by omega))
      · refine lv_aload_n hx hb dd_M_layLetters_20 rfl (lv_at hl 0 rfl) ?_
        refine lv_lload_n hx hb dd_M_layLetters_21 rfl (lv_at hl 1 rfl) ?_
        refine lv_bipush (v := 8) hx hb dd_M_layLetters_22 (by decide) ?_
        refine lv_iload hx hb dd_M_layLetters_24 (lv_at hl 3 rfl) ?_
        refine lv_imul hx hb dd_M_layLetters_26 ?_
        refine lv_topi (fun z_10 hz_10 => ?_)
        obtain rfl : z_10 = nI (8 * k) := hz_10.trans (pk_mul 8 k)
        refine lv_lshr (v := p0 >>> ((nI (8 * k)).toInt64 &&& 63)) hx hb dd_M_layLetters_27 rfl ?_
        refine lv_ldc2 (v := 255) hx hb hown (hw _ qq_714) dd_M_layLetters_28 ?_
        refine lv_land hx hb dd_M_layLetters_31 ?_
        refine lv_l2i (v := ((p0 >>> ((nI (8 * k)).toInt64 &&& 63)) &&& 255).toInt32) hx hb dd_M_layLetters_32 rfl ?_
        have hPc := hP.sub (ws' := [(h, .inr (1, [.int g0, .int g1, .int g2, .int g3, .int g4, .ref g5, .int g6, .ref g7, .ref g8, .ref g9, .ref g10, .ref g11, .int g12, .int g13, .int g14, .ref g15, .int g16, .ref g17, .ref g18, .ref g19, .ref g20, .ref g21, .ref g22, .int g23, .ref g24, .int g25, .int g26, .int g27, .int g28, .ref g29, .int (nI bs.length), .int g31, .int g32])), (g29, .inl (cB, 1400, .inl f))]) [0, 1] rfl
        have hDc := hD.sub (ws' := [(h, .inr (1, [.int g0, .int g1, .int g2, .int g3, .int g4, .ref g5, .int g6, .ref g7, .ref g8, .ref g9, .ref g10, .ref g11, .int g12, .int g13, .int g14, .ref g15, .int g16, .ref g17, .ref g18, .ref g19, .ref g20, .ref g21, .ref g22, .int g23, .ref g24, .int g25, .int g26, .int g27, .int g28, .ref g29, .int (nI bs.length), .int g31, .int g32])), (g29, .inl (cB, 1400, .inl f))]) [0, 1] (by decide) rfl
        have hFc := va_free (wc := [(h, .inr (1, [.int g0, .int g1, .int g2, .int g3, .int g4, .ref g5, .int g6, .ref g7, .ref g8, .ref g9, .ref g10, .ref g11, .int g12, .int g13, .int g14, .ref g15, .int g16, .ref g17, .ref g18, .ref g19, .ref g20, .ref g21, .ref g22, .int g23, .ref g24, .int g25, .int g26, .int g27, .int g28, .ref g29, .int (nI bs.length), .int g31, .int g32])), (g29, .inl (cB, 1400, .inl f))]) hD hS hA [0, 1] rfl
        refine va_callv (va_runV (As := [.int (((p0 >>> ((nI (8 * k)).toInt64 &&& 63)) &&& 255).toInt32)]) (rest := []) ⟨hx, hb, hml, hown, hw⟩ (cb_M_lay l dC dI cB cI cJ H.size h g0 g1 g2 g3 g4 g6 g12 g13 g14 g16 g23 g25 g26 g27 g28 g31 g32 g5 g7 g8 g9 g10 g11 g15 g17 g18 g19 g20 g21 g22 g24 g29 f bs hH (((p0 >>> ((nI (8 * k)).toInt64 &&& 63)) &&& 255).toInt32) (by rw [encLk_len] at hRm; omega)) (kw_V 1 hw qq_735 qq_5 qq_738 qq_737 qs_M_lay rfl rfl (by decide +kernel) ⟨Nat.le_of_ble_eq_true rfl, Nat.le_of_ble_eq_true rfl⟩) ⟨fun a U g mk q => by obtain ⟨q0, q1, qP, qK, qD⟩ := q; exact ⟨q0, q1, qP, va_K.moved (u := U) (U := U.calling g mk a) (Vm.Alike.refl U.vm) qK, qD⟩, va_recv hK hPc (ci := 1) (q0 := 0) rfl rfl, fun U hU hW => ⟨rfl, by rw [hU], by rw [hU]; exact hPc, va_K.moved hW.alike hK, hDc.weaken (fun _ _ _ _ => trivial)⟩⟩ rfl rfl hl.1 rfl (lv_room (Nat.le_of_ble_eq_true rfl)) dd_M_layLetters_33 ⟨by first | exact Nat.le_of_ble_eq_true rfl | (simp only [headSpec]; omega), by first | exact Nat.le_of_ble_eq_true rfl | (simp only [headSpec]; omega)⟩) hS (fun q _ h => hFc q h) hFc (fun f_11 t H1 locs ht hvm hq_12 hB hz1 hk1 hS => ?_)
        obtain ⟨hP1, hK1, hD1⟩ := hB
        rw [ht] at hP1
        obtain ⟨hP, hD⟩ := va_join (wr := []) (w1 := [(h, .inr (1, [.int g0, .int g1, .int g2, .int g3, .int g4, .ref g5, .int g6, .ref g7, .ref g8, .ref g9, .ref g10, .ref g11, .int g12, .int g13, .int g14, .ref g15, .int g16, .ref g17, .ref g18, .ref g19, .ref g20, .ref g21, .ref g22, .int g23, .ref g24, .int g25, .int g26, .int g27, .int g28, .ref g29, .int (nI (bs.length + 1)), .int g31, .int g32])), (g29, .inl (cB, 1400, .inl f_11))]) hP hD [0, 1] [] rfl rfl (by decide) (by decide) hk1 hFc hP1 hD1
        clear hP1 hK1 hD1 ht hvm hz1 hk1 hPc hDc hFc
        generalize H1 = H at hP hS ⊢
        have hP : va_P (dC, dI) vcl [(h, .inr (1, [.int g0, .int g1, .int g2, .int g3, .int g4, .ref g5, .int g6, .ref g7, .ref g8, .ref g9, .ref g10, .ref g11, .int g12, .int g13, .int g14, .ref g15, .int g16, .ref g17, .ref g18, .ref g19, .ref g20, .ref g21, .ref g22, .int g23, .ref g24, .int g25, .int g26, .int g27, .int g28, .ref g29, .int (nI (bs.length + 1)), .int g31, .int g32])), (g29, .inl (cB, 1400, .inl f_11))] H := hP
        have hD : va_D A [(h, .inr (1, [.int g0, .int g1, .int g2, .int g3, .int g4, .ref g5, .int g6, .ref g7, .ref g8, .ref g9, .ref g10, .ref g11, .int g12, .int g13, .int g14, .ref g15, .int g16, .ref g17, .ref g18, .ref g19, .ref g20, .ref g21, .ref g22, .int g23, .ref g24, .int g25, .int g26, .int g27, .int g28, .ref g29, .int (nI (bs.length + 1)), .int g31, .int g32])), (g29, .inl (cB, 1400, .inl f_11))] := hD
        have hq_12 : Hd (bs ++ [ltb p0 k]) f_11 := by rw [ltb_sar p0 k (by omega)] at hq_12; exact hq_12
        have e_13 : (nI (bs.length + 1) : Int32) = nI (bs ++ [ltb p0 k]).length := (by simp only [List.length_append, List.length_cons, List.length_nil])
        have hP : va_P (dC, dI) vcl [(h, .inr (1, [.int g0, .int g1, .int g2, .int g3, .int g4, .ref g5, .int g6, .ref g7, .ref g8, .ref g9, .ref g10, .ref g11, .int g12, .int g13, .int g14, .ref g15, .int g16, .ref g17, .ref g18, .ref g19, .ref g20, .ref g21, .ref g22, .int g23, .ref g24, .int g25, .int g26, .int g27, .int g28, .ref g29, .int (nI (bs ++ [ltb p0 k]).length), .int g31, .int g32])), (g29, .inl (cB, 1400, .inl f_11))] H := by rw [← e_13]; exact hP
        have hD : va_D A [(h, .inr (1, [.int g0, .int g1, .int g2, .int g3, .int g4, .ref g5, .int g6, .ref g7, .ref g8, .ref g9, .ref g10, .ref g11, .int g12, .int g13, .int g14, .ref g15, .int g16, .ref g17, .ref g18, .ref g19, .ref g20, .ref g21, .ref g22, .int g23, .ref g24, .int g25, .int g26, .int g27, .int g28, .ref g29, .int (nI (bs ++ [ltb p0 k]).length), .int g31, .int g32])), (g29, .inl (cB, 1400, .inl f_11))] := by rw [← e_13]; exact hD
        refine lv_iinc (v := (nI k) + (-1)) (lv' := [(4, .int ((nI k) + (-1))), (0, .ref h), (1, .long p0), (3, .int (nI n))]) hx hb dd_M_layLetters_36 hl (k := 3) rfl rfl (by decide) rfl (fun ls hl => ?_)
        refine lv_goto (tgt := 15) hx hb dd_M_layLetters_39 (by decide) ?_
        have e_14 : ((nI k) + (-1) : Int32) = nI k - 1 := i32_m1 (nI k)
        have hl : lv_has ls 5 [(4, .int (nI k - 1)), (0, .ref h), (1, .long p0), (3, .int (nI n))] := by rw [← e_14]; exact hl
        exact ih (bs ++ [ltb p0 k]) f_11 hq_12 (by rw [hU, encLk, List.append_assoc]; rfl) (by rw [encLk] at hRm; simp only [List.length_append, List.length_cons, List.length_nil] at hRm ⊢; omega) (by omega) _ _ hP hD hS _ (lv_sub hl [1, 2, 3, 0] rfl)
  exact lp_5 n (bs0 ++ [nI n]) f_2 hq_3 (by rw [List.append_assoc]; rfl) (by simp only [List.length_append, List.length_cons, List.length_nil] at hRm ⊢; omega) (ltrs_le 8 p0 n hn) _ _ hP hD hS _ (lv_sub hl [2, 3, 1, 0] rfl)

set_option maxHeartbeats 4000000 in
set_option maxRecDepth 100000 in
/-- layRef(k, id) -/
theorem cb_M_layRef (l : Launch) (dC : Nat → ClassId) (dI : Nat → Nat → Nat) (cB cI cJ : ClassId) (sz : Nat) (h : Nat) (g0 g1 g2 g3 g6 g12 g13 g14 g16 g23 g25 g26 g27 g28 g31 g32 : Int32) (g5 g7 g8 g9 g10 g11 g15 g17 g18 g19 g20 g21 g22 g24 g29 : Nat) (f0 : Nat → Int32) (bs0 : List Int32) (hH : Hd bs0 f0) (cn kk i : Nat) (hc : cn + kk ≤ 200000) (hi : i < 2147483648) (hic : i / 8 ≤ cn + kk) (hRm : bs0.length + (encUf 4 (refN (cn + kk) i)).length ≤ 1400) : Met l yy_M_layRef (Cond.code yy_M_layRef cc_M_layRef 3 none :: gw) { frames := 2, cells := 0, slots := 0, locals := 43 } (va_Pc [.ref h, .int (nI kk), .int (nI i)] (ks_pre dC dI [(cB, .byte), (cI, .int), (cJ, .long)] [(h, .inr (1, [.int g0, .int g1, .int g2, .int g3, .int (nI cn), .ref g5, .int g6, .ref g7, .ref g8, .ref g9, .ref g10, .ref g11, .int g12, .int g13, .int g14, .ref g15, .int g16, .ref g17, .ref g18, .ref g19, .ref g20, .ref g21, .ref g22, .int g23, .ref g24, .int g25, .int g26, .int g27, .int g28, .ref g29, .int (nI bs0.length), .int g31, .int g32])), (g29, .inl (cB, 1400, .inl f0))] sz)) (va_Qv (fun (u : Nat → Int32) => Hd (bs0 ++ encUf 4 (refN (cn + kk) i)) u) (fun (u : Nat → Int32) => ks_post dC dI [(cB, .byte), (cI, .int), (cJ, .long)] (va_A [(h, .inr (1, [.int g0, .int g1, .int g2, .int g3, .int (nI cn), .ref g5, .int g6, .ref g7, .ref g8, .ref g9, .ref g10, .ref g11, .int g12, .int g13, .int g14, .ref g15, .int g16, .ref g17, .ref g18, .ref g19, .ref g20, .ref g21, .ref g22, .int g23, .ref g24, .int g25, .int g26, .int g27, .int g28, .ref g29, .int (nI bs0.length), .int g31, .int g32])), (g29, .inl (cB, 1400, .inl f0))] sz) [(h, .inr (1, [.int g0, .int g1, .int g2, .int g3, .int (nI cn), .ref g5, .int g6, .ref g7, .ref g8, .ref g9, .ref g10, .ref g11, .int g12, .int g13, .int g14, .ref g15, .int g16, .ref g17, .ref g18, .ref g19, .ref g20, .ref g21, .ref g22, .int g23, .ref g24, .int g25, .int g26, .int g27, .int g28, .ref g29, .int (nI (bs0 ++ encUf 4 (refN (cn + kk) i)).length), .int g31, .int g32])), (g29, .inl (cB, 1400, .inl u))]) (va_A [(h, .inr (1, [.int g0, .int g1, .int g2, .int g3, .int (nI cn), .ref g5, .int g6, .ref g7, .ref g8, .ref g9, .ref g10, .ref g11, .int g12, .int g13, .int g14, .ref g15, .int g16, .ref g17, .ref g18, .ref g19, .ref g20, .ref g21, .ref g22, .int g23, .ref g24, .int g25, .int g26, .int g27, .int g28, .ref g29, .int (nI bs0.length), .int g31, .int g32])), (g29, .inl (cB, 1400, .inl f0))] sz)) 0 0 (va_A [(h, .inr (1, [.int g0, .int g1, .int g2, .int g3, .int (nI cn), .ref g5, .int g6, .ref g7, .ref g8, .ref g9, .ref g10, .ref g11, .int g12, .int g13, .int g14, .ref g15, .int g16, .ref g17, .ref g18, .ref g19, .ref g20, .ref g21, .ref g22, .int g23, .ref g24, .int g25, .int g26, .int g27, .int g28, .ref g29, .int (nI bs0.length), .int g31, .int g32])), (g29, .inl (cB, 1400, .inl f0))] sz) := by
  refine Met.ofW (cc := cc_M_layRef) (maxL := 3) (ret := none) (by decide) rfl ?_
  intro p e s m args below meth c s₁ B hml hv
  obtain ⟨rfl, hsz, hP, hK, hD0⟩ := hv
  have hx := B.exec
  have hb := B.bytes
  have hr := B.returns
  have hw : ∀ w ∈ gw, w.before _ s = true := fun w h => atoms_spec (ws := (Cond.code yy_M_layRef cc_M_layRef 3 none :: gw)) B.pre w (List.mem_cons_of_mem _ h)
  have hown : s.vm.findClass RR_M = some m.cls := findClass_of_methodNamed B.named
  have hlocks := B.notSynchronized
  subst hsz
  have hD := hD0.self (sz := s.heap.size)
  generalize hAe : va_A [(h, .inr (1, [.int g0, .int g1, .int g2, .int g3, .int (nI cn), .ref g5, .int g6, .ref g7, .ref g8, .ref g9, .ref g10, .ref g11, .int g12, .int g13, .int g14, .ref g15, .int g16, .ref g17, .ref g18, .ref g19, .ref g20, .ref g21, .ref g22, .int g23, .ref g24, .int g25, .int g26, .int g27, .int g28, .ref g29, .int (nI bs0.length), .int g31, .int g32])), (g29, .inl (cB, 1400, .inl f0))] s.heap.size = A at hD ⊢
  have hA : ∀ q : Nat, s.heap.size ≤ q → A q := fun q h => by rw [← hAe]; exact Or.inr h
  have hS : va_S A s.heap s.heap [] := va_S.rf
  have hP : va_P (dC, dI) vcl [(h, .inr (1, [.int g0, .int g1, .int g2, .int g3, .int (nI cn), .ref g5, .int g6, .ref g7, .ref g8, .ref g9, .ref g10, .ref g11, .int g12, .int g13, .int g14, .ref g15, .int g16, .ref g17, .ref g18, .ref g19, .ref g20, .ref g21, .ref g22, .int g23, .ref g24, .int g25, .int g26, .int g27, .int g28, .ref g29, .int (nI bs0.length), .int g31, .int g32])), (g29, .inl (cB, 1400, .inl f0))] s.heap := hP
  have hl := lv_entry ([.ref h, .int (nI kk), .int (nI i)]) (n := 3) (Nat.le_of_ble_eq_true rfl)
  rw [lg_entry_eq]
  generalize (lg_sl ([.ref h, .int (nI kk), .int (nI i)]) ++ List.replicate (3 - (lg_sl ([.ref h, .int (nI kk), .int (nI i)])).length) Slot.unset).toArray = ls at hl ⊢
  have hl : lv_has ls 3 [(0, .ref h), (1, .int (nI kk)), (2, .int (nI i))] := hl
  refine lv_iload_n hx hb dd_M_layRef_0 rfl (lv_at hl 2 rfl) ?_
  refine lv_if_ne (tgt := 12) hx hb dd_M_layRef_1 (by decide) (fun c_1 => ?_) (fun c_1 => ?_)
  · have hi0 : ¬ i = 0 := fun z => c_1 (by rw [z]; rfl)
    refine lv_aload_n hx hb dd_M_layRef_12 rfl (lv_at hl 0 rfl) ?_
    refine lv_aload_n hx hb dd_M_layRef_13 rfl (lv_at hl 0 rfl) ?_
    refine va_get (D := (dC, dI)) (ci := 1) (v := .int (nI cn)) (C := RR_M) (T := TT_M) (N := 33) hx hb hw hh_M hown hK hP 0 rfl rfl 4 (by decide) (hw _ qq_583) (fun _ h9 => h9) rfl dd_M_layRef_14 ?_
    refine lv_iload_n hx hb dd_M_layRef_17 rfl (lv_at hl 1 rfl) ?_
    refine lv_iadd hx hb dd_M_layRef_18 ?_
    refine lv_iload_n hx hb dd_M_layRef_19 rfl (lv_at hl 2 rfl) ?_
    refine lv_bipush (v := 8) hx hb dd_M_layRef_20 (by decide) ?_
    refine lv_idiv hx hb dd_M_layRef_22 (by decide) ?_
    refine lv_isub hx hb dd_M_layRef_23 ?_
    refine lv_bipush (v := 8) hx hb dd_M_layRef_24 (by decide) ?_
    refine lv_imul hx hb dd_M_layRef_26 ?_
    refine lv_iload_n hx hb dd_M_layRef_27 rfl (lv_at hl 2 rfl) ?_
    refine lv_bipush (v := 8) hx hb dd_M_layRef_28 (by decide) ?_
    refine lv_irem hx hb dd_M_layRef_30 (by decide) ?_
    refine lv_iadd hx hb dd_M_layRef_31 ?_
    refine lv_iconst (v := 1) hx hb dd_M_layRef_32 (by decide) ?_
    refine lv_iadd hx hb dd_M_layRef_33 ?_
    refine lv_topi (fun z_2 hz_2 => ?_)
    obtain rfl : z_2 = nI (refN (cn + kk) i) := hz_2.trans ((by rw [nI_add, show (8 : Int32) = nI 8 from rfl, pk_rem (by omega) (by decide) (by decide), pk_div (by omega) (by decide) (by decide), pk_sub (by omega), pk_mul, nI_add, nI_1, refN, if_neg hi0]))
    have hPc := hP.sub (ws' := [(h, .inr (1, [.int g0, .int g1, .int g2, .int g3, .int (nI cn), .ref g5, .int g6, .ref g7, .ref g8, .ref g9, .ref g10, .ref g11, .int g12, .int g13, .int g14, .ref g15, .int g16, .ref g17, .ref g18, .ref g19, .ref g20, .ref g21, .ref g22, .int g23, .ref g24, .int g25, .int g26, .int g27, .int g28, .ref g29, .int (nI bs0.length), .int g31, .int g32])), (g29, .inl (cB, 1400, .inl f0))]) [0, 1] rfl
    have hDc := hD.sub (ws' := [(h, .inr (1, [.int g0, .int g1, .int g2, .int g3, .int (nI cn), .ref g5, .int g6, .ref g7, .ref g8, .ref g9, .ref g10, .ref g11, .int g12, .int g13, .int g14, .ref g15, .int g16, .ref g17, .ref g18, .ref g19, .ref g20, .ref g21, .ref g22, .int g23, .ref g24, .int g25, .int g26, .int g27, .int g28, .ref g29, .int (nI bs0.length), .int g31, .int g32])), (g29, .inl (cB, 1400, .inl f0))]) [0, 1] (by decide) rfl
    have hFc := va_free (wc := [(h, .inr (1, [.int g0, .int g1, .int g2, .int g3, .int (nI cn), .ref g5, .int g6, .ref g7, .ref g8, .ref g9, .ref g10, .ref g11, .int g12, .int g13, .int g14, .ref g15, .int g16, .ref g17, .ref g18, .ref g19, .ref g20, .ref g21, .ref g22, .int g23, .ref g24, .int g25, .int g26, .int g27, .int g28, .ref g29, .int (nI bs0.length), .int g31, .int g32])), (g29, .inl (cB, 1400, .inl f0))]) hD hS hA [0, 1] rfl
    refine va_callv (va_runV (As := [.int (nI (refN (cn + kk) i))]) (rest := []) ⟨hx, hb, hml, hown, hw⟩ (cb_M_layU l dC dI cB cI cJ s.heap.size h g0 g1 g2 g3 (nI cn) g6 g12 g13 g14 g16 g23 g25 g26 g27 g28 g31 g32 g5 g7 g8 g9 g10 g11 g15 g17 g18 g19 g20 g21 g22 g24 g29 f0 bs0 hH (refN (cn + kk) i) (refN_lt hc) hRm) (kw_V 1 hw qq_739 qq_5 qq_742 qq_741 qs_M_layU rfl rfl (by decide +kernel) ⟨Nat.le_of_ble_eq_true rfl, Nat.le_of_ble_eq_true rfl⟩) ⟨fun a U g mk q => by obtain ⟨q0, q1, qP, qK, qD⟩ := q; exact ⟨q0, q1, qP, va_K.moved (u := U) (U := U.calling g mk a) (Vm.Alike.refl U.vm) qK, qD⟩, va_recv hK hPc (ci := 1) (q0 := 0) rfl rfl, fun U hU hW => ⟨rfl, by rw [hU], by rw [hU]; exact hPc, va_K.moved hW.alike hK, hDc.weaken (fun _ _ _ _ => trivial)⟩⟩ rfl rfl hl.1 rfl (lv_room (Nat.le_of_ble_eq_true rfl)) dd_M_layRef_34 ⟨by first | exact Nat.le_of_ble_eq_true rfl | (simp only [headSpec]; omega), by first | exact Nat.le_of_ble_eq_true rfl | (simp only [headSpec]; omega)⟩) hS (fun q _ h => hFc q h) hFc (fun f_3 t H1 locs ht hvm hq_4 hB hz1 hk1 hS => ?_)
    obtain ⟨hP1, hK1, hD1⟩ := hB
    rw [ht] at hP1
    obtain ⟨hP, hD⟩ := va_join (wr := []) (w1 := [(h, .inr (1, [.int g0, .int g1, .int g2, .int g3, .int (nI cn), .ref g5, .int g6, .ref g7, .ref g8, .ref g9, .ref g10, .ref g11, .int g12, .int g13, .int g14, .ref g15, .int g16, .ref g17, .ref g18, .ref g19, .ref g20, .ref g21, .ref g22, .int g23, .ref g24, .int g25, .int g26, .int g27, .int g28, .ref g29, .int (nI (bs0 ++ encUf 4 (refN (cn + kk) i)).length), .int g31, .int g32])), (g29, .inl (cB, 1400, .inl f_3))]) hP hD [0, 1] [] rfl rfl (by decide) (by decide) hk1 hFc hP1 hD1
    clear hP1 hK1 hD1 ht hvm hz1 hk1 hPc hDc hFc
    generalize H1 = H at hP hS ⊢
    have hP : va_P (dC, dI) vcl [(h, .inr (1, [.int g0, .int g1, .int g2, .int g3, .int (nI cn), .ref g5, .int g6, .ref g7, .ref g8, .ref g9, .ref g10, .ref g11, .int g12, .int g13, .int g14, .ref g15, .int g16, .ref g17, .ref g18, .ref g19, .ref g20, .ref g21, .ref g22, .int g23, .ref g24, .int g25, .int g26, .int g27, .int g28, .ref g29, .int (nI (bs0 ++ encUf 4 (refN (cn + kk) i)).length), .int g31, .int g32])), (g29, .inl (cB, 1400, .inl f_3))] H := hP
    have hD : va_D A [(h, .inr (1, [.int g0, .int g1, .int g2, .int g3, .int (nI cn), .ref g5, .int g6, .ref g7, .ref g8, .ref g9, .ref g10, .ref g11, .int g12, .int g13, .int g14, .ref g15, .int g16, .ref g17, .ref g18, .ref g19, .ref g20, .ref g21, .ref g22, .int g23, .ref g24, .int g25, .int g26, .int g27, .int g28, .ref g29, .int (nI (bs0 ++ encUf 4 (refN (cn + kk) i)).length), .int g31, .int g32])), (g29, .inl (cB, 1400, .inl f_3))] := hD
    have hP9 := hP.sub (ws' := [(h, .inr (1, [.int g0, .int g1, .int g2, .int g3, .int (nI cn), .ref g5, .int g6, .ref g7, .ref g8, .ref g9, .ref g10, .ref g11, .int g12, .int g13, .int g14, .ref g15, .int g16, .ref g17, .ref g18, .ref g19, .ref g20, .ref g21, .ref g22, .int g23, .ref g24, .int g25, .int g26, .int g27, .int g28, .ref g29, .int (nI (bs0 ++ encUf 4 (refN (cn + kk) i)).length), .int g31, .int g32])), (g29, .inl (cB, 1400, .inl f_3))]) [0, 1] rfl
    have hD9 := hD.sub (ws' := [(h, .inr (1, [.int g0, .int g1, .int g2, .int g3, .int (nI cn), .ref g5, .int g6, .ref g7, .ref g8, .ref g9, .ref g10, .ref g11, .int g12, .int g13, .int g14, .ref g15, .int g16, .ref g17, .ref g18, .ref g19, .ref g20, .ref g21, .ref g22, .int g23, .ref g24, .int g25, .int g26, .int g27, .int g28, .ref g29, .int (nI (bs0 ++ encUf 4 (refN (cn + kk) i)).length), .int g31, .int g32])), (g29, .inl (cB, 1400, .inl f_3))]) [0, 1] (by decide) rfl
    refine W.widen (k := 0) (n := 0) (by first | exact Nat.le_refl _ | omega) (by first | exact Nat.le_refl _ | omega) ?_
    exact W.vret hx hb hr (fun t ht hW => ⟨⟨f_3, rfl, hq_4, by rw [ht]; exact hP9, va_K.moved hW.alike hK, hD9⟩, hS.F ht⟩) hS.2.2 dd_M_layRef_37
  · have hi0 : i = 0 := Classical.byContradiction (fun z => nI_ne0 (by omega) (by omega) c_1)
    refine lv_aload_n hx hb dd_M_layRef_4 rfl (lv_at hl 0 rfl) ?_
    refine lv_iconst (v := 0) hx hb dd_M_layRef_5 (by decide) ?_
    have hPc := hP.sub (ws' := [(h, .inr (1, [.int g0, .int g1, .int g2, .int g3, .int (nI cn), .ref g5, .int g6, .ref g7, .ref g8, .ref g9, .ref g10, .ref g11, .int g12, .int g13, .int g14, .ref g15, .int g16, .ref g17, .ref g18, .ref g19, .ref g20, .ref g21, .ref g22, .int g23, .ref g24, .int g25, .int g26, .int g27, .int g28, .ref g29, .int (nI bs0.length), .int g31, .int g32])), (g29, .inl (cB, 1400, .inl f0))]) [0, 1] rfl
    have hDc := hD.sub (ws' := [(h, .inr (1, [.int g0, .int g1, .int g2, .int g3, .int (nI cn), .ref g5, .int g6, .ref g7, .ref g8, .ref g9, .ref g10, .ref g11, .int g12, .int g13, .int g14, .ref g15, .int g16, .ref g17, .ref g18, .ref g19, .ref g20, .ref g21, .ref g22, .int g23, .ref g24, .int g25, .int g26, .int g27, .int g28, .ref g29, .int (nI bs0.length), .int g31, .int g32])), (g29, .inl (cB, 1400, .inl f0))]) [0, 1] (by decide) rfl
    have hFc := va_free (wc := [(h, .inr (1, [.int g0, .int g1, .int g2, .int g3, .int (nI cn), .ref g5, .int g6, .ref g7, .ref g8, .ref g9, .ref g10, .ref g11, .int g12, .int g13, .int g14, .ref g15, .int g16, .ref g17, .ref g18, .ref g19, .ref g20, .ref g21, .ref g22, .int g23, .ref g24, .int g25, .int g26, .int g27, .int g28, .ref g29, .int (nI bs0.length), .int g31, .int g32])), (g29, .inl (cB, 1400, .inl f0))]) hD hS hA [0, 1] rfl
    refine va_callv (va_runV (As := [.int 0]) (rest := []) ⟨hx, hb, hml, hown, hw⟩ (cb_M_lay l dC dI cB cI cJ s.heap.size h g0 g1 g2 g3 (nI cn) g6 g12 g13 g14 g16 g23 g25 g26 g27 g28 g31 g32 g5 g7 g8 g9 g10 g11 g15 g17 g18 g19 g20 g21 g22 g24 g29 f0 bs0 hH 0 (by have := encUf_pos 4 (refN (cn + kk) i); omega)) (kw_V 1 hw qq_735 qq_5 qq_738 qq_737 qs_M_lay rfl rfl (by decide +kernel) ⟨Nat.le_of_ble_eq_true rfl, Nat.le_of_ble_eq_true rfl⟩) ⟨fun a U g mk q => by obtain ⟨q0, q1, qP, qK, qD⟩ := q; exact ⟨q0, q1, qP, va_K.moved (u := U) (U := U.calling g mk a) (Vm.Alike.refl U.vm) qK, qD⟩, va_recv hK hPc (ci := 1) (q0 := 0) rfl rfl, fun U hU hW => ⟨rfl, by rw [hU], by rw [hU]; exact hPc, va_K.moved hW.alike hK, hDc.weaken (fun _ _ _ _ => trivial)⟩⟩ rfl rfl hl.1 rfl (lv_room (Nat.le_of_ble_eq_true rfl)) dd_M_layRef_6 ⟨by first | exact Nat.le_of_ble_eq_true rfl | (simp only [headSpec]; omega), by first | exact Nat.le_of_ble_eq_true rfl | (simp only [headSpec]; omega)⟩) hS (fun q _ h => hFc q h) hFc (fun f_5 t H1 locs ht hvm hq_6 hB hz1 hk1 hS => ?_)
    obtain ⟨hP1, hK1, hD1⟩ := hB
    rw [ht] at hP1
    obtain ⟨hP, hD⟩ := va_join (wr := []) (w1 := [(h, .inr (1, [.int g0, .int g1, .int g2, .int g3, .int (nI cn), .ref g5, .int g6, .ref g7, .ref g8, .ref g9, .ref g10, .ref g11, .int g12, .int g13, .int g14, .ref g15, .int g16, .ref g17, .ref g18, .ref g19, .ref g20, .ref g21, .ref g22, .int g23, .ref g24, .int g25, .int g26, .int g27, .int g28, .ref g29, .int (nI (bs0.length + 1)), .int g31, .int g32])), (g29, .inl (cB, 1400, .inl f_5))]) hP hD [0, 1] [] rfl rfl (by decide) (by decide) hk1 hFc hP1 hD1
    clear hP1 hK1 hD1 ht hvm hz1 hk1 hPc hDc hFc
    generalize H1 = H at hP hS ⊢
    have hP : va_P (dC, dI) vcl [(h, .inr (1, [.int g0, .int g1, .int g2, .int g3, .int (nI cn), .ref g5, .int g6, .ref g7, .ref g8, .ref g9, .ref g10, .ref g11, .int g12, .int g13, .int g14, .ref g15, .int g16, .ref g17, .ref g18, .ref g19, .ref g20, .ref g21, .ref g22, .int g23, .ref g24, .int g25, .int g26, .int g27, .int g28, .ref g29, .int (nI (bs0.length + 1)), .int g31, .int g32])), (g29, .inl (cB, 1400, .inl f_5))] H := hP
    have hD : va_D A [(h, .inr (1, [.int g0, .int g1, .int g2, .int g3, .int (nI cn), .ref g5, .int g6, .ref g7, .ref g8, .ref g9, .ref g10, .ref g11, .int g12, .int g13, .int g14, .ref g15, .int g16, .ref g17, .ref g18, .ref g19, .ref g20, .ref g21, .ref g22, .int g23, .ref g24, .int g25, .int g26, .int g27, .int g28, .ref g29, .int (nI (bs0.length + 1)), .int g31, .int g32])), (g29, .inl (cB, 1400, .inl f_5))] := hD
    have hq_6 : Hd (bs0 ++ [nI 0]) f_5 := by rw [show (0 : Int32) &&& 255 = nI 0 from rfl] at hq_6; exact hq_6
    have e_7 : (nI (bs0.length + 1) : Int32) = nI (bs0 ++ [nI 0]).length := (by simp only [List.length_append, List.length_cons, List.length_nil])
    have hP : va_P (dC, dI) vcl [(h, .inr (1, [.int g0, .int g1, .int g2, .int g3, .int (nI cn), .ref g5, .int g6, .ref g7, .ref g8, .ref g9, .ref g10, .ref g11, .int g12, .int g13, .int g14, .ref g15, .int g16, .ref g17, .ref g18, .ref g19, .ref g20, .ref g21, .ref g22, .int g23, .ref g24, .int g25, .int g26, .int g27, .int g28, .ref g29, .int (nI (bs0 ++ [nI 0]).length), .int g31, .int g32])), (g29, .inl (cB, 1400, .inl f_5))] H := by rw [← e_7]; exact hP
    have hD : va_D A [(h, .inr (1, [.int g0, .int g1, .int g2, .int g3, .int (nI cn), .ref g5, .int g6, .ref g7, .ref g8, .ref g9, .ref g10, .ref g11, .int g12, .int g13, .int g14, .ref g15, .int g16, .ref g17, .ref g18, .ref g19, .ref g20, .ref g21, .ref g22, .int g23, .ref g24, .int g25, .int g26, .int g27, .int g28, .ref g29, .int (nI (bs0 ++ [nI 0]).length), .int g31, .int g32])), (g29, .inl (cB, 1400, .inl f_5))] := by rw [← e_7]; exact hD
    refine lv_goto (tgt := 37) hx hb dd_M_layRef_9 (by decide) ?_
    have hfin : bs0 ++ [nI 0] = bs0 ++ encUf 4 (refN (cn + kk) i) := by rw [refN, if_pos hi0, encUf_0]
    have e_8 : (nI (bs0 ++ [nI 0]).length : Int32) = nI (bs0 ++ encUf 4 (refN (cn + kk) i)).length := (by rw [hfin])
    have hP : va_P (dC, dI) vcl [(h, .inr (1, [.int g0, .int g1, .int g2, .int g3, .int (nI cn), .ref g5, .int g6, .ref g7, .ref g8, .ref g9, .ref g10, .ref g11, .int g12, .int g13, .int g14, .ref g15, .int g16, .ref g17, .ref g18, .ref g19, .ref g20, .ref g21, .ref g22, .int g23, .ref g24, .int g25, .int g26, .int g27, .int g28, .ref g29, .int (nI (bs0 ++ encUf 4 (refN (cn + kk) i)).length), .int g31, .int g32])), (g29, .inl (cB, 1400, .inl f_5))] H := by rw [← e_8]; exact hP
    have hD : va_D A [(h, .inr (1, [.int g0, .int g1, .int g2, .int g3, .int (nI cn), .ref g5, .int g6, .ref g7, .ref g8, .ref g9, .ref g10, .ref g11, .int g12, .int g13, .int g14, .ref g15, .int g16, .ref g17, .ref g18, .ref g19, .ref g20, .ref g21, .ref g22, .int g23, .ref g24, .int g25, .int g26, .int g27, .int g28, .ref g29, .int (nI (bs0 ++ encUf 4 (refN (cn + kk) i)).length), .int g31, .int g32])), (g29, .inl (cB, 1400, .inl f_5))] := by rw [← e_8]; exact hD
    have hP9 := hP.sub (ws' := [(h, .inr (1, [.int g0, .int g1, .int g2, .int g3, .int (nI cn), .ref g5, .int g6, .ref g7, .ref g8, .ref g9, .ref g10, .ref g11, .int g12, .int g13, .int g14, .ref g15, .int g16, .ref g17, .ref g18, .ref g19, .ref g20, .ref g21, .ref g22, .int g23, .ref g24, .int g25, .int g26, .int g27, .int g28, .ref g29, .int (nI (bs0 ++ encUf 4 (refN (cn + kk) i)).length), .int g31, .int g32])), (g29, .inl (cB, 1400, .inl f_5))]) [0, 1] rfl
    have hD9 := hD.sub (ws' := [(h, .inr (1, [.int g0, .int g1, .int g2, .int g3, .int (nI cn), .ref g5, .int g6, .ref g7, .ref g8, .ref g9, .ref g10, .ref g11, .int g12, .int g13, .int g14, .ref g15, .int g16, .ref g17, .ref g18, .ref g19, .ref g20, .ref g21, .ref g22, .int g23, .ref g24, .int g25, .int g26, .int g27, .int g28, .ref g29, .int (nI (bs0 ++ encUf 4 (refN (cn + kk) i)).length), .int g31, .int g32])), (g29, .inl (cB, 1400, .inl f_5))]) [0, 1] (by decide) rfl
    refine W.widen (k := 0) (n := 0) (by first | exact Nat.le_refl _ | omega) (by first | exact Nat.le_refl _ | omega) ?_
    exact W.vret hx hb hr (fun t ht hW => ⟨⟨f_5, rfl, (by rw [← hfin]; exact hq_6), by rw [ht]; exact hP9, va_K.moved hW.alike hK, hD9⟩, hS.F ht⟩) hS.2.2 dd_M_layRef_37

set_option maxHeartbeats 4000000 in
set_option maxRecDepth 100000 in
/-- layOperation(k) -/
theorem cb_M_layOperation (l : Launch) (dC : Nat → ClassId) (dI : Nat → Nat → Nat) (cB cI cJ : ClassId) (sz : Nat) (h : Nat) (g0 g1 g2 g3 g6 g12 g13 g14 g16 g23 g25 g26 g27 g28 g31 g32 : Int32) (g5 g7 g8 g9 g10 g11 g15 g17 g18 g19 g20 g21 g22 g24 g29 : Nat) (f0 : Nat → Int32) (bs0 : List Int32) (hH : Hd bs0 f0) (ft fo fd fv : Nat → Int32) (fk : Nat → Int64) (cn kk : Nat) (hkk : kk < 16) (hc : cn + kk ≤ 200000) (hok : okOp (cn + kk) (ft kk) (fd kk) (fo kk) (fk kk) (fv kk)) (hRm : bs0.length + 24 ≤ 1400) : Met l yy_M_layOperation (Cond.code yy_M_layOperation cc_M_layOperation 3 none :: gw) { frames := 3, cells := 0, slots := 0, locals := 65 } (va_Pc [.ref h, .int (nI kk)] (ks_pre dC dI [(cB, .byte), (cI, .int), (cJ, .long)] [(h, .inr (1, [.int g0, .int g1, .int g2, .int g3, .int (nI cn), .ref g5, .int g6, .ref g7, .ref g8, .ref g9, .ref g10, .ref g11, .int g12, .int g13, .int g14, .ref g15, .int g16, .ref g17, .ref g18, .ref g19, .ref g20, .ref g21, .ref g22, .int g23, .ref g24, .int g25, .int g26, .int g27, .int g28, .ref g29, .int (nI bs0.length), .int g31, .int g32])), (g29, .inl (cB, 1400, .inl f0)), (g7, .inl (cI, 16, .inl ft)), (g8, .inl (cI, 16, .inl fo)), (g9, .inl (cJ, 16, .inr (.inl fk))), (g10, .inl (cI, 16, .inl fd)), (g11, .inl (cI, 16, .inl fv))] sz)) (va_Qv (fun (u : Nat → Int32) => Hd (bs0 ++ encOp (cn + kk) (ft kk) (fd kk) (fo kk) (fk kk) (fv kk)) u) (fun (u : Nat → Int32) => ks_post dC dI [(cB, .byte), (cI, .int), (cJ, .long)] (va_A [(h, .inr (1, [.int g0, .int g1, .int g2, .int g3, .int (nI cn), .ref g5, .int g6, .ref g7, .ref g8, .ref g9, .ref g10, .ref g11, .int g12, .int g13, .int g14, .ref g15, .int g16, .ref g17, .ref g18, .ref g19, .ref g20, .ref g21, .ref g22, .int g23, .ref g24, .int g25, .int g26, .int g27, .int g28, .ref g29, .int (nI bs0.length), .int g31, .int g32])), (g29, .inl (cB, 1400, .inl f0)), (g7, .inl (cI, 16, .inl ft)), (g8, .inl (cI, 16, .inl fo)), (g9, .inl (cJ, 16, .inr (.inl fk))), (g10, .inl (cI, 16, .inl fd)), (g11, .inl (cI, 16, .inl fv))] sz) [(h, .inr (1, [.int g0, .int g1, .int g2, .int g3, .int (nI cn), .ref g5, .int g6, .ref g7, .ref g8, .ref g9, .ref g10, .ref g11, .int g12, .int g13, .int g14, .ref g15, .int g16, .ref g17, .ref g18, .ref g19, .ref g20, .ref g21, .ref g22, .int g23, .ref g24, .int g25, .int g26, .int g27, .int g28, .ref g29, .int (nI (bs0 ++ encOp (cn + kk) (ft kk) (fd kk) (fo kk) (fk kk) (fv kk)).length), .int g31, .int g32])), (g29, .inl (cB, 1400, .inl u)), (g7, .inl (cI, 16, .inl ft)), (g8, .inl (cI, 16, .inl fo)), (g9, .inl (cJ, 16, .inr (.inl fk))), (g10, .inl (cI, 16, .inl fd)), (g11, .inl (cI, 16, .inl fv))]) (va_A [(h, .inr (1, [.int g0, .int g1, .int g2, .int g3, .int (nI cn), .ref g5, .int g6, .ref g7, .ref g8, .ref g9, .ref g10, .ref g11, .int g12, .int g13, .int g14, .ref g15, .int g16, .ref g17, .ref g18, .ref g19, .ref g20, .ref g21, .ref g22, .int g23, .ref g24, .int g25, .int g26, .int g27, .int g28, .ref g29, .int (nI bs0.length), .int g31, .int g32])), (g29, .inl (cB, 1400, .inl f0)), (g7, .inl (cI, 16, .inl ft)), (g8, .inl (cI, 16, .inl fo)), (g9, .inl (cJ, 16, .inr (.inl fk))), (g10, .inl (cI, 16, .inl fd)), (g11, .inl (cI, 16, .inl fv))] sz)) 0 0 (va_A [(h, .inr (1, [.int g0, .int g1, .int g2, .int g3, .int (nI cn), .ref g5, .int g6, .ref g7, .ref g8, .ref g9, .ref g10, .ref g11, .int g12, .int g13, .int g14, .ref g15, .int g16, .ref g17, .ref g18, .ref g19, .ref g20, .ref g21, .ref g22, .int g23, .ref g24, .int g25, .int g26, .int g27, .int g28, .ref g29, .int (nI bs0.length), .int g31, .int g32])), (g29, .inl (cB, 1400, .inl f0)), (g7, .inl (cI, 16, .inl ft)), (g8, .inl (cI, 16, .inl fo)), (g9, .inl (cJ, 16, .inr (.inl fk))), (g10, .inl (cI, 16, .inl fd)), (g11, .inl (cI, 16, .inl fv))] sz) := by
  refine Met.ofW (cc := cc_M_layOperation) (maxL := 3) (ret := none) (by decide) rfl ?_
  intro p e s m args below meth c s₁ B hml hv
  obtain ⟨rfl, hsz, hP, hK, hD0⟩ := hv
  have hx := B.exec
  have hb := B.bytes
  have hr := B.returns
  have hw : ∀ w ∈ gw, w.before _ s = true := fun w h => atoms_spec (ws := (Cond.code yy_M_layOperation cc_M_layOperation 3 none :: gw)) B.pre w (List.mem_cons_of_mem _ h)
  have hown : s.vm.findClass RR_M = some m.cls := findClass_of_methodNamed B.named
  have hlocks := B.notSynchronized
  subst hsz
  have hD := hD0.self (sz := s.heap.size)
  generalize hAe : va_A [(h, .inr (1, [.int g0, .int g1, .int g2, .int g3, .int (nI cn), .ref g5, .int g6, .ref g7, .ref g8, .ref g9, .ref g10, .ref g11, .int g12, .int g13, .int g14, .ref g15, .int g16, .ref g17, .ref g18, .ref g19, .ref g20, .ref g21, .ref g22, .int g23, .ref g24, .int g25, .int g26, .int g27, .int g28, .ref g29, .int (nI bs0.length), .int g31, .int g32])), (g29, .inl (cB, 1400, .inl f0)), (g7, .inl (cI, 16, .inl ft)), (g8, .inl (cI, 16, .inl fo)), (g9, .inl (cJ, 16, .inr (.inl fk))), (g10, .inl (cI, 16, .inl fd)), (g11, .inl (cI, 16, .inl fv))] s.heap.size = A at hD ⊢
  have hA : ∀ q : Nat, s.heap.size ≤ q → A q := fun q h => by rw [← hAe]; exact Or.inr h
  have hS : va_S A s.heap s.heap [] := va_S.rf
  have hP : va_P (dC, dI) vcl [(h, .inr (1, [.int g0, .int g1, .int g2, .int g3, .int (nI cn), .ref g5, .int g6, .ref g7, .ref g8, .ref g9, .ref g10, .ref g11, .int g12, .int g13, .int g14, .ref g15, .int g16, .ref g17, .ref g18, .ref g19, .ref g20, .ref g21, .ref g22, .int g23, .ref g24, .int g25, .int g26, .int g27, .int g28, .ref g29, .int (nI bs0.length), .int g31, .int g32])), (g29, .inl (cB, 1400, .inl f0)), (g7, .inl (cI, 16, .inl ft)), (g8, .inl (cI, 16, .inl fo)), (g9, .inl (cJ, 16, .inr (.inl fk))), (g10, .inl (cI, 16, .inl fd)), (g11, .inl (cI, 16, .inl fv))] s.heap := hP
  have hl := lv_entry ([.ref h, .int (nI kk)]) (n := 3) (Nat.le_of_ble_eq_true rfl)
  rw [lg_entry_eq]
  generalize (lg_sl ([.ref h, .int (nI kk)]) ++ List.replicate (3 - (lg_sl ([.ref h, .int (nI kk)])).length) Slot.unset).toArray = ls at hl ⊢
  have hl : lv_has ls 3 [(0, .ref h), (1, .int (nI kk))] := hl
  obtain ⟨⟨i, hi, ei, hic⟩, hky, hkr, hkv⟩ := hok
  refine lv_aload_n hx hb dd_M_layOperation_0 rfl (lv_at hl 0 rfl) ?_
  refine va_get (D := (dC, dI)) (ci := 1) (v := .ref g7) (C := RR_M) (T := TT_M) (N := 33) hx hb hw hh_M hown hK hP 0 rfl rfl 7 (by decide) (hw _ qq_586) (fun _ h9 => h9) rfl dd_M_layOperation_1 ?_
  refine lv_iload_n hx hb dd_M_layOperation_4 rfl (lv_at hl 1 rfl) ?_
  refine va_iald hx hb hK hP 2 1 rfl rfl (vp_in_nI (by omega) (by decide)) dd_M_layOperation_5 ?_
  refine lv_topi (fun z_1 hz_1 => ?_)
  obtain rfl : z_1 = ft kk := hz_1.trans ((by rw [nI_clamp (by omega)]))
  refine lv_istore_n (lv' := [(2, .int (ft kk)), (0, .ref h), (1, .int (nI kk))]) hx hb dd_M_layOperation_6 rfl hl (by decide) rfl (fun ls hl => ?_)
  refine lv_aload_n hx hb dd_M_layOperation_7 rfl (lv_at hl 1 rfl) ?_
  refine lv_iload_n hx hb dd_M_layOperation_8 rfl (lv_at hl 0 rfl) ?_
  refine lv_bipush (v := 8) hx hb dd_M_layOperation_9 (by decide) ?_
  refine lv_aload_n hx hb dd_M_layOperation_11 rfl (lv_at hl 1 rfl) ?_
  refine va_get (D := (dC, dI)) (ci := 1) (v := .ref g10) (C := RR_M) (T := TT_M) (N := 33) hx hb hw hh_M hown hK hP 0 rfl rfl 10 (by decide) (hw _ qq_589) (fun _ h9 => h9) rfl dd_M_layOperation_12 ?_
  refine lv_iload_n hx hb dd_M_layOperation_15 rfl (lv_at hl 2 rfl) ?_
  refine va_iald hx hb hK hP 5 1 rfl rfl (vp_in_nI (by omega) (by decide)) dd_M_layOperation_16 ?_
  refine lv_topi (fun z_2 hz_2 => ?_)
  obtain rfl : z_2 = fd kk := hz_2.trans ((by rw [nI_clamp (by omega)]))
  refine lv_imul hx hb dd_M_layOperation_17 ?_
  refine lv_iadd hx hb dd_M_layOperation_18 ?_
  have hPc := hP.sub (ws' := [(h, .inr (1, [.int g0, .int g1, .int g2, .int g3, .int (nI cn), .ref g5, .int g6, .ref g7, .ref g8, .ref g9, .ref g10, .ref g11, .int g12, .int g13, .int g14, .ref g15, .int g16, .ref g17, .ref g18, .ref g19, .ref g20, .ref g21, .ref g22, .int g23, .ref g24, .int g25, .int g26, .int g27, .int g28, .ref g29, .int (nI bs0.length), .int g31, .int g32])), (g29, .inl (cB, 1400, .inl f0))]) [0, 1] rfl
  have hDc := hD.sub (ws' := [(h, .inr (1, [.int g0, .int g1, .int g2, .int g3, .int (nI cn), .ref g5, .int g6, .ref g7, .ref g8, .ref g9, .ref g10, .ref g11, .int g12, .int g13, .int g14, .ref g15, .int g16, .ref g17, .ref g18, .ref g19, .ref g20, .ref g21, .ref g22, .int g23, .ref g24, .int g25, .int g26, .int g27, .int g28, .ref g29, .int (nI bs0.length), .int g31, .int g32])), (g29, .inl (cB, 1400, .inl f0))]) [0, 1] (by decide) rfl
  have hFc := va_free (wc := [(h, .inr (1, [.int g0, .int g1, .int g2, .int g3, .int (nI cn), .ref g5, .int g6, .ref g7, .ref g8, .ref g9, .ref g10, .ref g11, .int g12, .int g13, .int g14, .ref g15, .int g16, .ref g17, .ref g18, .ref g19, .ref g20, .ref g21, .ref g22, .int g23, .ref g24, .int g25, .int g26, .int g27, .int g28, .ref g29, .int (nI bs0.length), .int g31, .int g32])), (g29, .inl (cB, 1400, .inl f0))]) hD hS hA [0, 1] rfl
  refine va_callv (va_runV (As := [.int ((ft kk) + (8 * (fd kk)))]) (rest := []) ⟨hx, hb, hml, hown, hw⟩ (cb_M_lay l dC dI cB cI cJ s.heap.size h g0 g1 g2 g3 (nI cn) g6 g12 g13 g14 g16 g23 g25 g26 g27 g28 g31 g32 g5 g7 g8 g9 g10 g11 g15 g17 g18 g19 g20 g21 g22 g24 g29 f0 bs0 hH ((ft kk) + (8 * (fd kk))) (by omega)) (kw_V 1 hw qq_735 qq_5 qq_738 qq_737 qs_M_lay rfl rfl (by decide +kernel) ⟨Nat.le_of_ble_eq_true rfl, Nat.le_of_ble_eq_true rfl⟩) ⟨fun a U g mk q => by obtain ⟨q0, q1, qP, qK, qD⟩ := q; exact ⟨q0, q1, qP, va_K.moved (u := U) (U := U.calling g mk a) (Vm.Alike.refl U.vm) qK, qD⟩, va_recv hK hPc (ci := 1) (q0 := 0) rfl rfl, fun U hU hW => ⟨rfl, by rw [hU], by rw [hU]; exact hPc, va_K.moved hW.alike hK, hDc.weaken (fun _ _ _ _ => trivial)⟩⟩ rfl rfl hl.1 rfl (lv_room (Nat.le_of_ble_eq_true rfl)) dd_M_layOperation_19 ⟨by first | exact Nat.le_of_ble_eq_true rfl | (simp only [headSpec]; omega), by first | exact Nat.le_of_ble_eq_true rfl | (simp only [headSpec]; omega)⟩) hS (fun q _ h => hFc q h) hFc (fun f_3 t H1 locs ht hvm hq_4 hB hz1 hk1 hS => ?_)
  obtain ⟨hP1, hK1, hD1⟩ := hB
  rw [ht] at hP1
  obtain ⟨hP, hD⟩ := va_join (wr := [(g7, .inl (cI, 16, .inl ft)), (g8, .inl (cI, 16, .inl fo)), (g9, .inl (cJ, 16, .inr (.inl fk))), (g10, .inl (cI, 16, .inl fd)), (g11, .inl (cI, 16, .inl fv))]) (w1 := [(h, .inr (1, [.int g0, .int g1, .int g2, .int g3, .int (nI cn), .ref g5, .int g6, .ref g7, .ref g8, .ref g9, .ref g10, .ref g11, .int g12, .int g13, .int g14, .ref g15, .int g16, .ref g17, .ref g18, .ref g19, .ref g20, .ref g21, .ref g22, .int g23, .ref g24, .int g25, .int g26, .int g27, .int g28, .ref g29, .int (nI (bs0.length + 1)), .int g31, .int g32])), (g29, .inl (cB, 1400, .inl f_3))]) hP hD [0, 1] [2, 3, 4, 5, 6] rfl rfl (by decide) (by decide) hk1 hFc hP1 hD1
  clear hP1 hK1 hD1 ht hvm hz1 hk1 hPc hDc hFc
  generalize H1 = H at hP hS ⊢
  have hP : va_P (dC, dI) vcl [(g7, .inl (cI, 16, .inl ft)), (g8, .inl (cI, 16, .inl fo)), (g9, .inl (cJ, 16, .inr (.inl fk))), (g10, .inl (cI, 16, .inl fd)), (g11, .inl (cI, 16, .inl fv)), (h, .inr (1, [.int g0, .int g1, .int g2, .int g3, .int (nI cn), .ref g5, .int g6, .ref g7, .ref g8, .ref g9, .ref g10, .ref g11, .int g12, .int g13, .int g14, .ref g15, .int g16, .ref g17, .ref g18, .ref g19, .ref g20, .ref g21, .ref g22, .int g23, .ref g24, .int g25, .int g26, .int g27, .int g28, .ref g29, .int (nI (bs0.length + 1)), .int g31, .int g32])), (g29, .inl (cB, 1400, .inl f_3))] H := hP
  have hD : va_D A [(g7, .inl (cI, 16, .inl ft)), (g8, .inl (cI, 16, .inl fo)), (g9, .inl (cJ, 16, .inr (.inl fk))), (g10, .inl (cI, 16, .inl fd)), (g11, .inl (cI, 16, .inl fv)), (h, .inr (1, [.int g0, .int g1, .int g2, .int g3, .int (nI cn), .ref g5, .int g6, .ref g7, .ref g8, .ref g9, .ref g10, .ref g11, .int g12, .int g13, .int g14, .ref g15, .int g16, .ref g17, .ref g18, .ref g19, .ref g20, .ref g21, .ref g22, .int g23, .ref g24, .int g25, .int g26, .int g27, .int g28, .ref g29, .int (nI (bs0.length + 1)), .int g31, .int g32])), (g29, .inl (cB, 1400, .inl f_3))] := hD
  have hq_4 : Hd (bs0 ++ [((ft kk) + (8 * (fd kk))) &&& 255]) f_3 := by exact hq_4
  have e_5 : (nI (bs0.length + 1) : Int32) = nI (bs0 ++ [((ft kk) + (8 * (fd kk))) &&& 255]).length := (by simp only [List.length_append, List.length_cons, List.length_nil])
  have hP : va_P (dC, dI) vcl [(g7, .inl (cI, 16, .inl ft)), (g8, .inl (cI, 16, .inl fo)), (g9, .inl (cJ, 16, .inr (.inl fk))), (g10, .inl (cI, 16, .inl fd)), (g11, .inl (cI, 16, .inl fv)), (h, .inr (1, [.int g0, .int g1, .int g2, .int g3, .int (nI cn), .ref g5, .int g6, .ref g7, .ref g8, .ref g9, .ref g10, .ref g11, .int g12, .int g13, .int g14, .ref g15, .int g16, .ref g17, .ref g18, .ref g19, .ref g20, .ref g21, .ref g22, .int g23, .ref g24, .int g25, .int g26, .int g27, .int g28, .ref g29, .int (nI (bs0 ++ [((ft kk) + (8 * (fd kk))) &&& 255]).length), .int g31, .int g32])), (g29, .inl (cB, 1400, .inl f_3))] H := by rw [← e_5]; exact hP
  have hD : va_D A [(g7, .inl (cI, 16, .inl ft)), (g8, .inl (cI, 16, .inl fo)), (g9, .inl (cJ, 16, .inr (.inl fk))), (g10, .inl (cI, 16, .inl fd)), (g11, .inl (cI, 16, .inl fv)), (h, .inr (1, [.int g0, .int g1, .int g2, .int g3, .int (nI cn), .ref g5, .int g6, .ref g7, .ref g8, .ref g9, .ref g10, .ref g11, .int g12, .int g13, .int g14, .ref g15, .int g16, .ref g17, .ref g18, .ref g19, .ref g20, .ref g21, .ref g22, .int g23, .ref g24, .int g25, .int g26, .int g27, .int g28, .ref g29, .int (nI (bs0 ++ [((ft kk) + (8 * (fd kk))) &&& 255]).length), .int g31, .int g32])), (g29, .inl (cB, 1400, .inl f_3))] := by rw [← e_5]; exact hD
  refine lv_aload_n hx hb dd_M_layOperation_22 rfl (lv_at hl 1 rfl) ?_
  refine lv_iload_n hx hb dd_M_layOperation_23 rfl (lv_at hl 2 rfl) ?_
  refine lv_aload_n hx hb dd_M_layOperation_24 rfl (lv_at hl 1 rfl) ?_
  refine va_get (D := (dC, dI)) (ci := 1) (v := .ref g8) (C := RR_M) (T := TT_M) (N := 33) hx hb hw hh_M hown hK hP 5 rfl rfl 8 (by decide) (hw _ qq_587) (fun _ h9 => h9) rfl dd_M_layOperation_25 ?_
  refine lv_iload_n hx hb dd_M_layOperation_28 rfl (lv_at hl 2 rfl) ?_
  refine va_iald hx hb hK hP 1 1 rfl rfl (vp_in_nI (by omega) (by decide)) dd_M_layOperation_29 ?_
  refine lv_topi (fun z_6 hz_6 => ?_)
  obtain rfl : z_6 = fo kk := hz_6.trans ((by rw [nI_clamp (by omega)]))
  refine lv_topi (fun z_7 hz_7 => ?_)
  obtain rfl : z_7 = nI i := hz_7.trans (ei)
  have hPc := hP.sub (ws' := [(h, .inr (1, [.int g0, .int g1, .int g2, .int g3, .int (nI cn), .ref g5, .int g6, .ref g7, .ref g8, .ref g9, .ref g10, .ref g11, .int g12, .int g13, .int g14, .ref g15, .int g16, .ref g17, .ref g18, .ref g19, .ref g20, .ref g21, .ref g22, .int g23, .ref g24, .int g25, .int g26, .int g27, .int g28, .ref g29, .int (nI (bs0 ++ [((ft kk) + (8 * (fd kk))) &&& 255]).length), .int g31, .int g32])), (g29, .inl (cB, 1400, .inl f_3))]) [5, 6] rfl
  have hDc := hD.sub (ws' := [(h, .inr (1, [.int g0, .int g1, .int g2, .int g3, .int (nI cn), .ref g5, .int g6, .ref g7, .ref g8, .ref g9, .ref g10, .ref g11, .int g12, .int g13, .int g14, .ref g15, .int g16, .ref g17, .ref g18, .ref g19, .ref g20, .ref g21, .ref g22, .int g23, .ref g24, .int g25, .int g26, .int g27, .int g28, .ref g29, .int (nI (bs0 ++ [((ft kk) + (8 * (fd kk))) &&& 255]).length), .int g31, .int g32])), (g29, .inl (cB, 1400, .inl f_3))]) [5, 6] (by decide) rfl
  have hFc := va_free (wc := [(h, .inr (1, [.int g0, .int g1, .int g2, .int g3, .int (nI cn), .ref g5, .int g6, .ref g7, .ref g8, .ref g9, .ref g10, .ref g11, .int g12, .int g13, .int g14, .ref g15, .int g16, .ref g17, .ref g18, .ref g19, .ref g20, .ref g21, .ref g22, .int g23, .ref g24, .int g25, .int g26, .int g27, .int g28, .ref g29, .int (nI (bs0 ++ [((ft kk) + (8 * (fd kk))) &&& 255]).length), .int g31, .int g32])), (g29, .inl (cB, 1400, .inl f_3))]) hD hS hA [5, 6] rfl
  refine va_callv (va_runV (As := [.int (nI kk), .int (nI i)]) (rest := []) ⟨hx, hb, hml, hown, hw⟩ (cb_M_layRef l dC dI cB cI cJ H.size h g0 g1 g2 g3 g6 g12 g13 g14 g16 g23 g25 g26 g27 g28 g31 g32 g5 g7 g8 g9 g10 g11 g15 g17 g18 g19 g20 g21 g22 g24 g29 f_3 (bs0 ++ [((ft kk) + (8 * (fd kk))) &&& 255]) hq_4 cn kk i hc hi hic (by have h1 := encUf_le 4 (refN (cn + kk) i); simp only [List.length_append, List.length_cons, List.length_nil, encLk_len]; have h4 := encUf_le 4 (refN (cn + kk) i); omega)) (kw_V 2 hw qq_747 qq_5 qq_750 qq_749 qs_M_layRef rfl rfl (by decide +kernel) ⟨Nat.le_of_ble_eq_true rfl, Nat.le_of_ble_eq_true rfl⟩) ⟨fun a U g mk q => by obtain ⟨q0, q1, qP, qK, qD⟩ := q; exact ⟨q0, q1, qP, va_K.moved (u := U) (U := U.calling g mk a) (Vm.Alike.refl U.vm) qK, qD⟩, va_recv hK hPc (ci := 1) (q0 := 0) rfl rfl, fun U hU hW => ⟨rfl, by rw [hU], by rw [hU]; exact hPc, va_K.moved hW.alike hK, hDc.weaken (fun _ _ _ _ => trivial)⟩⟩ rfl rfl hl.1 rfl (lv_room (Nat.le_of_ble_eq_true rfl)) dd_M_layOperation_30 ⟨by first | exact Nat.le_of_ble_eq_true rfl | (simp only [headSpec]; omega), by first | exact Nat.le_of_ble_eq_true rfl | (simp only [headSpec]; omega)⟩) hS (fun q _ h => hFc q h) hFc (fun f_8 t H1 locs ht hvm hq_9 hB hz1 hk1 hS => ?_)
  obtain ⟨hP1, hK1, hD1⟩ := hB
  rw [ht] at hP1
  obtain ⟨hP, hD⟩ := va_join (wr := [(g7, .inl (cI, 16, .inl ft)), (g8, .inl (cI, 16, .inl fo)), (g9, .inl (cJ, 16, .inr (.inl fk))), (g10, .inl (cI, 16, .inl fd)), (g11, .inl (cI, 16, .inl fv))]) (w1 := [(h, .inr (1, [.int g0, .int g1, .int g2, .int g3, .int (nI cn), .ref g5, .int g6, .ref g7, .ref g8, .ref g9, .ref g10, .ref g11, .int g12, .int g13, .int g14, .ref g15, .int g16, .ref g17, .ref g18, .ref g19, .ref g20, .ref g21, .ref g22, .int g23, .ref g24, .int g25, .int g26, .int g27, .int g28, .ref g29, .int (nI (bs0 ++ [((ft kk) + (8 * (fd kk))) &&& 255] ++ encUf 4 (refN (cn + kk) i)).length), .int g31, .int g32])), (g29, .inl (cB, 1400, .inl f_8))]) hP hD [5, 6] [0, 1, 2, 3, 4] rfl rfl (by decide) (by decide) hk1 hFc hP1 hD1
  clear hP1 hK1 hD1 ht hvm hz1 hk1 hPc hDc hFc
  generalize H1 = H at hP hS ⊢
  have hP : va_P (dC, dI) vcl [(g7, .inl (cI, 16, .inl ft)), (g8, .inl (cI, 16, .inl fo)), (g9, .inl (cJ, 16, .inr (.inl fk))), (g10, .inl (cI, 16, .inl fd)), (g11, .inl (cI, 16, .inl fv)), (h, .inr (1, [.int g0, .int g1, .int g2, .int g3, .int (nI cn), .ref g5, .int g6, .ref g7, .ref g8, .ref g9, .ref g10, .ref g11, .int g12, .int g13, .int g14, .ref g15, .int g16, .ref g17, .ref g18, .ref g19, .ref g20, .ref g21, .ref g22, .int g23, .ref g24, .int g25, .int g26, .int g27, .int g28, .ref g29, .int (nI (bs0 ++ [((ft kk) + (8 * (fd kk))) &&& 255] ++ encUf 4 (refN (cn + kk) i)).length), .int g31, .int g32])), (g29, .inl (cB, 1400, .inl f_8))] H := hP
  have hD : va_D A [(g7, .inl (cI, 16, .inl ft)), (g8, .inl (cI, 16, .inl fo)), (g9, .inl (cJ, 16, .inr (.inl fk))), (g10, .inl (cI, 16, .inl fd)), (g11, .inl (cI, 16, .inl fv)), (h, .inr (1, [.int g0, .int g1, .int g2, .int g3, .int (nI cn), .ref g5, .int g6, .ref g7, .ref g8, .ref g9, .ref g10, .ref g11, .int g12, .int g13, .int g14, .ref g15, .int g16, .ref g17, .ref g18, .ref g19, .ref g20, .ref g21, .ref g22, .int g23, .ref g24, .int g25, .int g26, .int g27, .int g28, .ref g29, .int (nI (bs0 ++ [((ft kk) + (8 * (fd kk))) &&& 255] ++ encUf 4 (refN (cn + kk) i)).length), .int g31, .int g32])), (g29, .inl (cB, 1400, .inl f_8))] := hD
  refine lv_iload_n hx hb dd_M_layOperation_33 rfl (lv_at hl 0 rfl) ?_
  refine lv_iconst (v := 2) hx hb dd_M_layOperation_34 (by decide) ?_
  refine lv_icmp_ge (tgt := 51) hx hb dd_M_layOperation_35 (by decide) (fun c_10 => ?_) (fun c_10 => ?_)
  · refine lv_iload_n hx hb dd_M_layOperation_51 rfl (lv_at hl 0 rfl) ?_
    refine lv_iconst (v := 2) hx hb dd_M_layOperation_52 (by decide) ?_
    refine lv_icmp_le (tgt := 68) hx hb dd_M_layOperation_53 (by decide) (fun c_11 => ?_) (fun c_11 => ?_)
    · refine lv_iload_n hx hb dd_M_layOperation_68 rfl (lv_at hl 0 rfl) ?_
      refine lv_iconst (v := 2) hx hb dd_M_layOperation_69 (by decide) ?_
      refine lv_icmp_eq (tgt := 93) hx hb dd_M_layOperation_70 (by decide) (fun c_12 => ?_) (fun c_12 => ?_)
      · refine lv_aload_n hx hb dd_M_layOperation_93 rfl (lv_at hl 1 rfl) ?_
        refine lv_aload_n hx hb dd_M_layOperation_94 rfl (lv_at hl 1 rfl) ?_
        refine va_get (D := (dC, dI)) (ci := 1) (v := .ref g11) (C := RR_M) (T := TT_M) (N := 33) hx hb hw hh_M hown hK hP 5 rfl rfl 11 (by decide) (hw _ qq_590) (fun _ h9 => h9) rfl dd_M_layOperation_95 ?_
        refine lv_iload_n hx hb dd_M_layOperation_98 rfl (lv_at hl 2 rfl) ?_
        refine va_iald hx hb hK hP 4 1 rfl rfl (vp_in_nI (by omega) (by decide)) dd_M_layOperation_99 ?_
        refine lv_topi (fun z_13 hz_13 => ?_)
        obtain rfl : z_13 = fv kk := hz_13.trans ((by rw [nI_clamp (by omega)]))
        have hPc := hP.sub (ws' := [(h, .inr (1, [.int g0, .int g1, .int g2, .int g3, .int (nI cn), .ref g5, .int g6, .ref g7, .ref g8, .ref g9, .ref g10, .ref g11, .int g12, .int g13, .int g14, .ref g15, .int g16, .ref g17, .ref g18, .ref g19, .ref g20, .ref g21, .ref g22, .int g23, .ref g24, .int g25, .int g26, .int g27, .int g28, .ref g29, .int (nI (bs0 ++ [((ft kk) + (8 * (fd kk))) &&& 255] ++ encUf 4 (refN (cn + kk) i)).length), .int g31, .int g32])), (g29, .inl (cB, 1400, .inl f_8))]) [5, 6] rfl
        have hDc := hD.sub (ws' := [(h, .inr (1, [.int g0, .int g1, .int g2, .int g3, .int (nI cn), .ref g5, .int g6, .ref g7, .ref g8, .ref g9, .ref g10, .ref g11, .int g12, .int g13, .int g14, .ref g15, .int g16, .ref g17, .ref g18, .ref g19, .ref g20, .ref g21, .ref g22, .int g23, .ref g24, .int g25, .int g26, .int g27, .int g28, .ref g29, .int (nI (bs0 ++ [((ft kk) + (8 * (fd kk))) &&& 255] ++ encUf 4 (refN (cn + kk) i)).length), .int g31, .int g32])), (g29, .inl (cB, 1400, .inl f_8))]) [5, 6] (by decide) rfl
        have hFc := va_free (wc := [(h, .inr (1, [.int g0, .int g1, .int g2, .int g3, .int (nI cn), .ref g5, .int g6, .ref g7, .ref g8, .ref g9, .ref g10, .ref g11, .int g12, .int g13, .int g14, .ref g15, .int g16, .ref g17, .ref g18, .ref g19, .ref g20, .ref g21, .ref g22, .int g23, .ref g24, .int g25, .int g26, .int g27, .int g28, .ref g29, .int (nI (bs0 ++ [((ft kk) + (8 * (fd kk))) &&& 255] ++ encUf 4 (refN (cn + kk) i)).length), .int g31, .int g32])), (g29, .inl (cB, 1400, .inl f_8))]) hD hS hA [5, 6] rfl
        refine va_callv (va_runV (As := [.int (fv kk)]) (rest := []) ⟨hx, hb, hml, hown, hw⟩ (cb_M_layS l dC dI cB cI cJ H.size h g0 g1 g2 g3 (nI cn) g6 g12 g13 g14 g16 g23 g25 g26 g27 g28 g31 g32 g5 g7 g8 g9 g10 g11 g15 g17 g18 g19 g20 g21 g22 g24 g29 f_8 (bs0 ++ [((ft kk) + (8 * (fd kk))) &&& 255] ++ encUf 4 (refN (cn + kk) i)) hq_9 (fv kk) (by have h1 := encUf_le 4 (refN (cn + kk) i); have h5 := encSf_le 4 (fv kk); simp only [List.length_append, List.length_cons, List.length_nil, encLk_len]; omega)) (kw_V 1 hw qq_755 qq_5 qq_758 qq_757 qs_M_layS rfl rfl (by decide +kernel) ⟨Nat.le_of_ble_eq_true rfl, Nat.le_of_ble_eq_true rfl⟩) ⟨fun a U g mk q => by obtain ⟨q0, q1, qP, qK, qD⟩ := q; exact ⟨q0, q1, qP, va_K.moved (u := U) (U := U.calling g mk a) (Vm.Alike.refl U.vm) qK, qD⟩, va_recv hK hPc (ci := 1) (q0 := 0) rfl rfl, fun U hU hW => ⟨rfl, by rw [hU], by rw [hU]; exact hPc, va_K.moved hW.alike hK, hDc.weaken (fun _ _ _ _ => trivial)⟩⟩ rfl rfl hl.1 rfl (lv_room (Nat.le_of_ble_eq_true rfl)) dd_M_layOperation_100 ⟨by first | exact Nat.le_of_ble_eq_true rfl | (simp only [headSpec]; omega), by first | exact Nat.le_of_ble_eq_true rfl | (simp only [headSpec]; omega)⟩) hS (fun q _ h => hFc q h) hFc (fun f_14 t H1 locs ht hvm hq_15 hB hz1 hk1 hS => ?_)
        obtain ⟨hP1, hK1, hD1⟩ := hB
        rw [ht] at hP1
        obtain ⟨hP, hD⟩ := va_join (wr := [(g7, .inl (cI, 16, .inl ft)), (g8, .inl (cI, 16, .inl fo)), (g9, .inl (cJ, 16, .inr (.inl fk))), (g10, .inl (cI, 16, .inl fd)), (g11, .inl (cI, 16, .inl fv))]) (w1 := [(h, .inr (1, [.int g0, .int g1, .int g2, .int g3, .int (nI cn), .ref g5, .int g6, .ref g7, .ref g8, .ref g9, .ref g10, .ref g11, .int g12, .int g13, .int g14, .ref g15, .int g16, .ref g17, .ref g18, .ref g19, .ref g20, .ref g21, .ref g22, .int g23, .ref g24, .int g25, .int g26, .int g27, .int g28, .ref g29, .int (nI (bs0 ++ [((ft kk) + (8 * (fd kk))) &&& 255] ++ encUf 4 (refN (cn + kk) i) ++ encSf 4 (fv kk)).length), .int g31, .int g32])), (g29, .inl (cB, 1400, .inl f_14))]) hP hD [5, 6] [0, 1, 2, 3, 4] rfl rfl (by decide) (by decide) hk1 hFc hP1 hD1
        clear hP1 hK1 hD1 ht hvm hz1 hk1 hPc hDc hFc
        generalize H1 = H at hP hS ⊢
        have hP : va_P (dC, dI) vcl [(g7, .inl (cI, 16, .inl ft)), (g8, .inl (cI, 16, .inl fo)), (g9, .inl (cJ, 16, .inr (.inl fk))), (g10, .inl (cI, 16, .inl fd)), (g11, .inl (cI, 16, .inl fv)), (h, .inr (1, [.int g0, .int g1, .int g2, .int g3, .int (nI cn), .ref g5, .int g6, .ref g7, .ref g8, .ref g9, .ref g10, .ref g11, .int g12, .int g13, .int g14, .ref g15, .int g16, .ref g17, .ref g18, .ref g19, .ref g20, .ref g21, .ref g22, .int g23, .ref g24, .int g25, .int g26, .int g27, .int g28, .ref g29, .int (nI (bs0 ++ [((ft kk) + (8 * (fd kk))) &&& 255] ++ encUf 4 (refN (cn + kk) i) ++ encSf 4 (fv kk)).length), .int g31, .int g32])), (g29, .inl (cB, 1400, .inl f_14))] H := hP
        have hD : va_D A [(g7, .inl (cI, 16, .inl ft)), (g8, .inl (cI, 16, .inl fo)), (g9, .inl (cJ, 16, .inr (.inl fk))), (g10, .inl (cI, 16, .inl fd)), (g11, .inl (cI, 16, .inl fv)), (h, .inr (1, [.int g0, .int g1, .int g2, .int g3, .int (nI cn), .ref g5, .int g6, .ref g7, .ref g8, .ref g9, .ref g10, .ref g11, .int g12, .int g13, .int g14, .ref g15, .int g16, .ref g17, .ref g18, .ref g19, .ref g20, .ref g21, .ref g22, .int g23, .ref g24, .int g25, .int g26, .int g27, .int g28, .ref g29, .int (nI (bs0 ++ [((ft kk) + (8 * (fd kk))) &&& 255] ++ encUf 4 (refN (cn + kk) i) ++ encSf 4 (fv kk)).length), .int g31, .int g32])), (g29, .inl (cB, 1400, .inl f_14))] := hD
        refine lv_goto (tgt := 154) hx hb dd_M_layOperation_103 (by decide) ?_
        have hfin : bs0 ++ [((ft kk) + (8 * (fd kk))) &&& 255] ++ encUf 4 (refN (cn + kk) i) ++ encSf 4 (fv kk) = bs0 ++ encOp (cn + kk) (ft kk) (fd kk) (fo kk) (fk kk) (fv kk) := by rw [encOp, encKey, encVal, if_pos c_10, if_pos c_11, if_pos c_12, refOf_nI ei hi]; simp only [List.append_assoc, List.nil_append, List.append_nil, List.cons_append]
        have e_16 : (nI (bs0 ++ [((ft kk) + (8 * (fd kk))) &&& 255] ++ encUf 4 (refN (cn + kk) i) ++ encSf 4 (fv kk)).length : Int32) = nI (bs0 ++ encOp (cn + kk) (ft kk) (fd kk) (fo kk) (fk kk) (fv kk)).length := (by rw [hfin])
        have hP : va_P (dC, dI) vcl [(g7, .inl (cI, 16, .inl ft)), (g8, .inl (cI, 16, .inl fo)), (g9, .inl (cJ, 16, .inr (.inl fk))), (g10, .inl (cI, 16, .inl fd)), (g11, .inl (cI, 16, .inl fv)), (h, .inr (1, [.int g0, .int g1, .int g2, .int g3, .int (nI cn), .ref g5, .int g6, .ref g7, .ref g8, .ref g9, .ref g10, .ref g11, .int g12, .int g13, .int g14, .ref g15, .int g16, .ref g17, .ref g18, .ref g19, .ref g20, .ref g21, .ref g22, .int g23, .ref g24, .int g25, .int g26, .int g27, .int g28, .ref g29, .int (nI (bs0 ++ encOp (cn + kk) (ft kk) (fd kk) (fo kk) (fk kk) (fv kk)).length), .int g31, .int g32])), (g29, .inl (cB, 1400, .inl f_14))] H := by rw [← e_16]; exact hP
        have hD : va_D A [(g7, .inl (cI, 16, .inl ft)), (g8, .inl (cI, 16, .inl fo)), (g9, .inl (cJ, 16, .inr (.inl fk))), (g10, .inl (cI, 16, .inl fd)), (g11, .inl (cI, 16, .inl fv)), (h, .inr (1, [.int g0, .int g1, .int g2, .int g3, .int (nI cn), .ref g5, .int g6, .ref g7, .ref g8, .ref g9, .ref g10, .ref g11, .int g12, .int g13, .int g14, .ref g15, .int g16, .ref g17, .ref g18, .ref g19, .ref g20, .ref g21, .ref g22, .int g23, .ref g24, .int g25, .int g26, .int g27, .int g28, .ref g29, .int (nI (bs0 ++ encOp (cn + kk) (ft kk) (fd kk) (fo kk) (fk kk) (fv kk)).length), .int g31, .int g32])), (g29, .inl (cB, 1400, .inl f_14))] := by rw [← e_16]; exact hD
        have hP9 := hP.sub (ws' := [(h, .inr (1, [.int g0, .int g1, .int g2, .int g3, .int (nI cn), .ref g5, .int g6, .ref g7, .ref g8, .ref g9, .ref g10, .ref g11, .int g12, .int g13, .int g14, .ref g15, .int g16, .ref g17, .ref g18, .ref g19, .ref g20, .ref g21, .ref g22, .int g23, .ref g24, .int g25, .int g26, .int g27, .int g28, .ref g29, .int (nI (bs0 ++ encOp (cn + kk) (ft kk) (fd kk) (fo kk) (fk kk) (fv kk)).length), .int g31, .int g32])), (g29, .inl (cB, 1400, .inl f_14)), (g7, .inl (cI, 16, .inl ft)), (g8, .inl (cI, 16, .inl fo)), (g9, .inl (cJ, 16, .inr (.inl fk))), (g10, .inl (cI, 16, .inl fd)), (g11, .inl (cI, 16, .inl fv))]) [5, 6, 0, 1, 2, 3, 4] rfl
        have hD9 := hD.sub (ws' := [(h, .inr (1, [.int g0, .int g1, .int g2, .int g3, .int (nI cn), .ref g5, .int g6, .ref g7, .ref g8, .ref g9, .ref g10, .ref g11, .int g12, .int g13, .int g14, .ref g15, .int g16, .ref g17, .ref g18, .ref g19, .ref g20, .ref g21, .ref g22, .int g23, .ref g24, .int g25, .int g26, .int g27, .int g28, .ref g29, .int (nI (bs0 ++ encOp (cn + kk) (ft kk) (fd kk) (fo kk) (fk kk) (fv kk)).length), .int g31, .int g32])), (g29, .inl (cB, 1400, .inl f_14)), (g7, .inl (cI, 16, .inl ft)), (g8, .inl (cI, 16, .inl fo)), (g9, .inl (cJ, 16, .inr (.inl fk))), (g10, .inl (cI, 16, .inl fd)), (g11, .inl (cI, 16, .inl fv))]) [5, 6, 0, 1, 2, 3, 4] (by decide) rfl
        refine W.widen (k := 0) (n := 0) (by first | exact Nat.le_refl _ | omega) (by first | exact Nat.le_refl _ | omega) ?_
        exact W.vret hx hb hr (fun t ht hW => ⟨⟨f_14, rfl, (by rw [← hfin]; exact hq_15), by rw [ht]; exact hP9, va_K.moved hW.alike hK, hD9⟩, hS.F ht⟩) hS.2.2 dd_M_layOperation_154
      · refine lv_aload_n hx hb dd_M_layOperation_73 rfl (lv_at hl 1 rfl) ?_
        refine va_get (D := (dC, dI)) (ci := 1) (v := .ref g10) (C := RR_M) (T := TT_M) (N := 33) hx hb hw hh_M hown hK hP 5 rfl rfl 10 (by decide) (hw _ qq_589) (fun _ h9 => h9) rfl dd_M_layOperation_74 ?_
        refine lv_iload_n hx hb dd_M_layOperation_77 rfl (lv_at hl 2 rfl) ?_
        refine va_iald hx hb hK hP 3 1 rfl rfl (vp_in_nI (by omega) (by decide)) dd_M_layOperation_78 ?_
        refine lv_topi (fun z_17 hz_17 => ?_)
        obtain rfl : z_17 = fd kk := hz_17.trans ((by rw [nI_clamp (by omega)]))
        refine lv_iconst (v := 2) hx hb dd_M_layOperation_79 (by decide) ?_
        refine lv_icmp_eq (tgt := 93) hx hb dd_M_layOperation_80 (by decide) (fun c_18 => ?_) (fun c_18 => ?_)
        · refine lv_aload_n hx hb dd_M_layOperation_93 rfl (lv_at hl 1 rfl) ?_
          refine lv_aload_n hx hb dd_M_layOperation_94 rfl (lv_at hl 1 rfl) ?_
          refine va_get (D := (dC, dI)) (ci := 1) (v := .ref g11) (C := RR_M) (T := TT_M) (N := 33) hx hb hw hh_M hown hK hP 5 rfl rfl 11 (by decide) (hw _ qq_590) (fun _ h9 => h9) rfl dd_M_layOperation_95 ?_
          refine lv_iload_n hx hb dd_M_layOperation_98 rfl (lv_at hl 2 rfl) ?_
          refine va_iald hx hb hK hP 4 1 rfl rfl (vp_in_nI (by omega) (by decide)) dd_M_layOperation_99 ?_
          refine lv_topi (fun z_19 hz_19 => ?_)
          obtain rfl : z_19 = fv kk := hz_19.trans ((by rw [nI_clamp (by omega)]))
          have hPc := hP.sub (ws' := [(h, .inr (1, [.int g0, .int g1, .int g2, .int g3, .int (nI cn), .ref g5, .int g6, .ref g7, .ref g8, .ref g9, .ref g10, .ref g11, .int g12, .int g13, .int g14, .ref g15, .int g16, .ref g17, .ref g18, .ref g19, .ref g20, .ref g21, .ref g22, .int g23, .ref g24, .int g25, .int g26, .int g27, .int g28, .ref g29, .int (nI (bs0 ++ [((ft kk) + (8 * (fd kk))) &&& 255] ++ encUf 4 (refN (cn + kk) i)).length), .int g31, .int g32])), (g29, .inl (cB, 1400, .inl f_8))]) [5, 6] rfl
          have hDc := hD.sub (ws' := [(h, .inr (1, [.int g0, .int g1, .int g2, .int g3, .int (nI cn), .ref g5, .int g6, .ref g7, .ref g8, .ref g9, .ref g10, .ref g11, .int g12, .int g13, .int g14, .ref g15, .int g16, .ref g17, .ref g18, .ref g19, .ref g20, .ref g21, .ref g22, .int g23, .ref g24, .int g25, .int g26, .int g27, .int g28, .ref g29, .int (nI (bs0 ++ [((ft kk) + (8 * (fd kk))) &&& 255] ++ encUf 4 (refN (cn + kk) i)).length), .int g31, .int g32])), (g29, .inl (cB, 1400, .inl f_8))]) [5, 6] (by decide) rfl
          have hFc := va_free (wc := [(h, .inr (1, [.int g0, .int g1, .int g2, .int g3, .int (nI cn), .ref g5, .int g6, .ref g7, .ref g8, .ref g9, .ref g10, .ref g11, .int g12, .int g13, .int g14, .ref g15, .int g16, .ref g17, .ref g18, .ref g19, .ref g20, .ref g21, .ref g22, .int g23, .ref g24, .int g25, .int g26, .int g27, .int g28, .ref g29, .int (nI (bs0 ++ [((ft kk) + (8 * (fd kk))) &&& 255] ++ encUf 4 (refN (cn + kk) i)).length), .int g31, .int g32])), (g29, .inl (cB, 1400, .inl f_8))]) hD hS hA [5, 6] rfl
          refine va_callv (va_runV (As := [.int (fv kk)]) (rest := []) ⟨hx, hb, hml, hown, hw⟩ (cb_M_layS l dC dI cB cI cJ H.size h g0 g1 g2 g3 (nI cn) g6 g12 g13 g14 g16 g23 g25 g26 g27 g28 g31 g32 g5 g7 g8 g9 g10 g11 g15 g17 g18 g19 g20 g21 g22 g24 g29 f_8 (bs0 ++ [((ft kk) + (8 * (fd kk))) &&& 255] ++ encUf 4 (refN (cn + kk) i)) hq_9 (fv kk) (by have h1 := encUf_le 4 (refN (cn + kk) i); have h5 := encSf_le 4 (fv kk); simp only [List.length_append, List.length_cons, List.length_nil, encLk_len]; omega)) (kw_V 1 hw qq_755 qq_5 qq_758 qq_757 qs_M_layS rfl rfl (by decide +kernel) ⟨Nat.le_of_ble_eq_true rfl, Nat.le_of_ble_eq_true rfl⟩) ⟨fun a U g mk q => by obtain ⟨q0, q1, qP, qK, qD⟩ := q; exact ⟨q0, q1, qP, va_K.moved (u := U) (U := U.calling g mk a) (Vm.Alike.refl U.vm) qK, qD⟩, va_recv hK hPc (ci := 1) (q0 := 0) rfl rfl, fun U hU hW => ⟨rfl, by rw [hU], by rw [hU]; exact hPc, va_K.moved hW.alike hK, hDc.weaken (fun _ _ _ _ => trivial)⟩⟩ rfl rfl hl.1 rfl (lv_room (Nat.le_of_ble_eq_true rfl)) dd_M_layOperation_100 ⟨by first | exact Nat.le_of_ble_eq_true rfl | (simp only [headSpec]; omega), by first | exact Nat.le_of_ble_eq_true rfl | (simp only [headSpec]; omega)⟩) hS (fun q _ h => hFc q h) hFc (fun f_20 t H1 locs ht hvm hq_21 hB hz1 hk1 hS => ?_)
          obtain ⟨hP1, hK1, hD1⟩ := hB
          rw [ht] at hP1
          obtain ⟨hP, hD⟩ := va_join (wr := [(g7, .inl (cI, 16, .inl ft)), (g8, .inl (cI, 16, .inl fo)), (g9, .inl (cJ, 16, .inr (.inl fk))), (g10, .inl (cI, 16, .inl fd)), (g11, .inl (cI, 16, .inl fv))]) (w1 := [(h, .inr (1, [.int g0, .int g1, .int g2, .int g3, .int (nI cn), .ref g5, .int g6, .ref g7, .ref g8, .ref g9, .ref g10, .ref g11, .int g12, .int g13, .int g14, .ref g15, .int g16, .ref g17, .ref g18, .ref g19, .ref g20, .ref g21, .ref g22, .int g23, .ref g24, .int g25, .int g26, .int g27, .int g28, .ref g29, .int (nI (bs0 ++ [((ft kk) + (8 * (fd kk))) &&& 255] ++ encUf 4 (refN (cn + kk) i) ++ encSf 4 (fv kk)).length), .int g31, .int g32])), (g29, .inl (cB, 1400, .inl f_20))]) hP hD [5, 6] [0, 1, 2, 3, 4] rfl rfl (by decide) (by decide) hk1 hFc hP1 hD1
          clear hP1 hK1 hD1 ht hvm hz1 hk1 hPc hDc hFc
          generalize H1 = H at hP hS ⊢
          have hP : va_P (dC, dI) vcl [(g7, .inl (cI, 16, .inl ft)), (g8, .inl (cI, 16, .inl fo)), (g9, .inl (cJ, 16, .inr (.inl fk))), (g10, .inl (cI, 16, .inl fd)), (g11, .inl (cI, 16, .inl fv)), (h, .inr (1, [.int g0, .int g1, .int g2, .int g3, .int (nI cn), .ref g5, .int g6, .ref g7, .ref g8, .ref g9, .ref g10, .ref g11, .int g12, .int g13, .int g14, .ref g15, .int g16, .ref g17, .ref g18, .ref g19, .ref g20, .ref g21, .ref g22, .int g23, .ref g24, .int g25, .int g26, .int g27, .int g28, .ref g29, .int (nI (bs0 ++ [((ft kk) + (8 * (fd kk))) &&& 255] ++ encUf 4 (refN (cn + kk) i) ++ encSf 4 (fv kk)).length), .int g31, .int g32])), (g29, .inl (cB, 1400, .inl f_20))] H := hP
          have hD : va_D A [(g7, .inl (cI, 16, .inl ft)), (g8, .inl (cI, 16, .inl fo)), (g9, .inl (cJ, 16, .inr (.inl fk))), (g10, .inl (cI, 16, .inl fd)), (g11, .inl (cI, 16, .inl fv)), (h, .inr (1, [.int g0, .int g1, .int g2, .int g3, .int (nI cn), .ref g5, .int g6, .ref g7, .ref g8, .ref g9, .ref g10, .ref g11, .int g12, .int g13, .int g14, .ref g15, .int g16, .ref g17, .ref g18, .ref g19, .ref g20, .ref g21, .ref g22, .int g23, .ref g24, .int g25, .int g26, .int g27, .int g28, .ref g29, .int (nI (bs0 ++ [((ft kk) + (8 * (fd kk))) &&& 255] ++ encUf 4 (refN (cn + kk) i) ++ encSf 4 (fv kk)).length), .int g31, .int g32])), (g29, .inl (cB, 1400, .inl f_20))] := hD
          refine lv_goto (tgt := 154) hx hb dd_M_layOperation_103 (by decide) ?_
          have hfin : bs0 ++ [((ft kk) + (8 * (fd kk))) &&& 255] ++ encUf 4 (refN (cn + kk) i) ++ encSf 4 (fv kk) = bs0 ++ encOp (cn + kk) (ft kk) (fd kk) (fo kk) (fk kk) (fv kk) := by rw [encOp, encKey, encVal, if_pos c_10, if_pos c_11, if_neg c_12, if_pos c_18, refOf_nI ei hi]; simp only [List.append_assoc, List.nil_append, List.append_nil, List.cons_append]
          have e_22 : (nI (bs0 ++ [((ft kk) + (8 * (fd kk))) &&& 255] ++ encUf 4 (refN (cn + kk) i) ++ encSf 4 (fv kk)).length : Int32) = nI (bs0 ++ encOp (cn + kk) (ft kk) (fd kk) (fo kk) (fk kk) (fv kk)).length := (by rw [hfin])
          have hP : va_P (dC, dI) vcl [(g7, .inl (cI, 16, .inl ft)), (g8, .inl (cI, 16, .inl fo)), (g9, .inl (cJ, 16, .inr (.inl fk))), (g10, .inl (cI, 16, .inl fd)), (g11, .inl (cI, 16, .inl fv)), (h, .inr (1, [.int g0, .int g1, .int g2, .int g3, .int (nI cn), .ref g5, .int g6, .ref g7, .ref g8, .ref g9, .ref g10, .ref g11, .int g12, .int g13, .int g14, .ref g15, .int g16, .ref g17, .ref g18, .ref g19, .ref g20, .ref g21, .ref g22, .int g23, .ref g24, .int g25, .int g26, .int g27, .int g28, .ref g29, .int (nI (bs0 ++ encOp (cn + kk) (ft kk) (fd kk) (fo kk) (fk kk) (fv kk)).length), .int g31, .int g32])), (g29, .inl (cB, 1400, .inl f_20))] H := by rw [← e_22]; exact hP
          have hD : va_D A [(g7, .inl (cI, 16, .inl ft)), (g8, .inl (cI, 16, .inl fo)), (g9, .inl (cJ, 16, .inr (.inl fk))), (g10, .inl (cI, 16, .inl fd)), (g11, .inl (cI, 16, .inl fv)), (h, .inr (1, [.int g0, .int g1, .int g2, .int g3, .int (nI cn), .ref g5, .int g6, .ref g7, .ref g8, .ref g9, .ref g10, .ref g11, .int g12, .int g13, .int g14, .ref g15, .int g16, .ref g17, .ref g18, .ref g19, .ref g20, .ref g21, .ref g22, .int g23, .ref g24, .int g25, .int g26, .int g27, .int g28, .ref g29, .int (nI (bs0 ++ encOp (cn + kk) (ft kk) (fd kk) (fo kk) (fk kk) (fv kk)).length), .int g31, .int g32])), (g29, .inl (cB, 1400, .inl f_20))] := by rw [← e_22]; exact hD
          have hP9 := hP.sub (ws' := [(h, .inr (1, [.int g0, .int g1, .int g2, .int g3, .int (nI cn), .ref g5, .int g6, .ref g7, .ref g8, .ref g9, .ref g10, .ref g11, .int g12, .int g13, .int g14, .ref g15, .int g16, .ref g17, .ref g18, .ref g19, .ref g20, .ref g21, .ref g22, .int g23, .ref g24, .int g25, .int g26, .int g27, .int g28, .ref g29, .int (nI (bs0 ++ encOp (cn + kk) (ft kk) (fd kk) (fo kk) (fk kk) (fv kk)).length), .int g31, .int g32])), (g29, .inl (cB, 1400, .inl f_20)), (g7, .inl (cI, 16, .inl ft)), (g8, .inl (cI, 16, .inl fo)), (g9, .inl (cJ, 16, .inr (.inl fk))), (g10, .inl (cI, 16, .inl fd)), (g11, .inl (cI, 16, .inl fv))]) [5, 6, 0, 1, 2, 3, 4] rfl
          have hD9 := hD.sub (ws' := [(h, .inr (1, [.int g0, .int g1, .int g2, .int g3, .int (nI cn), .ref g5, .int g6, .ref g7, .ref g8, .ref g9, .ref g10, .ref g11, .int g12, .int g13, .int g14, .ref g15, .int g16, .ref g17, .ref g18, .ref g19, .ref g20, .ref g21, .ref g22, .int g23, .ref g24, .int g25, .int g26, .int g27, .int g28, .ref g29, .int (nI (bs0 ++ encOp (cn + kk) (ft kk) (fd kk) (fo kk) (fk kk) (fv kk)).length), .int g31, .int g32])), (g29, .inl (cB, 1400, .inl f_20)), (g7, .inl (cI, 16, .inl ft)), (g8, .inl (cI, 16, .inl fo)), (g9, .inl (cJ, 16, .inr (.inl fk))), (g10, .inl (cI, 16, .inl fd)), (g11, .inl (cI, 16, .inl fv))]) [5, 6, 0, 1, 2, 3, 4] (by decide) rfl
          refine W.widen (k := 0) (n := 0) (by first | exact Nat.le_refl _ | omega) (by first | exact Nat.le_refl _ | omega) ?_
          exact W.vret hx hb hr (fun t ht hW => ⟨⟨f_20, rfl, (by rw [← hfin]; exact hq_21), by rw [ht]; exact hP9, va_K.moved hW.alike hK, hD9⟩, hS.F ht⟩) hS.2.2 dd_M_layOperation_154
        · refine lv_aload_n hx hb dd_M_layOperation_83 rfl (lv_at hl 1 rfl) ?_
          refine va_get (D := (dC, dI)) (ci := 1) (v := .ref g10) (C := RR_M) (T := TT_M) (N := 33) hx hb hw hh_M hown hK hP 5 rfl rfl 10 (by decide) (hw _ qq_589) (fun _ h9 => h9) rfl dd_M_layOperation_84 ?_
          refine lv_iload_n hx hb dd_M_layOperation_87 rfl (lv_at hl 2 rfl) ?_
          refine va_iald hx hb hK hP 3 1 rfl rfl (vp_in_nI (by omega) (by decide)) dd_M_layOperation_88 ?_
          refine lv_topi (fun z_23 hz_23 => ?_)
          obtain rfl : z_23 = fd kk := hz_23.trans ((by rw [nI_clamp (by omega)]))
          refine lv_iconst (v := 4) hx hb dd_M_layOperation_89 (by decide) ?_
          refine lv_icmp_ne (tgt := 106) hx hb dd_M_layOperation_90 (by decide) (fun c_24 => ?_) (fun c_24 => ?_)
          · refine lv_aload_n hx hb dd_M_layOperation_106 rfl (lv_at hl 1 rfl) ?_
            refine va_get (D := (dC, dI)) (ci := 1) (v := .ref g10) (C := RR_M) (T := TT_M) (N := 33) hx hb hw hh_M hown hK hP 5 rfl rfl 10 (by decide) (hw _ qq_589) (fun _ h9 => h9) rfl dd_M_layOperation_107 ?_
            refine lv_iload_n hx hb dd_M_layOperation_110 rfl (lv_at hl 2 rfl) ?_
            refine va_iald hx hb hK hP 3 1 rfl rfl (vp_in_nI (by omega) (by decide)) dd_M_layOperation_111 ?_
            refine lv_topi (fun z_25 hz_25 => ?_)
            obtain rfl : z_25 = fd kk := hz_25.trans ((by rw [nI_clamp (by omega)]))
            refine lv_iconst (v := 1) hx hb dd_M_layOperation_112 (by decide) ?_
            refine lv_icmp_ne (tgt := 129) hx hb dd_M_layOperation_113 (by decide) (fun c_26 => ?_) (fun c_26 => ?_)
            · refine lv_aload_n hx hb dd_M_layOperation_129 rfl (lv_at hl 1 rfl) ?_
              refine va_get (D := (dC, dI)) (ci := 1) (v := .ref g10) (C := RR_M) (T := TT_M) (N := 33) hx hb hw hh_M hown hK hP 5 rfl rfl 10 (by decide) (hw _ qq_589) (fun _ h9 => h9) rfl dd_M_layOperation_130 ?_
              refine lv_iload_n hx hb dd_M_layOperation_133 rfl (lv_at hl 2 rfl) ?_
              refine va_iald hx hb hK hP 3 1 rfl rfl (vp_in_nI (by omega) (by decide)) dd_M_layOperation_134 ?_
              refine lv_topi (fun z_27 hz_27 => ?_)
              obtain rfl : z_27 = fd kk := hz_27.trans ((by rw [nI_clamp (by omega)]))
              refine lv_iconst (v := 3) hx hb dd_M_layOperation_135 (by decide) ?_
              refine lv_icmp_ne (tgt := 154) hx hb dd_M_layOperation_136 (by decide) (fun c_28 => ?_) (fun c_28 => ?_)
              · have hfin : bs0 ++ [((ft kk) + (8 * (fd kk))) &&& 255] ++ encUf 4 (refN (cn + kk) i) = bs0 ++ encOp (cn + kk) (ft kk) (fd kk) (fo kk) (fk kk) (fv kk) := by rw [encOp, encKey, encVal, if_pos c_10, if_pos c_11, if_neg c_12, if_neg c_18, if_neg c_24, if_neg c_26, if_neg c_28, refOf_nI ei hi]; simp only [List.append_assoc, List.nil_append, List.append_nil, List.cons_append]
                have e_29 : (nI (bs0 ++ [((ft kk) + (8 * (fd kk))) &&& 255] ++ encUf 4 (refN (cn + kk) i)).length : Int32) = nI (bs0 ++ encOp (cn + kk) (ft kk) (fd kk) (fo kk) (fk kk) (fv kk)).length := (by rw [hfin])
                have hP : va_P (dC, dI) vcl [(g7, .inl (cI, 16, .inl ft)), (g8, .inl (cI, 16, .inl fo)), (g9, .inl (cJ, 16, .inr (.inl fk))), (g10, .inl (cI, 16, .inl fd)), (g11, .inl (cI, 16, .inl fv)), (h, .inr (1, [.int g0, .int g1, .int g2, .int g3, .int (nI cn), .ref g5, .int g6, .ref g7, .ref g8, .ref g9, .ref g10, .ref g11, .int g12, .int g13, .int g14, .ref g15, .int g16, .ref g17, .ref g18, .ref g19, .ref g20, .ref g21, .ref g22, .int g23, .ref g24, .int g25, .int g26, .int g27, .int g28, .ref g29, .int (nI (bs0 ++ encOp (cn + kk) (ft kk) (fd kk) (fo kk) (fk kk) (fv kk)).length), .int g31, .int g32])), (g29, .inl (cB, 1400, .inl f_8))] H := by rw [← e_29]; exact hP
                have hD : va_D A [(g7, .inl (cI, 16, .inl ft)), (g8, .inl (cI, 16, .inl fo)), (g9, .inl (cJ, 16, .inr (.inl fk))), (g10, .inl (cI, 16, .inl fd)), (g11, .inl (cI, 16, .inl fv)), (h, .inr (1, [.int g0, .int g1, .int g2, .int g3, .int (nI cn), .ref g5, .int g6, .ref g7, .ref g8, .ref g9, .ref g10, .ref g11, .int g12, .int g13, .int g14, .ref g15, .int g16, .ref g17, .ref g18, .ref g19, .ref g20, .ref g21, .ref g22, .int g23, .ref g24, .int g25, .int g26, .int g27, .int g28, .ref g29, .int (nI (bs0 ++ encOp (cn + kk) (ft kk) (fd kk) (fo kk) (fk kk) (fv kk)).length), .int g31, .int g32])), (g29, .inl (cB, 1400, .inl f_8))] := by rw [← e_29]; exact hD
                have hP9 := hP.sub (ws' := [(h, .inr (1, [.int g0, .int g1, .int g2, .int g3, .int (nI cn), .ref g5, .int g6, .ref g7, .ref g8, .ref g9, .ref g10, .ref g11, .int g12, .int g13, .int g14, .ref g15, .int g16, .ref g17, .ref g18, .ref g19, .ref g20, .ref g21, .ref g22, .int g23, .ref g24, .int g25, .int g26, .int g27, .int g28, .ref g29, .int (nI (bs0 ++ encOp (cn + kk) (ft kk) (fd kk) (fo kk) (fk kk) (fv kk)).length), .int g31, .int g32])), (g29, .inl (cB, 1400, .inl f_8)), (g7, .inl (cI, 16, .inl ft)), (g8, .inl (cI, 16, .inl fo)), (g9, .inl (cJ, 16, .inr (.inl fk))), (g10, .inl (cI, 16, .inl fd)), (g11, .inl (cI, 16, .inl fv))]) [5, 6, 0, 1, 2, 3, 4] rfl
                have hD9 := hD.sub (ws' := [(h, .inr (1, [.int g0, .int g1, .int g2, .int g3, .int (nI cn), .ref g5, .int g6, .ref g7, .ref g8, .ref g9, .ref g10, .ref g11, .int g12, .int g13, .int g14, .ref g15, .int g16, .ref g17, .ref g18, .ref g19, .ref g20, .ref g21, .ref g22, .int g23, .ref g24, .int g25, .int g26, .int g27, .int g28, .ref g29, .int (nI (bs0 ++ encOp (cn + kk) (ft kk) (fd kk) (fo kk) (fk kk) (fv kk)).length), .int g31, .int g32])), (g29, .inl (cB, 1400, .inl f_8)), (g7, .inl (cI, 16, .inl ft)), (g8, .inl (cI, 16, .inl fo)), (g9, .inl (cJ, 16, .inr (.inl fk))), (g10, .inl (cI, 16, .inl fd)), (g11, .inl (cI, 16, .inl fv))]) [5, 6, 0, 1, 2, 3, 4] (by decide) rfl
                refine W.widen (k := 0) (n := 0) (by first | exact Nat.le_refl _ | omega) (by first | exact Nat.le_refl _ | omega) ?_
                exact W.vret hx hb hr (fun t ht hW => ⟨⟨f_8, rfl, (by rw [← hfin]; exact hq_9), by rw [ht]; exact hP9, va_K.moved hW.alike hK, hD9⟩, hS.F ht⟩) hS.2.2 dd_M_layOperation_154
              · refine lv_aload_n hx hb dd_M_layOperation_139 rfl (lv_at hl 1 rfl) ?_
                refine lv_aload_n hx hb dd_M_layOperation_140 rfl (lv_at hl 1 rfl) ?_
                refine va_get (D := (dC, dI)) (ci := 1) (v := .ref g11) (C := RR_M) (T := TT_M) (N := 33) hx hb hw hh_M hown hK hP 5 rfl rfl 11 (by decide) (hw _ qq_590) (fun _ h9 => h9) rfl dd_M_layOperation_141 ?_
                refine lv_iload_n hx hb dd_M_layOperation_144 rfl (lv_at hl 2 rfl) ?_
                refine va_iald hx hb hK hP 4 1 rfl rfl (vp_in_nI (by omega) (by decide)) dd_M_layOperation_145 ?_
                refine lv_topi (fun z_30 hz_30 => ?_)
                obtain rfl : z_30 = fv kk := hz_30.trans ((by rw [nI_clamp (by omega)]))
                refine lv_i2l (v := (fv kk).toInt64) hx hb dd_M_layOperation_146 rfl ?_
                refine lv_ldc2 (v := 4294967295) hx hb hown (hw _ qq_718) dd_M_layOperation_147 ?_
                refine lv_land hx hb dd_M_layOperation_150 ?_
                obtain ⟨n2, hn2⟩ := hkv c_28
                have hn28 := ltrs_le 8 _ n2 hn2
                have hPc := hP.sub (ws' := [(h, .inr (1, [.int g0, .int g1, .int g2, .int g3, .int (nI cn), .ref g5, .int g6, .ref g7, .ref g8, .ref g9, .ref g10, .ref g11, .int g12, .int g13, .int g14, .ref g15, .int g16, .ref g17, .ref g18, .ref g19, .ref g20, .ref g21, .ref g22, .int g23, .ref g24, .int g25, .int g26, .int g27, .int g28, .ref g29, .int (nI (bs0 ++ [((ft kk) + (8 * (fd kk))) &&& 255] ++ encUf 4 (refN (cn + kk) i)).length), .int g31, .int g32])), (g29, .inl (cB, 1400, .inl f_8))]) [5, 6] rfl
                have hDc := hD.sub (ws' := [(h, .inr (1, [.int g0, .int g1, .int g2, .int g3, .int (nI cn), .ref g5, .int g6, .ref g7, .ref g8, .ref g9, .ref g10, .ref g11, .int g12, .int g13, .int g14, .ref g15, .int g16, .ref g17, .ref g18, .ref g19, .ref g20, .ref g21, .ref g22, .int g23, .ref g24, .int g25, .int g26, .int g27, .int g28, .ref g29, .int (nI (bs0 ++ [((ft kk) + (8 * (fd kk))) &&& 255] ++ encUf 4 (refN (cn + kk) i)).length), .int g31, .int g32])), (g29, .inl (cB, 1400, .inl f_8))]) [5, 6] (by decide) rfl
                have hFc := va_free (wc := [(h, .inr (1, [.int g0, .int g1, .int g2, .int g3, .int (nI cn), .ref g5, .int g6, .ref g7, .ref g8, .ref g9, .ref g10, .ref g11, .int g12, .int g13, .int g14, .ref g15, .int g16, .ref g17, .ref g18, .ref g19, .ref g20, .ref g21, .ref g22, .int g23, .ref g24, .int g25, .int g26, .int g27, .int g28, .ref g29, .int (nI (bs0 ++ [((ft kk) + (8 * (fd kk))) &&& 255] ++ encUf 4 (refN (cn + kk) i)).length), .int g31, .int g32])), (g29, .inl (cB, 1400, .inl f_8))]) hD hS hA [5, 6] rfl
                refine va_callv (va_runV (As := [.long (((fv kk).toInt64) &&& 4294967295)]) (rest := []) ⟨hx, hb, hml, hown, hw⟩ (cb_M_layLetters l dC dI cB cI cJ H.size h g0 g1 g2 g3 (nI cn) g6 g12 g13 g14 g16 g23 g25 g26 g27 g28 g31 g32 g5 g7 g8 g9 g10 g11 g15 g17 g18 g19 g20 g21 g22 g24 g29 f_8 (bs0 ++ [((ft kk) + (8 * (fd kk))) &&& 255] ++ encUf 4 (refN (cn + kk) i)) hq_9 (((fv kk).toInt64) &&& 4294967295) n2 hn2 (by have h1 := encUf_le 4 (refN (cn + kk) i); simp only [List.length_append, List.length_cons, List.length_nil, encLk_len]; omega)) (kw_V 1 hw qq_751 qq_5 qq_754 qq_753 qs_M_layLetters rfl rfl (by decide +kernel) ⟨Nat.le_of_ble_eq_true rfl, Nat.le_of_ble_eq_true rfl⟩) ⟨fun a U g mk q => by obtain ⟨q0, q1, qP, qK, qD⟩ := q; exact ⟨q0, q1, qP, va_K.moved (u := U) (U := U.calling g mk a) (Vm.Alike.refl U.vm) qK, qD⟩, va_recv hK hPc (ci := 1) (q0 := 0) rfl rfl, fun U hU hW => ⟨rfl, by rw [hU], by rw [hU]; exact hPc, va_K.moved hW.alike hK, hDc.weaken (fun _ _ _ _ => trivial)⟩⟩ rfl rfl hl.1 rfl (lv_room (Nat.le_of_ble_eq_true rfl)) dd_M_layOperation_151 ⟨by first | exact Nat.le_of_ble_eq_true rfl | (simp only [headSpec]; omega), by first | exact Nat.le_of_ble_eq_true rfl | (simp only [headSpec]; omega)⟩) hS (fun q _ h => hFc q h) hFc (fun f_31 t H1 locs ht hvm hq_32 hB hz1 hk1 hS => ?_)
                obtain ⟨hP1, hK1, hD1⟩ := hB
                rw [ht] at hP1
                obtain ⟨hP, hD⟩ := va_join (wr := [(g7, .inl (cI, 16, .inl ft)), (g8, .inl (cI, 16, .inl fo)), (g9, .inl (cJ, 16, .inr (.inl fk))), (g10, .inl (cI, 16, .inl fd)), (g11, .inl (cI, 16, .inl fv))]) (w1 := [(h, .inr (1, [.int g0, .int g1, .int g2, .int g3, .int (nI cn), .ref g5, .int g6, .ref g7, .ref g8, .ref g9, .ref g10, .ref g11, .int g12, .int g13, .int g14, .ref g15, .int g16, .ref g17, .ref g18, .ref g19, .ref g20, .ref g21, .ref g22, .int g23, .ref g24, .int g25, .int g26, .int g27, .int g28, .ref g29, .int (nI (bs0 ++ [((ft kk) + (8 * (fd kk))) &&& 255] ++ encUf 4 (refN (cn + kk) i) ++ (nI n2 :: encLk n2 (((fv kk).toInt64) &&& 4294967295))).length), .int g31, .int g32])), (g29, .inl (cB, 1400, .inl f_31))]) hP hD [5, 6] [0, 1, 2, 3, 4] rfl rfl (by decide) (by decide) hk1 hFc hP1 hD1
                clear hP1 hK1 hD1 ht hvm hz1 hk1 hPc hDc hFc
                generalize H1 = H at hP hS ⊢
                have hP : va_P (dC, dI) vcl [(g7, .inl (cI, 16, .inl ft)), (g8, .inl (cI, 16, .inl fo)), (g9, .inl (cJ, 16, .inr (.inl fk))), (g10, .inl (cI, 16, .inl fd)), (g11, .inl (cI, 16, .inl fv)), (h, .inr (1, [.int g0, .int g1, .int g2, .int g3, .int (nI cn), .ref g5, .int g6, .ref g7, .ref g8, .ref g9, .ref g10, .ref g11, .int g12, .int g13, .int g14, .ref g15, .int g16, .ref g17, .ref g18, .ref g19, .ref g20, .ref g21, .ref g22, .int g23, .ref g24, .int g25, .int g26, .int g27, .int g28, .ref g29, .int (nI (bs0 ++ [((ft kk) + (8 * (fd kk))) &&& 255] ++ encUf 4 (refN (cn + kk) i) ++ (nI n2 :: encLk n2 (((fv kk).toInt64) &&& 4294967295))).length), .int g31, .int g32])), (g29, .inl (cB, 1400, .inl f_31))] H := hP
                have hD : va_D A [(g7, .inl (cI, 16, .inl ft)), (g8, .inl (cI, 16, .inl fo)), (g9, .inl (cJ, 16, .inr (.inl fk))), (g10, .inl (cI, 16, .inl fd)), (g11, .inl (cI, 16, .inl fv)), (h, .inr (1, [.int g0, .int g1, .int g2, .int g3, .int (nI cn), .ref g5, .int g6, .ref g7, .ref g8, .ref g9, .ref g10, .ref g11, .int g12, .int g13, .int g14, .ref g15, .int g16, .ref g17, .ref g18, .ref g19, .ref g20, .ref g21, .ref g22, .int g23, .ref g24, .int g25, .int g26, .int g27, .int g28, .ref g29, .int (nI (bs0 ++ [((ft kk) + (8 * (fd kk))) &&& 255] ++ encUf 4 (refN (cn + kk) i) ++ (nI n2 :: encLk n2 (((fv kk).toInt64) &&& 4294967295))).length), .int g31, .int g32])), (g29, .inl (cB, 1400, .inl f_31))] := hD
                have hfin : bs0 ++ [((ft kk) + (8 * (fd kk))) &&& 255] ++ encUf 4 (refN (cn + kk) i) ++ (nI n2 :: encLk n2 (((fv kk).toInt64) &&& 4294967295)) = bs0 ++ encOp (cn + kk) (ft kk) (fd kk) (fo kk) (fk kk) (fv kk) := by rw [encOp, encKey, encVal, if_pos c_10, if_pos c_11, if_neg c_12, if_neg c_18, if_neg c_24, if_neg c_26, if_pos c_28, refOf_nI ei hi, encLt_some hn2]; simp only [List.append_assoc, List.nil_append, List.append_nil, List.cons_append]
                have e_33 : (nI (bs0 ++ [((ft kk) + (8 * (fd kk))) &&& 255] ++ encUf 4 (refN (cn + kk) i) ++ (nI n2 :: encLk n2 (((fv kk).toInt64) &&& 4294967295))).length : Int32) = nI (bs0 ++ encOp (cn + kk) (ft kk) (fd kk) (fo kk) (fk kk) (fv kk)).length := (by rw [hfin])
                have hP : va_P (dC, dI) vcl [(g7, .inl (cI, 16, .inl ft)), (g8, .inl (cI, 16, .inl fo)), (g9, .inl (cJ, 16, .inr (.inl fk))), (g10, .inl (cI, 16, .inl fd)), (g11, .inl (cI, 16, .inl fv)), (h, .inr (1, [.int g0, .int g1, .int g2, .int g3, .int (nI cn), .ref g5, .int g6, .ref g7, .ref g8, .ref g9, .ref g10, .ref g11, .int g12, .int g13, .int g14, .ref g15, .int g16, .ref g17, .ref g18, .ref g19, .ref g20, .ref g21, .ref g22, .int g23, .ref g24, .int g25, .int g26, .int g27, .int g28, .ref g29, .int (nI (bs0 ++ encOp (cn + kk) (ft kk) (fd kk) (fo kk) (fk kk) (fv kk)).length), .int g31, .int g32])), (g29, .inl (cB, 1400, .inl f_31))] H := by rw [← e_33]; exact hP
                have hD : va_D A [(g7, .inl (cI, 16, .inl ft)), (g8, .inl (cI, 16, .inl fo)), (g9, .inl (cJ, 16, .inr (.inl fk))), (g10, .inl (cI, 16, .inl fd)), (g11, .inl (cI, 16, .inl fv)), (h, .inr (1, [.int g0, .int g1, .int g2, .int g3, .int (nI cn), .ref g5, .int g6, .ref g7, .ref g8, .ref g9, .ref g10, .ref g11, .int g12, .int g13, .int g14, .ref g15, .int g16, .ref g17, .ref g18, .ref g19, .ref g20, .ref g21, .ref g22, .int g23, .ref g24, .int g25, .int g26, .int g27, .int g28, .ref g29, .int (nI (bs0 ++ encOp (cn + kk) (ft kk) (fd kk) (fo kk) (fk kk) (fv kk)).length), .int g31, .int g32])), (g29, .inl (cB, 1400, .inl f_31))] := by rw [← e_33]; exact hD
                have hP9 := hP.sub (ws' := [(h, .inr (1, [.int g0, .int g1, .int g2, .int g3, .int (nI cn), .ref g5, .int g6, .ref g7, .ref g8, .ref g9, .ref g10, .ref g11, .int g12, .int g13, .int g14, .ref g15, .int g16, .ref g17, .ref g18, .ref g19, .ref g20, .ref g21, .ref g22, .int g23, .ref g24, .int g25, .int g26, .int g27, .int g28, .ref g29, .int (nI (bs0 ++ encOp (cn + kk) (ft kk) (fd kk) (fo kk) (fk kk) (fv kk)).length), .int g31, .int g32])), (g29, .inl (cB, 1400, .inl f_31)), (g7, .inl (cI, 16, .inl ft)), (g8, .inl (cI, 16, .inl fo)), (g9, .inl (cJ, 16, .inr (.inl fk))), (g10, .inl (cI, 16, .inl fd)), (g11, .inl (cI, 16, .inl fv))]) [5, 6, 0, 1, 2, 3, 4] rfl
                have hD9 := hD.sub (ws' := [(h, .inr (1, [.int g0, .int g1, .int g2, .int g3, .int (nI cn), .ref g5, .int g6, .ref g7, .ref g8, .ref g9, .ref g10, .ref g11, .int g12, .int g13, .int g14, .ref g15, .int g16, .ref g17, .ref g18, .ref g19, .ref g20, .ref g21, .ref g22, .int g23, .ref g24, .int g25, .int g26, .int g27, .int g28, .ref g29, .int (nI (bs0 ++ encOp (cn + kk) (ft kk) (fd kk) (fo kk) (fk kk) (fv kk)).length), .int g31, .int g32])), (g29, .inl (cB, 1400, .inl f_31)), (g7, .inl (cI, 16, .inl ft)), (g8, .inl (cI, 16, .inl fo)), (g9, .inl (cJ, 16, .inr (.inl fk))), (g10, .inl (cI, 16, .inl fd)), (g11, .inl (cI, 16, .inl fv))]) [5, 6, 0, 1, 2, 3, 4] (by decide) rfl
                refine W.widen (k := 0) (n := 0) (by first | exact Nat.le_refl _ | omega) (by first | exact Nat.le_refl _ | omega) ?_
                exact W.vret hx hb hr (fun t ht hW => ⟨⟨f_31, rfl, (by rw [← hfin]; exact hq_32), by rw [ht]; exact hP9, va_K.moved hW.alike hK, hD9⟩, hS.F ht⟩) hS.2.2 dd_M_layOperation_154
            · refine lv_aload_n hx hb dd_M_layOperation_116 rfl (lv_at hl 1 rfl) ?_
              refine lv_aload_n hx hb dd_M_layOperation_117 rfl (lv_at hl 1 rfl) ?_
              refine va_get (D := (dC, dI)) (ci := 1) (v := .ref g11) (C := RR_M) (T := TT_M) (N := 33) hx hb hw hh_M hown hK hP 5 rfl rfl 11 (by decide) (hw _ qq_590) (fun _ h9 => h9) rfl dd_M_layOperation_118 ?_
              refine lv_iload_n hx hb dd_M_layOperation_121 rfl (lv_at hl 2 rfl) ?_
              refine va_iald hx hb hK hP 4 1 rfl rfl (vp_in_nI (by omega) (by decide)) dd_M_layOperation_122 ?_
              refine lv_topi (fun z_34 hz_34 => ?_)
              obtain rfl : z_34 = fv kk := hz_34.trans ((by rw [nI_clamp (by omega)]))
              have hPc := hP.sub (ws' := [(h, .inr (1, [.int g0, .int g1, .int g2, .int g3, .int (nI cn), .ref g5, .int g6, .ref g7, .ref g8, .ref g9, .ref g10, .ref g11, .int g12, .int g13, .int g14, .ref g15, .int g16, .ref g17, .ref g18, .ref g19, .ref g20, .ref g21, .ref g22, .int g23, .ref g24, .int g25, .int g26, .int g27, .int g28, .ref g29, .int (nI (bs0 ++ [((ft kk) + (8 * (fd kk))) &&& 255] ++ encUf 4 (refN (cn + kk) i)).length), .int g31, .int g32])), (g29, .inl (cB, 1400, .inl f_8))]) [5, 6] rfl
              have hDc := hD.sub (ws' := [(h, .inr (1, [.int g0, .int g1, .int g2, .int g3, .int (nI cn), .ref g5, .int g6, .ref g7, .ref g8, .ref g9, .ref g10, .ref g11, .int g12, .int g13, .int g14, .ref g15, .int g16, .ref g17, .ref g18, .ref g19, .ref g20, .ref g21, .ref g22, .int g23, .ref g24, .int g25, .int g26, .int g27, .int g28, .ref g29, .int (nI (bs0 ++ [((ft kk) + (8 * (fd kk))) &&& 255] ++ encUf 4 (refN (cn + kk) i)).length), .int g31, .int g32])), (g29, .inl (cB, 1400, .inl f_8))]) [5, 6] (by decide) rfl
              have hFc := va_free (wc := [(h, .inr (1, [.int g0, .int g1, .int g2, .int g3, .int (nI cn), .ref g5, .int g6, .ref g7, .ref g8, .ref g9, .ref g10, .ref g11, .int g12, .int g13, .int g14, .ref g15, .int g16, .ref g17, .ref g18, .ref g19, .ref g20, .ref g21, .ref g22, .int g23, .ref g24, .int g25, .int g26, .int g27, .int g28, .ref g29, .int (nI (bs0 ++ [((ft kk) + (8 * (fd kk))) &&& 255] ++ encUf 4 (refN (cn + kk) i)).length), .int g31, .int g32])), (g29, .inl (cB, 1400, .inl f_8))]) hD hS hA [5, 6] rfl
              refine va_callv (va_runV (As := [.int (fv kk)]) (rest := []) ⟨hx, hb, hml, hown, hw⟩ (cb_M_lay l dC dI cB cI cJ H.size h g0 g1 g2 g3 (nI cn) g6 g12 g13 g14 g16 g23 g25 g26 g27 g28 g31 g32 g5 g7 g8 g9 g10 g11 g15 g17 g18 g19 g20 g21 g22 g24 g29 f_8 (bs0 ++ [((ft kk) + (8 * (fd kk))) &&& 255] ++ encUf 4 (refN (cn + kk) i)) hq_9 (fv kk) (by have h1 := encUf_le 4 (refN (cn + kk) i); have h2 := encKey_le (cn + kk) (ft kk) (fk kk); simp only [List.length_append, List.length_cons, List.length_nil, encLk_len]; omega)) (kw_V 1 hw qq_735 qq_5 qq_738 qq_737 qs_M_lay rfl rfl (by decide +kernel) ⟨Nat.le_of_ble_eq_true rfl, Nat.le_of_ble_eq_true rfl⟩) ⟨fun a U g mk q => by obtain ⟨q0, q1, qP, qK, qD⟩ := q; exact ⟨q0, q1, qP, va_K.moved (u := U) (U := U.calling g mk a) (Vm.Alike.refl U.vm) qK, qD⟩, va_recv hK hPc (ci := 1) (q0 := 0) rfl rfl, fun U hU hW => ⟨rfl, by rw [hU], by rw [hU]; exact hPc, va_K.moved hW.alike hK, hDc.weaken (fun _ _ _ _ => trivial)⟩⟩ rfl rfl hl.1 rfl (lv_room (Nat.le_of_ble_eq_true rfl)) dd_M_layOperation_123 ⟨by first | exact Nat.le_of_ble_eq_true rfl | (simp only [headSpec]; omega), by first | exact Nat.le_of_ble_eq_true rfl | (simp only [headSpec]; omega)⟩) hS (fun q _ h => hFc q h) hFc (fun f_35 t H1 locs ht hvm hq_36 hB hz1 hk1 hS => ?_)
              obtain ⟨hP1, hK1, hD1⟩ := hB
              rw [ht] at hP1
              obtain ⟨hP, hD⟩ := va_join (wr := [(g7, .inl (cI, 16, .inl ft)), (g8, .inl (cI, 16, .inl fo)), (g9, .inl (cJ, 16, .inr (.inl fk))), (g10, .inl (cI, 16, .inl fd)), (g11, .inl (cI, 16, .inl fv))]) (w1 := [(h, .inr (1, [.int g0, .int g1, .int g2, .int g3, .int (nI cn), .ref g5, .int g6, .ref g7, .ref g8, .ref g9, .ref g10, .ref g11, .int g12, .int g13, .int g14, .ref g15, .int g16, .ref g17, .ref g18, .ref g19, .ref g20, .ref g21, .ref g22, .int g23, .ref g24, .int g25, .int g26, .int g27, .int g28, .ref g29, .int (nI ((bs0 ++ [((ft kk) + (8 * (fd kk))) &&& 255] ++ encUf 4 (refN (cn + kk) i)).length + 1)), .int g31, .int g32])), (g29, .inl (cB, 1400, .inl f_35))]) hP hD [5, 6] [0, 1, 2, 3, 4] rfl rfl (by decide) (by decide) hk1 hFc hP1 hD1
              clear hP1 hK1 hD1 ht hvm hz1 hk1 hPc hDc hFc
              generalize H1 = H at hP hS ⊢
              have hP : va_P (dC, dI) vcl [(g7, .inl (cI, 16, .inl ft)), (g8, .inl (cI, 16, .inl fo)), (g9, .inl (cJ, 16, .inr (.inl fk))), (g10, .inl (cI, 16, .inl fd)), (g11, .inl (cI, 16, .inl fv)), (h, .inr (1, [.int g0, .int g1, .int g2, .int g3, .int (nI cn), .ref g5, .int g6, .ref g7, .ref g8, .ref g9, .ref g10, .ref g11, .int g12, .int g13, .int g14, .ref g15, .int g16, .ref g17, .ref g18, .ref g19, .ref g20, .ref g21, .ref g22, .int g23, .ref g24, .int g25, .int g26, .int g27, .int g28, .ref g29, .int (nI ((bs0 ++ [((ft kk) + (8 * (fd kk))) &&& 255] ++ encUf 4 (refN (cn + kk) i)).length + 1)), .int g31, .int g32])), (g29, .inl (cB, 1400, .inl f_35))] H := hP
              have hD : va_D A [(g7, .inl (cI, 16, .inl ft)), (g8, .inl (cI, 16, .inl fo)), (g9, .inl (cJ, 16, .inr (.inl fk))), (g10, .inl (cI, 16, .inl fd)), (g11, .inl (cI, 16, .inl fv)), (h, .inr (1, [.int g0, .int g1, .int g2, .int g3, .int (nI cn), .ref g5, .int g6, .ref g7, .ref g8, .ref g9, .ref g10, .ref g11, .int g12, .int g13, .int g14, .ref g15, .int g16, .ref g17, .ref g18, .ref g19, .ref g20, .ref g21, .ref g22, .int g23, .ref g24, .int g25, .int g26, .int g27, .int g28, .ref g29, .int (nI ((bs0 ++ [((ft kk) + (8 * (fd kk))) &&& 255] ++ encUf 4 (refN (cn + kk) i)).length + 1)), .int g31, .int g32])), (g29, .inl (cB, 1400, .inl f_35))] := hD
              have hq_36 : Hd (bs0 ++ [((ft kk) + (8 * (fd kk))) &&& 255] ++ encUf 4 (refN (cn + kk) i) ++ [(fv kk) &&& 255]) f_35 := by exact hq_36
              have e_37 : (nI ((bs0 ++ [((ft kk) + (8 * (fd kk))) &&& 255] ++ encUf 4 (refN (cn + kk) i)).length + 1) : Int32) = nI (bs0 ++ [((ft kk) + (8 * (fd kk))) &&& 255] ++ encUf 4 (refN (cn + kk) i) ++ [(fv kk) &&& 255]).length := (by simp only [List.length_append, List.length_cons, List.length_nil])
              have hP : va_P (dC, dI) vcl [(g7, .inl (cI, 16, .inl ft)), (g8, .inl (cI, 16, .inl fo)), (g9, .inl (cJ, 16, .inr (.inl fk))), (g10, .inl (cI, 16, .inl fd)), (g11, .inl (cI, 16, .inl fv)), (h, .inr (1, [.int g0, .int g1, .int g2, .int g3, .int (nI cn), .ref g5, .int g6, .ref g7, .ref g8, .ref g9, .ref g10, .ref g11, .int g12, .int g13, .int g14, .ref g15, .int g16, .ref g17, .ref g18, .ref g19, .ref g20, .ref g21, .ref g22, .int g23, .ref g24, .int g25, .int g26, .int g27, .int g28, .ref g29, .int (nI (bs0 ++ [((ft kk) + (8 * (fd kk))) &&& 255] ++ encUf 4 (refN (cn + kk) i) ++ [(fv kk) &&& 255]).length), .int g31, .int g32])), (g29, .inl (cB, 1400, .inl f_35))] H := by rw [← e_37]; exact hP
              have hD : va_D A [(g7, .inl (cI, 16, .inl ft)), (g8, .inl (cI, 16, .inl fo)), (g9, .inl (cJ, 16, .inr (.inl fk))), (g10, .inl (cI, 16, .inl fd)), (g11, .inl (cI, 16, .inl fv)), (h, .inr (1, [.int g0, .int g1, .int g2, .int g3, .int (nI cn), .ref g5, .int g6, .ref g7, .ref g8, .ref g9, .ref g10, .ref g11, .int g12, .int g13, .int g14, .ref g15, .int g16, .ref g17, .ref g18, .ref g19, .ref g20, .ref g21, .ref g22, .int g23, .ref g24, .int g25, .int g26, .int g27, .int g28, .ref g29, .int (nI (bs0 ++ [((ft kk) + (8 * (fd kk))) &&& 255] ++ encUf 4 (refN (cn + kk) i) ++ [(fv kk) &&& 255]).length), .int g31, .int g32])), (g29, .inl (cB, 1400, .inl f_35))] := by rw [← e_37]; exact hD
              refine lv_goto (tgt := 154) hx hb dd_M_layOperation_126 (by decide) ?_
              have hfin : bs0 ++ [((ft kk) + (8 * (fd kk))) &&& 255] ++ encUf 4 (refN (cn + kk) i) ++ [(fv kk) &&& 255] = bs0 ++ encOp (cn + kk) (ft kk) (fd kk) (fo kk) (fk kk) (fv kk) := by rw [encOp, encKey, encVal, if_pos c_10, if_pos c_11, if_neg c_12, if_neg c_18, if_neg c_24, if_pos c_26, refOf_nI ei hi]; simp only [List.append_assoc, List.nil_append, List.append_nil, List.cons_append]
              have e_38 : (nI (bs0 ++ [((ft kk) + (8 * (fd kk))) &&& 255] ++ encUf 4 (refN (cn + kk) i) ++ [(fv kk) &&& 255]).length : Int32) = nI (bs0 ++ encOp (cn + kk) (ft kk) (fd kk) (fo kk) (fk kk) (fv kk)).length := (by rw [hfin])
              have hP : va_P (dC, dI) vcl [(g7, .inl (cI, 16, .inl ft)), (g8, .inl (cI, 16, .inl fo)), (g9, .inl (cJ, 16, .inr (.inl fk))), (g10, .inl (cI, 16, .inl fd)), (g11, .inl (cI, 16, .inl fv)), (h, .inr (1, [.int g0, .int g1, .int g2, .int g3, .int (nI cn), .ref g5, .int g6, .ref g7, .ref g8, .ref g9, .ref g10, .ref g11, .int g12, .int g13, .int g14, .ref g15, .int g16, .ref g17, .ref g18, .ref g19, .ref g20, .ref g21, .ref g22, .int g23, .ref g24, .int g25, .int g26, .int g27, .int g28, .ref g29, .int (nI (bs0 ++ encOp (cn + kk) (ft kk) (fd kk) (fo kk) (fk kk) (fv kk)).length), .int g31, .int g32])), (g29, .inl (cB, 1400, .inl f_35))] H := by rw [← e_38]; exact hP
              have hD : va_D A [(g7, .inl (cI, 16, .inl ft)), (g8, .inl (cI, 16, .inl fo)), (g9, .inl (cJ, 16, .inr (.inl fk))), (g10, .inl (cI, 16, .inl fd)), (g11, .inl (cI, 16, .inl fv)), (h, .inr (1, [.int g0, .int g1, .int g2, .int g3, .int (nI cn), .ref g5, .int g6, .ref g7, .ref g8, .ref g9, .ref g10, .ref g11, .int g12, .int g13, .int g14, .ref g15, .int g16, .ref g17, .ref g18, .ref g19, .ref g20, .ref g21, .ref g22, .int g23, .ref g24, .int g25, .int g26, .int g27, .int g28, .ref g29, .int (nI (bs0 ++ encOp (cn + kk) (ft kk) (fd kk) (fo kk) (fk kk) (fv kk)).length), .int g31, .int g32])), (g29, .inl (cB, 1400, .inl f_35))] := by rw [← e_38]; exact hD
              have hP9 := hP.sub (ws' := [(h, .inr (1, [.int g0, .int g1, .int g2, .int g3, .int (nI cn), .ref g5, .int g6, .ref g7, .ref g8, .ref g9, .ref g10, .ref g11, .int g12, .int g13, .int g14, .ref g15, .int g16, .ref g17, .ref g18, .ref g19, .ref g20, .ref g21, .ref g22, .int g23, .ref g24, .int g25, .int g26, .int g27, .int g28, .ref g29, .int (nI (bs0 ++ encOp (cn + kk) (ft kk) (fd kk) (fo kk) (fk kk) (fv kk)).length), .int g31, .int g32])), (g29, .inl (cB, 1400, .inl f_35)), (g7, .inl (cI, 16, .inl ft)), (g8, .inl (cI, 16, .inl fo)), (g9, .inl (cJ, 16, .inr (.inl fk))), (g10, .inl (cI, 16, .inl fd)), (g11, .inl (cI, 16, .inl fv))]) [5, 6, 0, 1, 2, 3, 4] rfl
              have hD9 := hD.sub (ws' := [(h, .inr (1, [.int g0, .int g1, .int g2, .int g3, .int (nI cn), .ref g5, .int g6, .ref g7, .ref g8, .ref g9, .ref g10, .ref g11, .int g12, .int g13, .int g14, .ref g15, .int g16, .ref g17, .ref g18, .ref g19, .ref g20, .ref g21, .ref g22, .int g23, .ref g24, .int g25, .int g26, .int g27, .int g28, .ref g29, .int (nI (bs0 ++ encOp (cn + kk) (ft kk) (fd kk) (fo kk) (fk kk) (fv kk)).length), .int g31, .int g32])), (g29, .inl (cB, 1400, .inl f_35)), (g7, .inl (cI, 16, .inl ft)), (g8, .inl (cI, 16, .inl fo)), (g9, .inl (cJ, 16, .inr (.inl fk))), (g10, .inl (cI, 16, .inl fd)), (g11, .inl (cI, 16, .inl fv))]) [5, 6, 0, 1, 2, 3, 4] (by decide) rfl
              refine W.widen (k := 0) (n := 0) (by first | exact Nat.le_refl _ | omega) (by first | exact Nat.le_refl _ | omega) ?_
              exact W.vret hx hb hr (fun t ht hW => ⟨⟨f_35, rfl, (by rw [← hfin]; exact hq_36), by rw [ht]; exact hP9, va_K.moved hW.alike hK, hD9⟩, hS.F ht⟩) hS.2.2 dd_M_layOperation_154
          · refine lv_aload_n hx hb dd_M_layOperation_93 rfl (lv_at hl 1 rfl) ?_
            refine lv_aload_n hx hb dd_M_layOperation_94 rfl (lv_at hl 1 rfl) ?_
            refine va_get (D := (dC, dI)) (ci := 1) (v := .ref g11) (C := RR_M) (T := TT_M) (N := 33) hx hb hw hh_M hown hK hP 5 rfl rfl 11 (by decide) (hw _ qq_590) (fun _ h9 => h9) rfl dd_M_layOperation_95 ?_
            refine lv_iload_n hx hb dd_M_layOperation_98 rfl (lv_at hl 2 rfl) ?_
            refine va_iald hx hb hK hP 4 1 rfl rfl (vp_in_nI (by omega) (by decide)) dd_M_layOperation_99 ?_
            refine lv_topi (fun z_39 hz_39 => ?_)
            obtain rfl : z_39 = fv kk := hz_39.trans ((by rw [nI_clamp (by omega)]))
            have hPc := hP.sub (ws' := [(h, .inr (1, [.int g0, .int g1, .int g2, .int g3, .int (nI cn), .ref g5, .int g6, .ref g7, .ref g8, .ref g9, .ref g10, .ref g11, .int g12, .int g13, .int g14, .ref g15, .int g16, .ref g17, .ref g18, .ref g19, .ref g20, .ref g21, .ref g22, .int g23, .ref g24, .int g25, .int g26, .int g27, .int g28, .ref g29, .int (nI (bs0 ++ [((ft kk) + (8 * (fd kk))) &&& 255] ++ encUf 4 (refN (cn + kk) i)).length), .int g31, .int g32])), (g29, .inl (cB, 1400, .inl f_8))]) [5, 6] rfl
            have hDc := hD.sub (ws' := [(h, .inr (1, [.int g0, .int g1, .int g2, .int g3, .int (nI cn), .ref g5, .int g6, .ref g7, .ref g8, .ref g9, .ref g10, .ref g11, .int g12, .int g13, .int g14, .ref g15, .int g16, .ref g17, .ref g18, .ref g19, .ref g20, .ref g21, .ref g22, .int g23, .ref g24, .int g25, .int g26, .int g27, .int g28, .ref g29, .int (nI (bs0 ++ [((ft kk) + (8 * (fd kk))) &&& 255] ++ encUf 4 (refN (cn + kk) i)).length), .int g31, .int g32])), (g29, .inl (cB, 1400, .inl f_8))]) [5, 6] (by decide) rfl
            have hFc := va_free (wc := [(h, .inr (1, [.int g0, .int g1, .int g2, .int g3, .int (nI cn), .ref g5, .int g6, .ref g7, .ref g8, .ref g9, .ref g10, .ref g11, .int g12, .int g13, .int g14, .ref g15, .int g16, .ref g17, .ref g18, .ref g19, .ref g20, .ref g21, .ref g22, .int g23, .ref g24, .int g25, .int g26, .int g27, .int g28, .ref g29, .int (nI (bs0 ++ [((ft kk) + (8 * (fd kk))) &&& 255] ++ encUf 4 (refN (cn + kk) i)).length), .int g31, .int g32])), (g29, .inl (cB, 1400, .inl f_8))]) hD hS hA [5, 6] rfl
            refine va_callv (va_runV (As := [.int (fv kk)]) (rest := []) ⟨hx, hb, hml, hown, hw⟩ (cb_M_layS l dC dI cB cI cJ H.size h g0 g1 g2 g3 (nI cn) g6 g12 g13 g14 g16 g23 g25 g26 g27 g28 g31 g32 g5 g7 g8 g9 g10 g11 g15 g17 g18 g19 g20 g21 g22 g24 g29 f_8 (bs0 ++ [((ft kk) + (8 * (fd kk))) &&& 255] ++ encUf 4 (refN (cn + kk) i)) hq_9 (fv kk) (by have h1 := encUf_le 4 (refN (cn + kk) i); have h5 := encSf_le 4 (fv kk); simp only [List.length_append, List.length_cons, List.length_nil, encLk_len]; omega)) (kw_V 1 hw qq_755 qq_5 qq_758 qq_757 qs_M_layS rfl rfl (by decide +kernel) ⟨Nat.le_of_ble_eq_true rfl, Nat.le_of_ble_eq_true rfl⟩) ⟨fun a U g mk q => by obtain ⟨q0, q1, qP, qK, qD⟩ := q; exact ⟨q0, q1, qP, va_K.moved (u := U) (U := U.calling g mk a) (Vm.Alike.refl U.vm) qK, qD⟩, va_recv hK hPc (ci := 1) (q0 := 0) rfl rfl, fun U hU hW => ⟨rfl, by rw [hU], by rw [hU]; exact hPc, va_K.moved hW.alike hK, hDc.weaken (fun _ _ _ _ => trivial)⟩⟩ rfl rfl hl.1 rfl (lv_room (Nat.le_of_ble_eq_true rfl)) dd_M_layOperation_100 ⟨by first | exact Nat.le_of_ble_eq_true rfl | (simp only [headSpec]; omega), by first | exact Nat.le_of_ble_eq_true rfl | (simp only [headSpec]; omega)⟩) hS (fun q _ h => hFc q h) hFc (fun f_40 t H1 locs ht hvm hq_41 hB hz1 hk1 hS => ?_)
            obtain ⟨hP1, hK1, hD1⟩ := hB
            rw [ht] at hP1
            obtain ⟨hP, hD⟩ := va_join (wr := [(g7, .inl (cI, 16, .inl ft)), (g8, .inl (cI, 16, .inl fo)), (g9, .inl (cJ, 16, .inr (.inl fk))), (g10, .inl (cI, 16, .inl fd)), (g11, .inl (cI, 16, .inl fv))]) (w1 := [(h, .inr (1, [.int g0, .int g1, .int g2, .int g3, .int (nI cn), .ref g5, .int g6, .ref g7, .ref g8, .ref g9, .ref g10, .ref g11, .int g12, .int g13, .int g14, .ref g15, .int g16, .ref g17, .ref g18, .ref g19, .ref g20, .ref g21, .ref g22, .int g23, .ref g24, .int g25, .int g26, .int g27, .int g28, .ref g29, .int (nI (bs0 ++ [((ft kk) + (8 * (fd kk))) &&& 255] ++ encUf 4 (refN (cn + kk) i) ++ encSf 4 (fv kk)).length), .int g31, .int g32])), (g29, .inl (cB, 1400, .inl f_40))]) hP hD [5, 6] [0, 1, 2, 3, 4] rfl rfl (by decide) (by decide) hk1 hFc hP1 hD1
            clear hP1 hK1 hD1 ht hvm hz1 hk1 hPc hDc hFc
            generalize H1 = H at hP hS ⊢
            have hP : va_P (dC, dI) vcl [(g7, .inl (cI, 16, .inl ft)), (g8, .inl (cI, 16, .inl fo)), (g9, .inl (cJ, 16, .inr (.inl fk))), (g10, .inl (cI, 16, .inl fd)), (g11, .inl (cI, 16, .inl fv)), (h, .inr (1, [.int g0, .int g1, .int g2, .int g3, .int (nI cn), .ref g5, .int g6, .ref g7, .ref g8, .ref g9, .ref g10, .ref g11, .int g12, .int g13, .int g14, .ref g15, .int g16, .ref g17, .ref g18, .ref g19, .ref g20, .ref g21, .ref g22, .int g23, .ref g24, .int g25, .int g26, .int g27, .int g28, .ref g29, .int (nI (bs0 ++ [((ft kk) + (8 * (fd kk))) &&& 255] ++ encUf 4 (refN (cn + kk) i) ++ encSf 4 (fv kk)).length), .int g31, .int g32])), (g29, .inl (cB, 1400, .inl f_40))] H := hP
            have hD : va_D A [(g7, .inl (cI, 16, .inl ft)), (g8, .inl (cI, 16, .inl fo)), (g9, .inl (cJ, 16, .inr (.inl fk))), (g10, .inl (cI, 16, .inl fd)), (g11, .inl (cI, 16, .inl fv)), (h, .inr (1, [.int g0, .int g1, .int g2, .int g3, .int (nI cn), .ref g5, .int g6, .ref g7, .ref g8, .ref g9, .ref g10, .ref g11, .int g12, .int g13, .int g14, .ref g15, .int g16, .ref g17, .ref g18, .ref g19, .ref g20, .ref g21, .ref g22, .int g23, .ref g24, .int g25, .int g26, .int g27, .int g28, .ref g29, .int (nI (bs0 ++ [((ft kk) + (8 * (fd kk))) &&& 255] ++ encUf 4 (refN (cn + kk) i) ++ encSf 4 (fv kk)).length), .int g31, .int g32])), (g29, .inl (cB, 1400, .inl f_40))] := hD
            refine lv_goto (tgt := 154) hx hb dd_M_layOperation_103 (by decide) ?_
            have hfin : bs0 ++ [((ft kk) + (8 * (fd kk))) &&& 255] ++ encUf 4 (refN (cn + kk) i) ++ encSf 4 (fv kk) = bs0 ++ encOp (cn + kk) (ft kk) (fd kk) (fo kk) (fk kk) (fv kk) := by rw [encOp, encKey, encVal, if_pos c_10, if_pos c_11, if_neg c_12, if_neg c_18, if_pos c_24, refOf_nI ei hi]; simp only [List.append_assoc, List.nil_append, List.append_nil, List.cons_append]
            have e_42 : (nI (bs0 ++ [((ft kk) + (8 * (fd kk))) &&& 255] ++ encUf 4 (refN (cn + kk) i) ++ encSf 4 (fv kk)).length : Int32) = nI (bs0 ++ encOp (cn + kk) (ft kk) (fd kk) (fo kk) (fk kk) (fv kk)).length := (by rw [hfin])
            have hP : va_P (dC, dI) vcl [(g7, .inl (cI, 16, .inl ft)), (g8, .inl (cI, 16, .inl fo)), (g9, .inl (cJ, 16, .inr (.inl fk))), (g10, .inl (cI, 16, .inl fd)), (g11, .inl (cI, 16, .inl fv)), (h, .inr (1, [.int g0, .int g1, .int g2, .int g3, .int (nI cn), .ref g5, .int g6, .ref g7, .ref g8, .ref g9, .ref g10, .ref g11, .int g12, .int g13, .int g14, .ref g15, .int g16, .ref g17, .ref g18, .ref g19, .ref g20, .ref g21, .ref g22, .int g23, .ref g24, .int g25, .int g26, .int g27, .int g28, .ref g29, .int (nI (bs0 ++ encOp (cn + kk) (ft kk) (fd kk) (fo kk) (fk kk) (fv kk)).length), .int g31, .int g32])), (g29, .inl (cB, 1400, .inl f_40))] H := by rw [← e_42]; exact hP
            have hD : va_D A [(g7, .inl (cI, 16, .inl ft)), (g8, .inl (cI, 16, .inl fo)), (g9, .inl (cJ, 16, .inr (.inl fk))), (g10, .inl (cI, 16, .inl fd)), (g11, .inl (cI, 16, .inl fv)), (h, .inr (1, [.int g0, .int g1, .int g2, .int g3, .int (nI cn), .ref g5, .int g6, .ref g7, .ref g8, .ref g9, .ref g10, .ref g11, .int g12, .int g13, .int g14, .ref g15, .int g16, .ref g17, .ref g18, .ref g19, .ref g20, .ref g21, .ref g22, .int g23, .ref g24, .int g25, .int g26, .int g27, .int g28, .ref g29, .int (nI (bs0 ++ encOp (cn + kk) (ft kk) (fd kk) (fo kk) (fk kk) (fv kk)).length), .int g31, .int g32])), (g29, .inl (cB, 1400, .inl f_40))] := by rw [← e_42]; exact hD
            have hP9 := hP.sub (ws' := [(h, .inr (1, [.int g0, .int g1, .int g2, .int g3, .int (nI cn), .ref g5, .int g6, .ref g7, .ref g8, .ref g9, .ref g10, .ref g11, .int g12, .int g13, .int g14, .ref g15, .int g16, .ref g17, .ref g18, .ref g19, .ref g20, .ref g21, .ref g22, .int g23, .ref g24, .int g25, .int g26, .int g27, .int g28, .ref g29, .int (nI (bs0 ++ encOp (cn + kk) (ft kk) (fd kk) (fo kk) (fk kk) (fv kk)).length), .int g31, .int g32])), (g29, .inl (cB, 1400, .inl f_40)), (g7, .inl (cI, 16, .inl ft)), (g8, .inl (cI, 16, .inl fo)), (g9, .inl (cJ, 16, .inr (.inl fk))), (g10, .inl (cI, 16, .inl fd)), (g11, .inl (cI, 16, .inl fv))]) [5, 6, 0, 1, 2, 3, 4] rfl
            have hD9 := hD.sub (ws' := [(h, .inr (1, [.int g0, .int g1, .int g2, .int g3, .int (nI cn), .ref g5, .int g6, .ref g7, .ref g8, .ref g9, .ref g10, .ref g11, .int g12, .int g13, .int g14, .ref g15, .int g16, .ref g17, .ref g18, .ref g19, .ref g20, .ref g21, .ref g22, .int g23, .ref g24, .int g25, .int g26, .int g27, .int g28, .ref g29, .int (nI (bs0 ++ encOp (cn + kk) (ft kk) (fd kk) (fo kk) (fk kk) (fv kk)).length), .int g31, .int g32])), (g29, .inl (cB, 1400, .inl f_40)), (g7, .inl (cI, 16, .inl ft)), (g8, .inl (cI, 16, .inl fo)), (g9, .inl (cJ, 16, .inr (.inl fk))), (g10, .inl (cI, 16, .inl fd)), (g11, .inl (cI, 16, .inl fv))]) [5, 6, 0, 1, 2, 3, 4] (by decide) rfl
            refine W.widen (k := 0) (n := 0) (by first | exact Nat.le_refl _ | omega) (by first | exact Nat.le_refl _ | omega) ?_
            exact W.vret hx hb hr (fun t ht hW => ⟨⟨f_40, rfl, (by rw [← hfin]; exact hq_41), by rw [ht]; exact hP9, va_K.moved hW.alike hK, hD9⟩, hS.F ht⟩) hS.2.2 dd_M_layOperation_154
    · refine lv_aload_n hx hb dd_M_layOperation_56 rfl (lv_at hl 1 rfl) ?_
      refine lv_iload_n hx hb dd_M_layOperation_57 rfl (lv_at hl 2 rfl) ?_
      refine lv_aload_n hx hb dd_M_layOperation_58 rfl (lv_at hl 1 rfl) ?_
      refine va_get (D := (dC, dI)) (ci := 1) (v := .ref g9) (C := RR_M) (T := TT_M) (N := 33) hx hb hw hh_M hown hK hP 5 rfl rfl 9 (by decide) (hw _ qq_588) (fun _ h9 => h9) rfl dd_M_layOperation_59 ?_
      refine lv_iload_n hx hb dd_M_layOperation_62 rfl (lv_at hl 2 rfl) ?_
      refine va_lald hx hb hK hP 2 2 rfl rfl (vp_in_nI (by omega) (by decide)) dd_M_layOperation_63 ?_
      refine lv_topl (fun z_43 hz_43 => ?_)
      obtain rfl : z_43 = fk kk := hz_43.trans ((by rw [nI_clamp (by omega)]))
      refine lv_l2i (v := (fk kk).toInt32) hx hb dd_M_layOperation_64 rfl ?_
      obtain ⟨j, hj, ej, hjc⟩ := hkr c_11
      refine lv_topi (fun z_44 hz_44 => ?_)
      obtain rfl : z_44 = nI j := hz_44.trans (ej)
      have hPc := hP.sub (ws' := [(h, .inr (1, [.int g0, .int g1, .int g2, .int g3, .int (nI cn), .ref g5, .int g6, .ref g7, .ref g8, .ref g9, .ref g10, .ref g11, .int g12, .int g13, .int g14, .ref g15, .int g16, .ref g17, .ref g18, .ref g19, .ref g20, .ref g21, .ref g22, .int g23, .ref g24, .int g25, .int g26, .int g27, .int g28, .ref g29, .int (nI (bs0 ++ [((ft kk) + (8 * (fd kk))) &&& 255] ++ encUf 4 (refN (cn + kk) i)).length), .int g31, .int g32])), (g29, .inl (cB, 1400, .inl f_8))]) [5, 6] rfl
      have hDc := hD.sub (ws' := [(h, .inr (1, [.int g0, .int g1, .int g2, .int g3, .int (nI cn), .ref g5, .int g6, .ref g7, .ref g8, .ref g9, .ref g10, .ref g11, .int g12, .int g13, .int g14, .ref g15, .int g16, .ref g17, .ref g18, .ref g19, .ref g20, .ref g21, .ref g22, .int g23, .ref g24, .int g25, .int g26, .int g27, .int g28, .ref g29, .int (nI (bs0 ++ [((ft kk) + (8 * (fd kk))) &&& 255] ++ encUf 4 (refN (cn + kk) i)).length), .int g31, .int g32])), (g29, .inl (cB, 1400, .inl f_8))]) [5, 6] (by decide) rfl
      have hFc := va_free (wc := [(h, .inr (1, [.int g0, .int g1, .int g2, .int g3, .int (nI cn), .ref g5, .int g6, .ref g7, .ref g8, .ref g9, .ref g10, .ref g11, .int g12, .int g13, .int g14, .ref g15, .int g16, .ref g17, .ref g18, .ref g19, .ref g20, .ref g21, .ref g22, .int g23, .ref g24, .int g25, .int g26, .int g27, .int g28, .ref g29, .int (nI (bs0 ++ [((ft kk) + (8 * (fd kk))) &&& 255] ++ encUf 4 (refN (cn + kk) i)).length), .int g31, .int g32])), (g29, .inl (cB, 1400, .inl f_8))]) hD hS hA [5, 6] rfl
      refine va_callv (va_runV (As := [.int (nI kk), .int (nI j)]) (rest := []) ⟨hx, hb, hml, hown, hw⟩ (cb_M_layRef l dC dI cB cI cJ H.size h g0 g1 g2 g3 g6 g12 g13 g14 g16 g23 g25 g26 g27 g28 g31 g32 g5 g7 g8 g9 g10 g11 g15 g17 g18 g19 g20 g21 g22 g24 g29 f_8 (bs0 ++ [((ft kk) + (8 * (fd kk))) &&& 255] ++ encUf 4 (refN (cn + kk) i)) hq_9 cn kk j hc hj hjc (by have h1 := encUf_le 4 (refN (cn + kk) i); simp only [List.length_append, List.length_cons, List.length_nil, encLk_len]; have h4 := encUf_le 4 (refN (cn + kk) j); omega)) (kw_V 2 hw qq_747 qq_5 qq_750 qq_749 qs_M_layRef rfl rfl (by decide +kernel) ⟨Nat.le_of_ble_eq_true rfl, Nat.le_of_ble_eq_true rfl⟩) ⟨fun a U g mk q => by obtain ⟨q0, q1, qP, qK, qD⟩ := q; exact ⟨q0, q1, qP, va_K.moved (u := U) (U := U.calling g mk a) (Vm.Alike.refl U.vm) qK, qD⟩, va_recv hK hPc (ci := 1) (q0 := 0) rfl rfl, fun U hU hW => ⟨rfl, by rw [hU], by rw [hU]; exact hPc, va_K.moved hW.alike hK, hDc.weaken (fun _ _ _ _ => trivial)⟩⟩ rfl rfl hl.1 rfl (lv_room (Nat.le_of_ble_eq_true rfl)) dd_M_layOperation_65 ⟨by first | exact Nat.le_of_ble_eq_true rfl | (simp only [headSpec]; omega), by first | exact Nat.le_of_ble_eq_true rfl | (simp only [headSpec]; omega)⟩) hS (fun q _ h => hFc q h) hFc (fun f_45 t H1 locs ht hvm hq_46 hB hz1 hk1 hS => ?_)
      obtain ⟨hP1, hK1, hD1⟩ := hB
      rw [ht] at hP1
      obtain ⟨hP, hD⟩ := va_join (wr := [(g7, .inl (cI, 16, .inl ft)), (g8, .inl (cI, 16, .inl fo)), (g9, .inl (cJ, 16, .inr (.inl fk))), (g10, .inl (cI, 16, .inl fd)), (g11, .inl (cI, 16, .inl fv))]) (w1 := [(h, .inr (1, [.int g0, .int g1, .int g2, .int g3, .int (nI cn), .ref g5, .int g6, .ref g7, .ref g8, .ref g9, .ref g10, .ref g11, .int g12, .int g13, .int g14, .ref g15, .int g16, .ref g17, .ref g18, .ref g19, .ref g20, .ref g21, .ref g22, .int g23, .ref g24, .int g25, .int g26, .int g27, .int g28, .ref g29, .int (nI (bs0 ++ [((ft kk) + (8 * (fd kk))) &&& 255] ++ encUf 4 (refN (cn + kk) i) ++ encUf 4 (refN (cn + kk) j)).length), .int g31, .int g32])), (g29, .inl (cB, 1400, .inl f_45))]) hP hD [5, 6] [0, 1, 2, 3, 4] rfl rfl (by decide) (by decide) hk1 hFc hP1 hD1
      clear hP1 hK1 hD1 ht hvm hz1 hk1 hPc hDc hFc
      generalize H1 = H at hP hS ⊢
      have hP : va_P (dC, dI) vcl [(g7, .inl (cI, 16, .inl ft)), (g8, .inl (cI, 16, .inl fo)), (g9, .inl (cJ, 16, .inr (.inl fk))), (g10, .inl (cI, 16, .inl fd)), (g11, .inl (cI, 16, .inl fv)), (h, .inr (1, [.int g0, .int g1, .int g2, .int g3, .int (nI cn), .ref g5, .int g6, .ref g7, .ref g8, .ref g9, .ref g10, .ref g11, .int g12, .int g13, .int g14, .ref g15, .int g16, .ref g17, .ref g18, .ref g19, .ref g20, .ref g21, .ref g22, .int g23, .ref g24, .int g25, .int g26, .int g27, .int g28, .ref g29, .int (nI (bs0 ++ [((ft kk) + (8 * (fd kk))) &&& 255] ++ encUf 4 (refN (cn + kk) i) ++ encUf 4 (refN (cn + kk) j)).length), .int g31, .int g32])), (g29, .inl (cB, 1400, .inl f_45))] H := hP
      have hD : va_D A [(g7, .inl (cI, 16, .inl ft)), (g8, .inl (cI, 16, .inl fo)), (g9, .inl (cJ, 16, .inr (.inl fk))), (g10, .inl (cI, 16, .inl fd)), (g11, .inl (cI, 16, .inl fv)), (h, .inr (1, [.int g0, .int g1, .int g2, .int g3, .int (nI cn), .ref g5, .int g6, .ref g7, .ref g8, .ref g9, .ref g10, .ref g11, .int g12, .int g13, .int g14, .ref g15, .int g16, .ref g17, .ref g18, .ref g19, .ref g20, .ref g21, .ref g22, .int g23, .ref g24, .int g25, .int g26, .int g27, .int g28, .ref g29, .int (nI (bs0 ++ [((ft kk) + (8 * (fd kk))) &&& 255] ++ encUf 4 (refN (cn + kk) i) ++ encUf 4 (refN (cn + kk) j)).length), .int g31, .int g32])), (g29, .inl (cB, 1400, .inl f_45))] := hD
      refine lv_iload_n hx hb dd_M_layOperation_68 rfl (lv_at hl 0 rfl) ?_
      refine lv_iconst (v := 2) hx hb dd_M_layOperation_69 (by decide) ?_
      refine lv_icmp_eq (tgt := 93) hx hb dd_M_layOperation_70 (by decide) (fun c_47 => ?_) (fun c_47 => ?_)
      · refine lv_aload_n hx hb dd_M_layOperation_93 rfl (lv_at hl 1 rfl) ?_
        refine lv_aload_n hx hb dd_M_layOperation_94 rfl (lv_at hl 1 rfl) ?_
        refine va_get (D := (dC, dI)) (ci := 1) (v := .ref g11) (C := RR_M) (T := TT_M) (N := 33) hx hb hw hh_M hown hK hP 5 rfl rfl 11 (by decide) (hw _ qq_590) (fun _ h9 => h9) rfl dd_M_layOperation_95 ?_
        refine lv_iload_n hx hb dd_M_layOperation_98 rfl (lv_at hl 2 rfl) ?_
        refine va_iald hx hb hK hP 4 1 rfl rfl (vp_in_nI (by omega) (by decide)) dd_M_layOperation_99 ?_
        refine lv_topi (fun z_48 hz_48 => ?_)
        obtain rfl : z_48 = fv kk := hz_48.trans ((by rw [nI_clamp (by omega)]))
        have hPc := hP.sub (ws' := [(h, .inr (1, [.int g0, .int g1, .int g2, .int g3, .int (nI cn), .ref g5, .int g6, .ref g7, .ref g8, .ref g9, .ref g10, .ref g11, .int g12, .int g13, .int g14, .ref g15, .int g16, .ref g17, .ref g18, .ref g19, .ref g20, .ref g21, .ref g22, .int g23, .ref g24, .int g25, .int g26, .int g27, .int g28, .ref g29, .int (nI (bs0 ++ [((ft kk) + (8 * (fd kk))) &&& 255] ++ encUf 4 (refN (cn + kk) i) ++ encUf 4 (refN (cn + kk) j)).length), .int g31, .int g32])), (g29, .inl (cB, 1400, .inl f_45))]) [5, 6] rfl
        have hDc := hD.sub (ws' := [(h, .inr (1, [.int g0, .int g1, .int g2, .int g3, .int (nI cn), .ref g5, .int g6, .ref g7, .ref g8, .ref g9, .ref g10, .ref g11, .int g12, .int g13, .int g14, .ref g15, .int g16, .ref g17, .ref g18, .ref g19, .ref g20, .ref g21, .ref g22, .int g23, .ref g24, .int g25, .int g26, .int g27, .int g28, .ref g29, .int (nI (bs0 ++ [((ft kk) + (8 * (fd kk))) &&& 255] ++ encUf 4 (refN (cn + kk) i) ++ encUf 4 (refN (cn + kk) j)).length), .int g31, .int g32])), (g29, .inl (cB, 1400, .inl f_45))]) [5, 6] (by decide) rfl
        have hFc := va_free (wc := [(h, .inr (1, [.int g0, .int g1, .int g2, .int g3, .int (nI cn), .ref g5, .int g6, .ref g7, .ref g8, .ref g9, .ref g10, .ref g11, .int g12, .int g13, .int g14, .ref g15, .int g16, .ref g17, .ref g18, .ref g19, .ref g20, .ref g21, .ref g22, .int g23, .ref g24, .int g25, .int g26, .int g27, .int g28, .ref g29, .int (nI (bs0 ++ [((ft kk) + (8 * (fd kk))) &&& 255] ++ encUf 4 (refN (cn + kk) i) ++ encUf 4 (refN (cn + kk) j)).length), .int g31, .int g32])), (g29, .inl (cB, 1400, .inl f_45))]) hD hS hA [5, 6] rfl
        refine va_callv (va_runV (As := [.int (fv kk)]) (rest := []) ⟨hx, hb, hml, hown, hw⟩ (cb_M_layS l dC dI cB cI cJ H.size h g0 g1 g2 g3 (nI cn) g6 g12 g13 g14 g16 g23 g25 g26 g27 g28 g31 g32 g5 g7 g8 g9 g10 g11 g15 g17 g18 g19 g20 g21 g22 g24 g29 f_45 (bs0 ++ [((ft kk) + (8 * (fd kk))) &&& 255] ++ encUf 4 (refN (cn + kk) i) ++ encUf 4 (refN (cn + kk) j)) hq_46 (fv kk) (by have h1 := encUf_le 4 (refN (cn + kk) i); have h3 := encUf_le 4 (refN (cn + kk) j); have h5 := encSf_le 4 (fv kk); simp only [List.length_append, List.length_cons, List.length_nil, encLk_len]; omega)) (kw_V 1 hw qq_755 qq_5 qq_758 qq_757 qs_M_layS rfl rfl (by decide +kernel) ⟨Nat.le_of_ble_eq_true rfl, Nat.le_of_ble_eq_true rfl⟩) ⟨fun a U g mk q => by obtain ⟨q0, q1, qP, qK, qD⟩ := q; exact ⟨q0, q1, qP, va_K.moved (u := U) (U := U.calling g mk a) (Vm.Alike.refl U.vm) qK, qD⟩, va_recv hK hPc (ci := 1) (q0 := 0) rfl rfl, fun U hU hW => ⟨rfl, by rw [hU], by rw [hU]; exact hPc, va_K.moved hW.alike hK, hDc.weaken (fun _ _ _ _ => trivial)⟩⟩ rfl rfl hl.1 rfl (lv_room (Nat.le_of_ble_eq_true rfl)) dd_M_layOperation_100 ⟨by first | exact Nat.le_of_ble_eq_true rfl | (simp only [headSpec]; omega), by first | exact Nat.le_of_ble_eq_true rfl | (simp only [headSpec]; omega)⟩) hS (fun q _ h => hFc q h) hFc (fun f_49 t H1 locs ht hvm hq_50 hB hz1 hk1 hS => ?_)
        obtain ⟨hP1, hK1, hD1⟩ := hB
        rw [ht] at hP1
        obtain ⟨hP, hD⟩ := va_join (wr := [(g7, .inl (cI, 16, .inl ft)), (g8, .inl (cI, 16, .inl fo)), (g9, .inl (cJ, 16, .inr (.inl fk))), (g10, .inl (cI, 16, .inl fd)), (g11, .inl (cI, 16, .inl fv))]) (w1 := [(h, .inr (1, [.int g0, .int g1, .int g2, .int g3, .int (nI cn), .ref g5, .int g6, .ref g7, .ref g8, .ref g9, .ref g10, .ref g11, .int g12, .int g13, .int g14, .ref g15, .int g16, .ref g17, .ref g18, .ref g19, .ref g20, .ref g21, .ref g22, .int g23, .ref g24, .int g25, .int g26, .int g27, .int g28, .ref g29, .int (nI (bs0 ++ [((ft kk) + (8 * (fd kk))) &&& 255] ++ encUf 4 (refN (cn + kk) i) ++ encUf 4 (refN (cn + kk) j) ++ encSf 4 (fv kk)).length), .int g31, .int g32])), (g29, .inl (cB, 1400, .inl f_49))]) hP hD [5, 6] [0, 1, 2, 3, 4] rfl rfl (by decide) (by decide) hk1 hFc hP1 hD1
        clear hP1 hK1 hD1 ht hvm hz1 hk1 hPc hDc hFc
        generalize H1 = H at hP hS ⊢
        have hP : va_P (dC, dI) vcl [(g7, .inl (cI, 16, .inl ft)), (g8, .inl (cI, 16, .inl fo)), (g9, .inl (cJ, 16, .inr (.inl fk))), (g10, .inl (cI, 16, .inl fd)), (g11, .inl (cI, 16, .inl fv)), (h, .inr (1, [.int g0, .int g1, .int g2, .int g3, .int (nI cn), .ref g5, .int g6, .ref g7, .ref g8, .ref g9, .ref g10, .ref g11, .int g12, .int g13, .int g14, .ref g15, .int g16, .ref g17, .ref g18, .ref g19, .ref g20, .ref g21, .ref g22, .int g23, .ref g24, .int g25, .int g26, .int g27, .int g28, .ref g29, .int (nI (bs0 ++ [((ft kk) + (8 * (fd kk))) &&& 255] ++ encUf 4 (refN (cn + kk) i) ++ encUf 4 (refN (cn + kk) j) ++ encSf 4 (fv kk)).length), .int g31, .int g32])), (g29, .inl (cB, 1400, .inl f_49))] H := hP
        have hD : va_D A [(g7, .inl (cI, 16, .inl ft)), (g8, .inl (cI, 16, .inl fo)), (g9, .inl (cJ, 16, .inr (.inl fk))), (g10, .inl (cI, 16, .inl fd)), (g11, .inl (cI, 16, .inl fv)), (h, .inr (1, [.int g0, .int g1, .int g2, .int g3, .int (nI cn), .ref g5, .int g6, .ref g7, .ref g8, .ref g9, .ref g10, .ref g11, .int g12, .int g13, .int g14, .ref g15, .int g16, .ref g17, .ref g18, .ref g19, .ref g20, .ref g21, .ref g22, .int g23, .ref g24, .int g25, .int g26, .int g27, .int g28, .ref g29, .int (nI (bs0 ++ [((ft kk) + (8 * (fd kk))) &&& 255] ++ encUf 4 (refN (cn + kk) i) ++ encUf 4 (refN (cn + kk) j) ++ encSf 4 (fv kk)).length), .int g31, .int g32])), (g29, .inl (cB, 1400, .inl f_49))] := hD
        refine lv_goto (tgt := 154) hx hb dd_M_layOperation_103 (by decide) ?_
        have hfin : bs0 ++ [((ft kk) + (8 * (fd kk))) &&& 255] ++ encUf 4 (refN (cn + kk) i) ++ encUf 4 (refN (cn + kk) j) ++ encSf 4 (fv kk) = bs0 ++ encOp (cn + kk) (ft kk) (fd kk) (fo kk) (fk kk) (fv kk) := by rw [encOp, encKey, encVal, if_pos c_10, if_neg c_11, if_pos c_47, refOf_nI ei hi, refOf_nI ej hj]; simp only [List.append_assoc, List.nil_append, List.append_nil, List.cons_append]
        have e_51 : (nI (bs0 ++ [((ft kk) + (8 * (fd kk))) &&& 255] ++ encUf 4 (refN (cn + kk) i) ++ encUf 4 (refN (cn + kk) j) ++ encSf 4 (fv kk)).length : Int32) = nI (bs0 ++ encOp (cn + kk) (ft kk) (fd kk) (fo kk) (fk kk) (fv kk)).length := (by rw [hfin])
        have hP : va_P (dC, dI) vcl [(g7, .inl (cI, 16, .inl ft)), (g8, .inl (cI, 16, .inl fo)), (g9, .inl (cJ, 16, .inr (.inl fk))), (g10, .inl (cI, 16, .inl fd)), (g11, .inl (cI, 16, .inl fv)), (h, .inr (1, [.int g0, .int g1, .int g2, .int g3, .int (nI cn), .ref g5, .int g6, .ref g7, .ref g8, .ref g9, .ref g10, .ref g11, .int g12, .int g13, .int g14, .ref g15, .int g16, .ref g17, .ref g18, .ref g19, .ref g20, .ref g21, .ref g22, .int g23, .ref g24, .int g25, .int g26, .int g27, .int g28, .ref g29, .int (nI (bs0 ++ encOp (cn + kk) (ft kk) (fd kk) (fo kk) (fk kk) (fv kk)).length), .int g31, .int g32])), (g29, .inl (cB, 1400, .inl f_49))] H := by rw [← e_51]; exact hP
        have hD : va_D A [(g7, .inl (cI, 16, .inl ft)), (g8, .inl (cI, 16, .inl fo)), (g9, .inl (cJ, 16, .inr (.inl fk))), (g10, .inl (cI, 16, .inl fd)), (g11, .inl (cI, 16, .inl fv)), (h, .inr (1, [.int g0, .int g1, .int g2, .int g3, .int (nI cn), .ref g5, .int g6, .ref g7, .ref g8, .ref g9, .ref g10, .ref g11, .int g12, .int g13, .int g14, .ref g15, .int g16, .ref g17, .ref g18, .ref g19, .ref g20, .ref g21, .ref g22, .int g23, .ref g24, .int g25, .int g26, .int g27, .int g28, .ref g29, .int (nI (bs0 ++ encOp (cn + kk) (ft kk) (fd kk) (fo kk) (fk kk) (fv kk)).length), .int g31, .int g32])), (g29, .inl (cB, 1400, .inl f_49))] := by rw [← e_51]; exact hD
        have hP9 := hP.sub (ws' := [(h, .inr (1, [.int g0, .int g1, .int g2, .int g3, .int (nI cn), .ref g5, .int g6, .ref g7, .ref g8, .ref g9, .ref g10, .ref g11, .int g12, .int g13, .int g14, .ref g15, .int g16, .ref g17, .ref g18, .ref g19, .ref g20, .ref g21, .ref g22, .int g23, .ref g24, .int g25, .int g26, .int g27, .int g28, .ref g29, .int (nI (bs0 ++ encOp (cn + kk) (ft kk) (fd kk) (fo kk) (fk kk) (fv kk)).length), .int g31, .int g32])), (g29, .inl (cB, 1400, .inl f_49)), (g7, .inl (cI, 16, .inl ft)), (g8, .inl (cI, 16, .inl fo)), (g9, .inl (cJ, 16, .inr (.inl fk))), (g10, .inl (cI, 16, .inl fd)), (g11, .inl (cI, 16, .inl fv))]) [5, 6, 0, 1, 2, 3, 4] rfl
        have hD9 := hD.sub (ws' := [(h, .inr (1, [.int g0, .int g1, .int g2, .int g3, .int (nI cn), .ref g5, .int g6, .ref g7, .ref g8, .ref g9, .ref g10, .ref g11, .int g12, .int g13, .int g14, .ref g15, .int g16, .ref g17, .ref g18, .ref g19, .ref g20, .ref g21, .ref g22, .int g23, .ref g24, .int g25, .int g26, .int g27, .int g28, .ref g29, .int (nI (bs0 ++ encOp (cn + kk) (ft kk) (fd kk) (fo kk) (fk kk) (fv kk)).length), .int g31, .int g32])), (g29, .inl (cB, 1400, .inl f_49)), (g7, .inl (cI, 16, .inl ft)), (g8, .inl (cI, 16, .inl fo)), (g9, .inl (cJ, 16, .inr (.inl fk))), (g10, .inl (cI, 16, .inl fd)), (g11, .inl (cI, 16, .inl fv))]) [5, 6, 0, 1, 2, 3, 4] (by decide) rfl
        refine W.widen (k := 0) (n := 0) (by first | exact Nat.le_refl _ | omega) (by first | exact Nat.le_refl _ | omega) ?_
        exact W.vret hx hb hr (fun t ht hW => ⟨⟨f_49, rfl, (by rw [← hfin]; exact hq_50), by rw [ht]; exact hP9, va_K.moved hW.alike hK, hD9⟩, hS.F ht⟩) hS.2.2 dd_M_layOperation_154
      · refine lv_aload_n hx hb dd_M_layOperation_73 rfl (lv_at hl 1 rfl) ?_
        refine va_get (D := (dC, dI)) (ci := 1) (v := .ref g10) (C := RR_M) (T := TT_M) (N := 33) hx hb hw hh_M hown hK hP 5 rfl rfl 10 (by decide) (hw _ qq_589) (fun _ h9 => h9) rfl dd_M_layOperation_74 ?_
        refine lv_iload_n hx hb dd_M_layOperation_77 rfl (lv_at hl 2 rfl) ?_
        refine va_iald hx hb hK hP 3 1 rfl rfl (vp_in_nI (by omega) (by decide)) dd_M_layOperation_78 ?_
        refine lv_topi (fun z_52 hz_52 => ?_)
        obtain rfl : z_52 = fd kk := hz_52.trans ((by rw [nI_clamp (by omega)]))
        refine lv_iconst (v := 2) hx hb dd_M_layOperation_79 (by decide) ?_
        refine lv_icmp_eq (tgt := 93) hx hb dd_M_layOperation_80 (by decide) (fun c_53 => ?_) (fun c_53 => ?_)
        · refine lv_aload_n hx hb dd_M_layOperation_93 rfl (lv_at hl 1 rfl) ?_
          refine lv_aload_n hx hb dd_M_layOperation_94 rfl (lv_at hl 1 rfl) ?_
          refine va_get (D := (dC, dI)) (ci := 1) (v := .ref g11) (C := RR_M) (T := TT_M) (N := 33) hx hb hw hh_M hown hK hP 5 rfl rfl 11 (by decide) (hw _ qq_590) (fun _ h9 => h9) rfl dd_M_layOperation_95 ?_
          refine lv_iload_n hx hb dd_M_layOperation_98 rfl (lv_at hl 2 rfl) ?_
          refine va_iald hx hb hK hP 4 1 rfl rfl (vp_in_nI (by omega) (by decide)) dd_M_layOperation_99 ?_
          refine lv_topi (fun z_54 hz_54 => ?_)
          obtain rfl : z_54 = fv kk := hz_54.trans ((by rw [nI_clamp (by omega)]))
          have hPc := hP.sub (ws' := [(h, .inr (1, [.int g0, .int g1, .int g2, .int g3, .int (nI cn), .ref g5, .int g6, .ref g7, .ref g8, .ref g9, .ref g10, .ref g11, .int g12, .int g13, .int g14, .ref g15, .int g16, .ref g17, .ref g18, .ref g19, .ref g20, .ref g21, .ref g22, .int g23, .ref g24, .int g25, .int g26, .int g27, .int g28, .ref g29, .int (nI (bs0 ++ [((ft kk) + (8 * (fd kk))) &&& 255] ++ encUf 4 (refN (cn + kk) i) ++ encUf 4 (refN (cn + kk) j)).length), .int g31, .int g32])), (g29, .inl (cB, 1400, .inl f_45))]) [5, 6] rfl
          have hDc := hD.sub (ws' := [(h, .inr (1, [.int g0, .int g1, .int g2, .int g3, .int (nI cn), .ref g5, .int g6, .ref g7, .ref g8, .ref g9, .ref g10, .ref g11, .int g12, .int g13, .int g14, .ref g15, .int g16, .ref g17, .ref g18, .ref g19, .ref g20, .ref g21, .ref g22, .int g23, .ref g24, .int g25, .int g26, .int g27, .int g28, .ref g29, .int (nI (bs0 ++ [((ft kk) + (8 * (fd kk))) &&& 255] ++ encUf 4 (refN (cn + kk) i) ++ encUf 4 (refN (cn + kk) j)).length), .int g31, .int g32])), (g29, .inl (cB, 1400, .inl f_45))]) [5, 6] (by decide) rfl
          have hFc := va_free (wc := [(h, .inr (1, [.int g0, .int g1, .int g2, .int g3, .int (nI cn), .ref g5, .int g6, .ref g7, .ref g8, .ref g9, .ref g10, .ref g11, .int g12, .int g13, .int g14, .ref g15, .int g16, .ref g17, .ref g18, .ref g19, .ref g20, .ref g21, .ref g22, .int g23, .ref g24, .int g25, .int g26, .int g27, .int g28, .ref g29, .int (nI (bs0 ++ [((ft kk) + (8 * (fd kk))) &&& 255] ++ encUf 4 (refN (cn + kk) i) ++ encUf 4 (refN (cn + kk) j)).length), .int g31, .int g32])), (g29, .inl (cB, 1400, .inl f_45))]) hD hS hA [5, 6] rfl
          refine va_callv (va_runV (As := [.int (fv kk)]) (rest := []) ⟨hx, hb, hml, hown, hw⟩ (cb_M_layS l dC dI cB cI cJ H.size h g0 g1 g2 g3 (nI cn) g6 g12 g13 g14 g16 g23 g25 g26 g27 g28 g31 g32 g5 g7 g8 g9 g10 g11 g15 g17 g18 g19 g20 g21 g22 g24 g29 f_45 (bs0 ++ [((ft kk) + (8 * (fd kk))) &&& 255] ++ encUf 4 (refN (cn + kk) i) ++ encUf 4 (refN (cn + kk) j)) hq_46 (fv kk) (by have h1 := encUf_le 4 (refN (cn + kk) i); have h3 := encUf_le 4 (refN (cn + kk) j); have h5 := encSf_le 4 (fv kk); simp only [List.length_append, List.length_cons, List.length_nil, encLk_len]; omega)) (kw_V 1 hw qq_755 qq_5 qq_758 qq_757 qs_M_layS rfl rfl (by decide +kernel) ⟨Nat.le_of_ble_eq_true rfl, Nat.le_of_ble_eq_true rfl⟩) ⟨fun a U g mk q => by obtain ⟨q0, q1, qP, qK, qD⟩ := q; exact ⟨q0, q1, qP, va_K.moved (u := U) (U := U.calling g mk a) (Vm.Alike.refl U.vm) qK, qD⟩, va_recv hK hPc (ci := 1) (q0 := 0) rfl rfl, fun U hU hW => ⟨rfl, by rw [hU], by rw [hU]; exact hPc, va_K.moved hW.alike hK, hDc.weaken (fun _ _ _ _ => trivial)⟩⟩ rfl rfl hl.1 rfl (lv_room (Nat.le_of_ble_eq_true rfl)) dd_M_layOperation_100 ⟨by first | exact Nat.le_of_ble_eq_true rfl | (simp only [headSpec]; omega), by first | exact Nat.le_of_ble_eq_true rfl | (simp only [headSpec]; omega)⟩) hS (fun q _ h => hFc q h) hFc (fun f_55 t H1 locs ht hvm hq_56 hB hz1 hk1 hS => ?_)
          obtain ⟨hP1, hK1, hD1⟩ := hB
          rw [ht] at hP1
          obtain ⟨hP, hD⟩ := va_join (wr := [(g7, .inl (cI, 16, .inl ft)), (g8, .inl (cI, 16, .inl fo)), (g9, .inl (cJ, 16, .inr (.inl fk))), (g10, .inl (cI, 16, .inl fd)), (g11, .inl (cI, 16, .inl fv))]) (w1 := [(h, .inr (1, [.int g0, .int g1, .int g2, .int g3, .int (nI cn), .ref g5, .int g6, .ref g7, .ref g8, .ref g9, .ref g10, .ref g11, .int g12, .int g13, .int g14, .ref g15, .int g16, .ref g17, .ref g18, .ref g19, .ref g20, .ref g21, .ref g22, .int g23, .ref g24, .int g25, .int g26, .int g27, .int g28, .ref g29, .int (nI (bs0 ++ [((ft kk) + (8 * (fd kk))) &&& 255] ++ encUf 4 (refN (cn + kk) i) ++ encUf 4 (refN (cn + kk) j) ++ encSf 4 (fv kk)).length), .int g31, .int g32])), (g29, .inl (cB, 1400, .inl f_55))]) hP hD [5, 6] [0, 1, 2, 3, 4] rfl rfl (by decide) (by decide) hk1 hFc hP1 hD1
          clear hP1 hK1 hD1 ht hvm hz1 hk1 hPc hDc hFc
          generalize H1 = H at hP hS ⊢
          have hP : va_P (dC, dI) vcl [(g7, .inl (cI, 16, .inl ft)), (g8, .inl (cI, 16, .inl fo)), (g9, .inl (cJ, 16, .inr (.inl fk))), (g10, .inl (cI, 16, .inl fd)), (g11, .inl (cI, 16, .inl fv)), (h, .inr (1, [.int g0, .int g1, .int g2, .int g3, .int (nI cn), .ref g5, .int g6, .ref g7, .ref g8, .ref g9, .ref g10, .ref g11, .int g12, .int g13, .int g14, .ref g15, .int g16, .ref g17, .ref g18, .ref g19, .ref g20, .ref g21, .ref g22, .int g23, .ref g24, .int g25, .int g26, .int g27, .int g28, .ref g29, .int (nI (bs0 ++ [((ft kk) + (8 * (fd kk))) &&& 255] ++ encUf 4 (refN (cn + kk) i) ++ encUf 4 (refN (cn + kk) j) ++ encSf 4 (fv kk)).length), .int g31, .int g32])), (g29, .inl (cB, 1400, .inl f_55))] H := hP
          have hD : va_D A [(g7, .inl (cI, 16, .inl ft)), (g8, .inl (cI, 16, .inl fo)), (g9, .inl (cJ, 16, .inr (.inl fk))), (g10, .inl (cI, 16, .inl fd)), (g11, .inl (cI, 16, .inl fv)), (h, .inr (1, [.int g0, .int g1, .int g2, .int g3, .int (nI cn), .ref g5, .int g6, .ref g7, .ref g8, .ref g9, .ref g10, .ref g11, .int g12, .int g13, .int g14, .ref g15, .int g16, .ref g17, .ref g18, .ref g19, .ref g20, .ref g21, .ref g22, .int g23, .ref g24, .int g25, .int g26, .int g27, .int g28, .ref g29, .int (nI (bs0 ++ [((ft kk) + (8 * (fd kk))) &&& 255] ++ encUf 4 (refN (cn + kk) i) ++ encUf 4 (refN (cn + kk) j) ++ encSf 4 (fv kk)).length), .int g31, .int g32])), (g29, .inl (cB, 1400, .inl f_55))] := hD
          refine lv_goto (tgt := 154) hx hb dd_M_layOperation_103 (by decide) ?_
          have hfin : bs0 ++ [((ft kk) + (8 * (fd kk))) &&& 255] ++ encUf 4 (refN (cn + kk) i) ++ encUf 4 (refN (cn + kk) j) ++ encSf 4 (fv kk) = bs0 ++ encOp (cn + kk) (ft kk) (fd kk) (fo kk) (fk kk) (fv kk) := by rw [encOp, encKey, encVal, if_pos c_10, if_neg c_11, if_neg c_47, if_pos c_53, refOf_nI ei hi, refOf_nI ej hj]; simp only [List.append_assoc, List.nil_append, List.append_nil, List.cons_append]
          have e_57 : (nI (bs0 ++ [((ft kk) + (8 * (fd kk))) &&& 255] ++ encUf 4 (refN (cn + kk) i) ++ encUf 4 (refN (cn + kk) j) ++ encSf 4 (fv kk)).length : Int32) = nI (bs0 ++ encOp (cn + kk) (ft kk) (fd kk) (fo kk) (fk kk) (fv kk)).length := (by rw [hfin])
          have hP : va_P (dC, dI) vcl [(g7, .inl (cI, 16, .inl ft)), (g8, .inl (cI, 16, .inl fo)), (g9, .inl (cJ, 16, .inr (.inl fk))), (g10, .inl (cI, 16, .inl fd)), (g11, .inl (cI, 16, .inl fv)), (h, .inr (1, [.int g0, .int g1, .int g2, .int g3, .int (nI cn), .ref g5, .int g6, .ref g7, .ref g8, .ref g9, .ref g10, .ref g11, .int g12, .int g13, .int g14, .ref g15, .int g16, .ref g17, .ref g18, .ref g19, .ref g20, .ref g21, .ref g22, .int g23, .ref g24, .int g25, .int g26, .int g27, .int g28, .ref g29, .int (nI (bs0 ++ encOp (cn + kk) (ft kk) (fd kk) (fo kk) (fk kk) (fv kk)).length), .int g31, .int g32])), (g29, .inl (cB, 1400, .inl f_55))] H := by rw [← e_57]; exact hP
          have hD : va_D A [(g7, .inl (cI, 16, .inl ft)), (g8, .inl (cI, 16, .inl fo)), (g9, .inl (cJ, 16, .inr (.inl fk))), (g10, .inl (cI, 16, .inl fd)), (g11, .inl (cI, 16, .inl fv)), (h, .inr (1, [.int g0, .int g1, .int g2, .int g3, .int (nI cn), .ref g5, .int g6, .ref g7, .ref g8, .ref g9, .ref g10, .ref g11, .int g12, .int g13, .int g14, .ref g15, .int g16, .ref g17, .ref g18, .ref g19, .ref g20, .ref g21, .ref g22, .int g23, .ref g24, .int g25, .int g26, .int g27, .int g28, .ref g29, .int (nI (bs0 ++ encOp (cn + kk) (ft kk) (fd kk) (fo kk) (fk kk) (fv kk)).length), .int g31, .int g32])), (g29, .inl (cB, 1400, .inl f_55))] := by rw [← e_57]; exact hD
          have hP9 := hP.sub (ws' := [(h, .inr (1, [.int g0, .int g1, .int g2, .int g3, .int (nI cn), .ref g5, .int g6, .ref g7, .ref g8, .ref g9, .ref g10, .ref g11, .int g12, .int g13, .int g14, .ref g15, .int g16, .ref g17, .ref g18, .ref g19, .ref g20, .ref g21, .ref g22, .int g23, .ref g24, .int g25, .int g26, .int g27, .int g28, .ref g29, .int (nI (bs0 ++ encOp (cn + kk) (ft kk) (fd kk) (fo kk) (fk kk) (fv kk)).length), .int g31, .int g32])), (g29, .inl (cB, 1400, .inl f_55)), (g7, .inl (cI, 16, .inl ft)), (g8, .inl (cI, 16, .inl fo)), (g9, .inl (cJ, 16, .inr (.inl fk))), (g10, .inl (cI, 16, .inl fd)), (g11, .inl (cI, 16, .inl fv))]) [5, 6, 0, 1, 2, 3, 4] rfl
          have hD9 := hD.sub (ws' := [(h, .inr (1, [.int g0, .int g1, .int g2, .int g3, .int (nI cn), .ref g5, .int g6, .ref g7, .ref g8, .ref g9, .ref g10, .ref g11, .int g12, .int g13, .int g14, .ref g15, .int g16, .ref g17, .ref g18, .ref g19, .ref g20, .ref g21, .ref g22, .int g23, .ref g24, .int g25, .int g26, .int g27, .int g28, .ref g29, .int (nI (bs0 ++ encOp (cn + kk) (ft kk) (fd kk) (fo kk) (fk kk) (fv kk)).length), .int g31, .int g32])), (g29, .inl (cB, 1400, .inl f_55)), (g7, .inl (cI, 16, .inl ft)), (g8, .inl (cI, 16, .inl fo)), (g9, .inl (cJ, 16, .inr (.inl fk))), (g10, .inl (cI, 16, .inl fd)), (g11, .inl (cI, 16, .inl fv))]) [5, 6, 0, 1, 2, 3, 4] (by decide) rfl
          refine W.widen (k := 0) (n := 0) (by first | exact Nat.le_refl _ | omega) (by first | exact Nat.le_refl _ | omega) ?_
          exact W.vret hx hb hr (fun t ht hW => ⟨⟨f_55, rfl, (by rw [← hfin]; exact hq_56), by rw [ht]; exact hP9, va_K.moved hW.alike hK, hD9⟩, hS.F ht⟩) hS.2.2 dd_M_layOperation_154
        · refine lv_aload_n hx hb dd_M_layOperation_83 rfl (lv_at hl 1 rfl) ?_
          refine va_get (D := (dC, dI)) (ci := 1) (v := .ref g10) (C := RR_M) (T := TT_M) (N := 33) hx hb hw hh_M hown hK hP 5 rfl rfl 10 (by decide) (hw _ qq_589) (fun _ h9 => h9) rfl dd_M_layOperation_84 ?_
          refine lv_iload_n hx hb dd_M_layOperation_87 rfl (lv_at hl 2 rfl) ?_
          refine va_iald hx hb hK hP 3 1 rfl rfl (vp_in_nI (by omega) (by decide)) dd_M_layOperation_88 ?_
          refine lv_topi (fun z_58 hz_58 => ?_)
          obtain rfl : z_58 = fd kk := hz_58.trans ((by rw [nI_clamp (by omega)]))
          refine lv_iconst (v := 4) hx hb dd_M_layOperation_89 (by decide) ?_
          refine lv_icmp_ne (tgt := 106) hx hb dd_M_layOperation_90 (by decide) (fun c_59 => ?_) (fun c_59 => ?_)
          · refine lv_aload_n hx hb dd_M_layOperation_106 rfl (lv_at hl 1 rfl) ?_
            refine va_get (D := (dC, dI)) (ci := 1) (v := .ref g10) (C := RR_M) (T := TT_M) (N := 33) hx hb hw hh_M hown hK hP 5 rfl rfl 10 (by decide) (hw _ qq_589) (fun _ h9 => h9) rfl dd_M_layOperation_107 ?_
            refine lv_iload_n hx hb dd_M_layOperation_110 rfl (lv_at hl 2 rfl) ?_
            refine va_iald hx hb hK hP 3 1 rfl rfl (vp_in_nI (by omega) (by decide)) dd_M_layOperation_111 ?_
            refine lv_topi (fun z_60 hz_60 => ?_)
            obtain rfl : z_60 = fd kk := hz_60.trans ((by rw [nI_clamp (by omega)]))
            refine lv_iconst (v := 1) hx hb dd_M_layOperation_112 (by decide) ?_
            refine lv_icmp_ne (tgt := 129) hx hb dd_M_layOperation_113 (by decide) (fun c_61 => ?_) (fun c_61 => ?_)
            · refine lv_aload_n hx hb dd_M_layOperation_129 rfl (lv_at hl 1 rfl) ?_
              refine va_get (D := (dC, dI)) (ci := 1) (v := .ref g10) (C := RR_M) (T := TT_M) (N := 33) hx hb hw hh_M hown hK hP 5 rfl rfl 10 (by decide) (hw _ qq_589) (fun _ h9 => h9) rfl dd_M_layOperation_130 ?_
              refine lv_iload_n hx hb dd_M_layOperation_133 rfl (lv_at hl 2 rfl) ?_
              refine va_iald hx hb hK hP 3 1 rfl rfl (vp_in_nI (by omega) (by decide)) dd_M_layOperation_134 ?_
              refine lv_topi (fun z_62 hz_62 => ?_)
              obtain rfl : z_62 = fd kk := hz_62.trans ((by rw [nI_clamp (by omega)]))
              refine lv_iconst (v := 3) hx hb dd_M_layOperation_135 (by decide) ?_
              refine lv_icmp_ne (tgt := 154) hx hb dd_M_layOperation_136 (by decide) (fun c_63 => ?_) (fun c_63 => ?_)
              · have hfin : bs0 ++ [((ft kk) + (8 * (fd kk))) &&& 255] ++ encUf 4 (refN (cn + kk) i) ++ encUf 4 (refN (cn + kk) j) = bs0 ++ encOp (cn + kk) (ft kk) (fd kk) (fo kk) (fk kk) (fv kk) := by rw [encOp, encKey, encVal, if_pos c_10, if_neg c_11, if_neg c_47, if_neg c_53, if_neg c_59, if_neg c_61, if_neg c_63, refOf_nI ei hi, refOf_nI ej hj]; simp only [List.append_assoc, List.nil_append, List.append_nil, List.cons_append]
                have e_64 : (nI (bs0 ++ [((ft kk) + (8 * (fd kk))) &&& 255] ++ encUf 4 (refN (cn + kk) i) ++ encUf 4 (refN (cn + kk) j)).length : Int32) = nI (bs0 ++ encOp (cn + kk) (ft kk) (fd kk) (fo kk) (fk kk) (fv kk)).length := (by rw [hfin])
                have hP : va_P (dC, dI) vcl [(g7, .inl (cI, 16, .inl ft)), (g8, .inl (cI, 16, .inl fo)), (g9, .inl (cJ, 16, .inr (.inl fk))), (g10, .inl (cI, 16, .inl fd)), (g11, .inl (cI, 16, .inl fv)), (h, .inr (1, [.int g0, .int g1, .int g2, .int g3, .int (nI cn), .ref g5, .int g6, .ref g7, .ref g8, .ref g9, .ref g10, .ref g11, .int g12, .int g13, .int g14, .ref g15, .int g16, .ref g17, .ref g18, .ref g19, .ref g20, .ref g21, .ref g22, .int g23, .ref g24, .int g25, .int g26, .int g27, .int g28, .ref g29, .int (nI (bs0 ++ encOp (cn + kk) (ft kk) (fd kk) (fo kk) (fk kk) (fv kk)).length), .int g31, .int g32])), (g29, .inl (cB, 1400, .inl f_45))] H := by rw [← e_64]; exact hP
                have hD : va_D A [(g7, .inl (cI, 16, .inl ft)), (g8, .inl (cI, 16, .inl fo)), (g9, .inl (cJ, 16, .inr (.inl fk))), (g10, .inl (cI, 16, .inl fd)), (g11, .inl (cI, 16, .inl fv)), (h, .inr (1, [.int g0, .int g1, .int g2, .int g3, .int (nI cn), .ref g5, .int g6, .ref g7, .ref g8, .ref g9, .ref g10, .ref g11, .int g12, .int g13, .int g14, .ref g15, .int g16, .ref g17, .ref g18, .ref g19, .ref g20, .ref g21, .ref g22, .int g23, .ref g24, .int g25, .int g26, .int g27, .int g28, .ref g29, .int (nI (bs0 ++ encOp (cn + kk) (ft kk) (fd kk) (fo kk) (fk kk) (fv kk)).length), .int g31, .int g32])), (g29, .inl (cB, 1400, .inl f_45))] := by rw [← e_64]; exact hD
                have hP9 := hP.sub (ws' := [(h, .inr (1, [.int g0, .int g1, .int g2, .int g3, .int (nI cn), .ref g5, .int g6, .ref g7, .ref g8, .ref g9, .ref g10, .ref g11, .int g12, .int g13, .int g14, .ref g15, .int g16, .ref g17, .ref g18, .ref g19, .ref g20, .ref g21, .ref g22, .int g23, .ref g24, .int g25, .int g26, .int g27, .int g28, .ref g29, .int (nI (bs0 ++ encOp (cn + kk) (ft kk) (fd kk) (fo kk) (fk kk) (fv kk)).length), .int g31, .int g32])), (g29, .inl (cB, 1400, .inl f_45)), (g7, .inl (cI, 16, .inl ft)), (g8, .inl (cI, 16, .inl fo)), (g9, .inl (cJ, 16, .inr (.inl fk))), (g10, .inl (cI, 16, .inl fd)), (g11, .inl (cI, 16, .inl fv))]) [5, 6, 0, 1, 2, 3, 4] rfl
                have hD9 := hD.sub (ws' := [(h, .inr (1, [.int g0, .int g1, .int g2, .int g3, .int (nI cn), .ref g5, .int g6, .ref g7, .ref g8, .ref g9, .ref g10, .ref g11, .int g12, .int g13, .int g14, .ref g15, .int g16, .ref g17, .ref g18, .ref g19, .ref g20, .ref g21, .ref g22, .int g23, .ref g24, .int g25, .int g26, .int g27, .int g28, .ref g29, .int (nI (bs0 ++ encOp (cn + kk) (ft kk) (fd kk) (fo kk) (fk kk) (fv kk)).length), .int g31, .int g32])), (g29, .inl (cB, 1400, .inl f_45)), (g7, .inl (cI, 16, .inl ft)), (g8, .inl (cI, 16, .inl fo)), (g9, .inl (cJ, 16, .inr (.inl fk))), (g10, .inl (cI, 16, .inl fd)), (g11, .inl (cI, 16, .inl fv))]) [5, 6, 0, 1, 2, 3, 4] (by decide) rfl
                refine W.widen (k := 0) (n := 0) (by first | exact Nat.le_refl _ | omega) (by first | exact Nat.le_refl _ | omega) ?_
                exact W.vret hx hb hr (fun t ht hW => ⟨⟨f_45, rfl, (by rw [← hfin]; exact hq_46), by rw [ht]; exact hP9, va_K.moved hW.alike hK, hD9⟩, hS.F ht⟩) hS.2.2 dd_M_layOperation_154
              · refine lv_aload_n hx hb dd_M_layOperation_139 rfl (lv_at hl 1 rfl) ?_
                refine lv_aload_n hx hb dd_M_layOperation_140 rfl (lv_at hl 1 rfl) ?_
                refine va_get (D := (dC, dI)) (ci := 1) (v := .ref g11) (C := RR_M) (T := TT_M) (N := 33) hx hb hw hh_M hown hK hP 5 rfl rfl 11 (by decide) (hw _ qq_590) (fun _ h9 => h9) rfl dd_M_layOperation_141 ?_
                refine lv_iload_n hx hb dd_M_layOperation_144 rfl (lv_at hl 2 rfl) ?_
                refine va_iald hx hb hK hP 4 1 rfl rfl (vp_in_nI (by omega) (by decide)) dd_M_layOperation_145 ?_
                refine lv_topi (fun z_65 hz_65 => ?_)
                obtain rfl : z_65 = fv kk := hz_65.trans ((by rw [nI_clamp (by omega)]))
                refine lv_i2l (v := (fv kk).toInt64) hx hb dd_M_layOperation_146 rfl ?_
                refine lv_ldc2 (v := 4294967295) hx hb hown (hw _ qq_718) dd_M_layOperation_147 ?_
                refine lv_land hx hb dd_M_layOperation_150 ?_
                obtain ⟨n2, hn2⟩ := hkv c_63
                have hn28 := ltrs_le 8 _ n2 hn2
                have hPc := hP.sub (ws' := [(h, .inr (1, [.int g0, .int g1, .int g2, .int g3, .int (nI cn), .ref g5, .int g6, .ref g7, .ref g8, .ref g9, .ref g10, .ref g11, .int g12, .int g13, .int g14, .ref g15, .int g16, .ref g17, .ref g18, .ref g19, .ref g20, .ref g21, .ref g22, .int g23, .ref g24, .int g25, .int g26, .int g27, .int g28, .ref g29, .int (nI (bs0 ++ [((ft kk) + (8 * (fd kk))) &&& 255] ++ encUf 4 (refN (cn + kk) i) ++ encUf 4 (refN (cn + kk) j)).length), .int g31, .int g32])), (g29, .inl (cB, 1400, .inl f_45))]) [5, 6] rfl
                have hDc := hD.sub (ws' := [(h, .inr (1, [.int g0, .int g1, .int g2, .int g3, .int (nI cn), .ref g5, .int g6, .ref g7, .ref g8, .ref g9, .ref g10, .ref g11, .int g12, .int g13, .int g14, .ref g15, .int g16, .ref g17, .ref g18, .ref g19, .ref g20, .ref g21, .ref g22, .int g23, .ref g24, .int g25, .int g26, .int g27, .int g28, .ref g29, .int (nI (bs0 ++ [((ft kk) + (8 * (fd kk))) &&& 255] ++ encUf 4 (refN (cn + kk) i) ++ encUf 4 (refN (cn + kk) j)).length), .int g31, .int g32])), (g29, .inl (cB, 1400, .inl f_45))]) [5, 6] (by decide) rfl
                have hFc := va_free (wc := [(h, .inr (1, [.int g0, .int g1, .int g2, .int g3, .int (nI cn), .ref g5, .int g6, .ref g7, .ref g8, .ref g9, .ref g10, .ref g11, .int g12, .int g13, .int g14, .ref g15, .int g16, .ref g17, .ref g18, .ref g19, .ref g20, .ref g21, .ref g22, .int g23, .ref g24, .int g25, .int g26, .int g27, .int g28, .ref g29, .int (nI (bs0 ++ [((ft kk) + (8 * (fd kk))) &&& 255] ++ encUf 4 (refN (cn + kk) i) ++ encUf 4 (refN (cn + kk) j)).length), .int g31, .int g32])), (g29, .inl (cB, 1400, .inl f_45))]) hD hS hA [5, 6] rfl
                refine va_callv (va_runV (As := [.long (((fv kk).toInt64) &&& 4294967295)]) (rest := []) ⟨hx, hb, hml, hown, hw⟩ (cb_M_layLetters l dC dI cB cI cJ H.size h g0 g1 g2 g3 (nI cn) g6 g12 g13 g14 g16 g23 g25 g26 g27 g28 g31 g32 g5 g7 g8 g9 g10 g11 g15 g17 g18 g19 g20 g21 g22 g24 g29 f_45 (bs0 ++ [((ft kk) + (8 * (fd kk))) &&& 255] ++ encUf 4 (refN (cn + kk) i) ++ encUf 4 (refN (cn + kk) j)) hq_46 (((fv kk).toInt64) &&& 4294967295) n2 hn2 (by have h1 := encUf_le 4 (refN (cn + kk) i); have h3 := encUf_le 4 (refN (cn + kk) j); simp only [List.length_append, List.length_cons, List.length_nil, encLk_len]; omega)) (kw_V 1 hw qq_751 qq_5 qq_754 qq_753 qs_M_layLetters rfl rfl (by decide +kernel) ⟨Nat.le_of_ble_eq_true rfl, Nat.le_of_ble_eq_true rfl⟩) ⟨fun a U g mk q => by obtain ⟨q0, q1, qP, qK, qD⟩ := q; exact ⟨q0, q1, qP, va_K.moved (u := U) (U := U.calling g mk a) (Vm.Alike.refl U.vm) qK, qD⟩, va_recv hK hPc (ci := 1) (q0 := 0) rfl rfl, fun U hU hW => ⟨rfl, by rw [hU], by rw [hU]; exact hPc, va_K.moved hW.alike hK, hDc.weaken (fun _ _ _ _ => trivial)⟩⟩ rfl rfl hl.1 rfl (lv_room (Nat.le_of_ble_eq_true rfl)) dd_M_layOperation_151 ⟨by first | exact Nat.le_of_ble_eq_true rfl | (simp only [headSpec]; omega), by first | exact Nat.le_of_ble_eq_true rfl | (simp only [headSpec]; omega)⟩) hS (fun q _ h => hFc q h) hFc (fun f_66 t H1 locs ht hvm hq_67 hB hz1 hk1 hS => ?_)
                obtain ⟨hP1, hK1, hD1⟩ := hB
                rw [ht] at hP1
                obtain ⟨hP, hD⟩ := va_join (wr := [(g7, .inl (cI, 16, .inl ft)), (g8, .inl (cI, 16, .inl fo)), (g9, .inl (cJ, 16, .inr (.inl fk))), (g10, .inl (cI, 16, .inl fd)), (g11, .inl (cI, 16, .inl fv))]) (w1 := [(h, .inr (1, [.int g0, .int g1, .int g2, .int g3, .int (nI cn), .ref g5, .int g6, .ref g7, .ref g8, .ref g9, .ref g10, .ref g11, .int g12, .int g13, .int g14, .ref g15, .int g16, .ref g17, .ref g18, .ref g19, .ref g20, .ref g21, .ref g22, .int g23, .ref g24, .int g25, .int g26, .int g27, .int g28, .ref g29, .int (nI (bs0 ++ [((ft kk) + (8 * (fd kk))) &&& 255] ++ encUf 4 (refN (cn + kk) i) ++ encUf 4 (refN (cn + kk) j) ++ (nI n2 :: encLk n2 (((fv kk).toInt64) &&& 4294967295))).length), .int g31, .int g32])), (g29, .inl (cB, 1400, .inl f_66))]) hP hD [5, 6] [0, 1, 2, 3, 4] rfl rfl (by decide) (by decide) hk1 hFc hP1 hD1
                clear hP1 hK1 hD1 ht hvm hz1 hk1 hPc hDc hFc
                generalize H1 = H at hP hS ⊢
                have hP : va_P (dC, dI) vcl [(g7, .inl (cI, 16, .inl ft)), (g8, .inl (cI, 16, .inl fo)), (g9, .inl (cJ, 16, .inr (.inl fk))), (g10, .inl (cI, 16, .inl fd)), (g11, .inl (cI, 16, .inl fv)), (h, .inr (1, [.int g0, .int g1, .int g2, .int g3, .int (nI cn), .ref g5, .int g6, .ref g7, .ref g8, .ref g9, .ref g10, .ref g11, .int g12, .int g13, .int g14, .ref g15, .int g16, .ref g17, .ref g18, .ref g19, .ref g20, .ref g21, .ref g22, .int g23, .ref g24, .int g25, .int g26, .int g27, .int g28, .ref g29, .int (nI (bs0 ++ [((ft kk) + (8 * (fd kk))) &&& 255] ++ encUf 4 (refN (cn + kk) i) ++ encUf 4 (refN (cn + kk) j) ++ (nI n2 :: encLk n2 (((fv kk).toInt64) &&& 4294967295))).length), .int g31, .int g32])), (g29, .inl (cB, 1400, .inl f_66))] H := hP
                have hD : va_D A [(g7, .inl (cI, 16, .inl ft)), (g8, .inl (cI, 16, .inl fo)), (g9, .inl (cJ, 16, .inr (.inl fk))), (g10, .inl (cI, 16, .inl fd)), (g11, .inl (cI, 16, .inl fv)), (h, .inr (1, [.int g0, .int g1, .int g2, .int g3, .int (nI cn), .ref g5, .int g6, .ref g7, .ref g8, .ref g9, .ref g10, .ref g11, .int g12, .int g13, .int g14, .ref g15, .int g16, .ref g17, .ref g18, .ref g19, .ref g20, .ref g21, .ref g22, .int g23, .ref g24, .int g25, .int g26, .int g27, .int g28, .ref g29, .int (nI (bs0 ++ [((ft kk) + (8 * (fd kk))) &&& 255] ++ encUf 4 (refN (cn + kk) i) ++ encUf 4 (refN (cn + kk) j) ++ (nI n2 :: encLk n2 (((fv kk).toInt64) &&& 4294967295))).length), .int g31, .int g32])), (g29, .inl (cB, 1400, .inl f_66))] := hD
                have hfin : bs0 ++ [((ft kk) + (8 * (fd kk))) &&& 255] ++ encUf 4 (refN (cn + kk) i) ++ encUf 4 (refN (cn + kk) j) ++ (nI n2 :: encLk n2 (((fv kk).toInt64) &&& 4294967295)) = bs0 ++ encOp (cn + kk) (ft kk) (fd kk) (fo kk) (fk kk) (fv kk) := by rw [encOp, encKey, encVal, if_pos c_10, if_neg c_11, if_neg c_47, if_neg c_53, if_neg c_59, if_neg c_61, if_pos c_63, refOf_nI ei hi, refOf_nI ej hj, encLt_some hn2]; simp only [List.append_assoc, List.nil_append, List.append_nil, List.cons_append]
                have e_68 : (nI (bs0 ++ [((ft kk) + (8 * (fd kk))) &&& 255] ++ encUf 4 (refN (cn + kk) i) ++ encUf 4 (refN (cn + kk) j) ++ (nI n2 :: encLk n2 (((fv kk).toInt64) &&& 4294967295))).length : Int32) = nI (bs0 ++ encOp (cn + kk) (ft kk) (fd kk) (fo kk) (fk kk) (fv kk)).length := (by rw [hfin])
                have hP : va_P (dC, dI) vcl [(g7, .inl (cI, 16, .inl ft)), (g8, .inl (cI, 16, .inl fo)), (g9, .inl (cJ, 16, .inr (.inl fk))), (g10, .inl (cI, 16, .inl fd)), (g11, .inl (cI, 16, .inl fv)), (h, .inr (1, [.int g0, .int g1, .int g2, .int g3, .int (nI cn), .ref g5, .int g6, .ref g7, .ref g8, .ref g9, .ref g10, .ref g11, .int g12, .int g13, .int g14, .ref g15, .int g16, .ref g17, .ref g18, .ref g19, .ref g20, .ref g21, .ref g22, .int g23, .ref g24, .int g25, .int g26, .int g27, .int g28, .ref g29, .int (nI (bs0 ++ encOp (cn + kk) (ft kk) (fd kk) (fo kk) (fk kk) (fv kk)).length), .int g31, .int g32])), (g29, .inl (cB, 1400, .inl f_66))] H := by rw [← e_68]; exact hP
                have hD : va_D A [(g7, .inl (cI, 16, .inl ft)), (g8, .inl (cI, 16, .inl fo)), (g9, .inl (cJ, 16, .inr (.inl fk))), (g10, .inl (cI, 16, .inl fd)), (g11, .inl (cI, 16, .inl fv)), (h, .inr (1, [.int g0, .int g1, .int g2, .int g3, .int (nI cn), .ref g5, .int g6, .ref g7, .ref g8, .ref g9, .ref g10, .ref g11, .int g12, .int g13, .int g14, .ref g15, .int g16, .ref g17, .ref g18, .ref g19, .ref g20, .ref g21, .ref g22, .int g23, .ref g24, .int g25, .int g26, .int g27, .int g28, .ref g29, .int (nI (bs0 ++ encOp (cn + kk) (ft kk) (fd kk) (fo kk) (fk kk) (fv kk)).length), .int g31, .int g32])), (g29, .inl (cB, 1400, .inl f_66))] := by rw [← e_68]; exact hD
                have hP9 := hP.sub (ws' := [(h, .inr (1, [.int g0, .int g1, .int g2, .int g3, .int (nI cn), .ref g5, .int g6, .ref g7, .ref g8, .ref g9, .ref g10, .ref g11, .int g12, .int g13, .int g14, .ref g15, .int g16, .ref g17, .ref g18, .ref g19, .ref g20, .ref g21, .ref g22, .int g23, .ref g24, .int g25, .int g26, .int g27, .int g28, .ref g29, .int (nI (bs0 ++ encOp (cn + kk) (ft kk) (fd kk) (fo kk) (fk kk) (fv kk)).length), .int g31, .int g32])), (g29, .inl (cB, 1400, .inl f_66)), (g7, .inl (cI, 16, .inl ft)), (g8, .inl (cI, 16, .inl fo)), (g9, .inl (cJ, 16, .inr (.inl fk))), (g10, .inl (cI, 16, .inl fd)), (g11, .inl (cI, 16, .inl fv))]) [5, 6, 0, 1, 2, 3, 4] rfl
                have hD9 := hD.sub (ws' := [(h, .inr (1, [.int g0, .int g1, .int g2, .int g3, .int (nI cn), .ref g5, .int g6, .ref g7, .ref g8, .ref g9, .ref g10, .ref g11, .int g12, .int g13, .int g14, .ref g15, .int g16, .ref g17, .ref g18, .ref g19, .ref g20, .ref g21, .ref g22, .int g23, .ref g24, .int g25, .int g26, .int g27, .int g28, .ref g29, .int (nI (bs0 ++ encOp (cn + kk) (ft kk) (fd kk) (fo kk) (fk kk) (fv kk)).length), .int g31, .int g32])), (g29, .inl (cB, 1400, .inl f_66)), (g7, .inl (cI, 16, .inl ft)), (g8, .inl (cI, 16, .inl fo)), (g9, .inl (cJ, 16, .inr (.inl fk))), (g10, .inl (cI, 16, .inl fd)), (g11, .inl (cI, 16, .inl fv))]) [5, 6, 0, 1, 2, 3, 4] (by decide) rfl
                refine W.widen (k := 0) (n := 0) (by first | exact Nat.le_refl _ | omega) (by first | exact Nat.le_refl _ | omega) ?_
                exact W.vret hx hb hr (fun t ht hW => ⟨⟨f_66, rfl, (by rw [← hfin]; exact hq_67), by rw [ht]; exact hP9, va_K.moved hW.alike hK, hD9⟩, hS.F ht⟩) hS.2.2 dd_M_layOperation_154
            · refine lv_aload_n hx hb dd_M_layOperation_116 rfl (lv_at hl 1 rfl) ?_
              refine lv_aload_n hx hb dd_M_layOperation_117 rfl (lv_at hl 1 rfl) ?_
              refine va_get (D := (dC, dI)) (ci := 1) (v := .ref g11) (C := RR_M) (T := TT_M) (N := 33) hx hb hw hh_M hown hK hP 5 rfl rfl 11 (by decide) (hw _ qq_590) (fun _ h9 => h9) rfl dd_M_layOperation_118 ?_
              refine lv_iload_n hx hb dd_M_layOperation_121 rfl (lv_at hl 2 rfl) ?_
              refine va_iald hx hb hK hP 4 1 rfl rfl (vp_in_nI (by omega) (by decide)) dd_M_layOperation_122 ?_
              refine lv_topi (fun z_69 hz_69 => ?_)
              obtain rfl : z_69 = fv kk := hz_69.trans ((by rw [nI_clamp (by omega)]))
              have hPc := hP.sub (ws' := [(h, .inr (1, [.int g0, .int g1, .int g2, .int g3, .int (nI cn), .ref g5, .int g6, .ref g7, .ref g8, .ref g9, .ref g10, .ref g11, .int g12, .int g13, .int g14, .ref g15, .int g16, .ref g17, .ref g18, .ref g19, .ref g20, .ref g21, .ref g22, .int g23, .ref g24, .int g25, .int g26, .int g27, .int g28, .ref g29, .int (nI (bs0 ++ [((ft kk) + (8 * (fd kk))) &&& 255] ++ encUf 4 (refN (cn + kk) i) ++ encUf 4 (refN (cn + kk) j)).length), .int g31, .int g32])), (g29, .inl (cB, 1400, .inl f_45))]) [5, 6] rfl
              have hDc := hD.sub (ws' := [(h, .inr (1, [.int g0, .int g1, .int g2, .int g3, .int (nI cn), .ref g5, .int g6, .ref g7, .ref g8, .ref g9, .ref g10, .ref g11, .int g12, .int g13, .int g14, .ref g15, .int g16, .ref g17, .ref g18, .ref g19, .ref g20, .ref g21, .ref g22, .int g23, .ref g24, .int g25, .int g26, .int g27, .int g28, .ref g29, .int (nI (bs0 ++ [((ft kk) + (8 * (fd kk))) &&& 255] ++ encUf 4 (refN (cn + kk) i) ++ encUf 4 (refN (cn + kk) j)).length), .int g31, .int g32])), (g29, .inl (cB, 1400, .inl f_45))]) [5, 6] (by decide) rfl
              have hFc := va_free (wc := [(h, .inr (1, [.int g0, .int g1, .int g2, .int g3, .int (nI cn), .ref g5, .int g6, .ref g7, .ref g8, .ref g9, .ref g10, .ref g11, .int g12, .int g13, .int g14, .ref g15, .int g16, .ref g17, .ref g18, .ref g19, .ref g20, .ref g21, .ref g22, .int g23, .ref g24, .int g25, .int g26, .int g27, .int g28, .ref g29, .int (nI (bs0 ++ [((ft kk) + (8 * (fd kk))) &&& 255] ++ encUf 4 (refN (cn + kk) i) ++ encUf 4 (refN (cn + kk) j)).length), .int g31, .int g32])), (g29, .inl (cB, 1400, .inl f_45))]) hD hS hA [5, 6] rfl
              refine va_callv (va_runV (As := [.int (fv kk)]) (rest := []) ⟨hx, hb, hml, hown, hw⟩ (cb_M_lay l dC dI cB cI cJ H.size h g0 g1 g2 g3 (nI cn) g6 g12 g13 g14 g16 g23 g25 g26 g27 g28 g31 g32 g5 g7 g8 g9 g10 g11 g15 g17 g18 g19 g20 g21 g22 g24 g29 f_45 (bs0 ++ [((ft kk) + (8 * (fd kk))) &&& 255] ++ encUf 4 (refN (cn + kk) i) ++ encUf 4 (refN (cn + kk) j)) hq_46 (fv kk) (by have h1 := encUf_le 4 (refN (cn + kk) i); have h3 := encUf_le 4 (refN (cn + kk) j); have h2 := encKey_le (cn + kk) (ft kk) (fk kk); simp only [List.length_append, List.length_cons, List.length_nil, encLk_len]; omega)) (kw_V 1 hw qq_735 qq_5 qq_738 qq_737 qs_M_lay rfl rfl (by decide +kernel) ⟨Nat.le_of_ble_eq_true rfl, Nat.le_of_ble_eq_true rfl⟩) ⟨fun a U g mk q => by obtain ⟨q0, q1, qP, qK, qD⟩ := q; exact ⟨q0, q1, qP, va_K.moved (u := U) (U := U.calling g mk a) (Vm.Alike.refl U.vm) qK, qD⟩, va_recv hK hPc (ci := 1) (q0 := 0) rfl rfl, fun U hU hW => ⟨rfl, by rw [hU], by rw [hU]; exact hPc, va_K.moved hW.alike hK, hDc.weaken (fun _ _ _ _ => trivial)⟩⟩ rfl rfl hl.1 rfl (lv_room (Nat.le_of_ble_eq_true rfl)) dd_M_layOperation_123 ⟨by first | exact Nat.le_of_ble_eq_true rfl | (simp only [headSpec]; omega), by first | exact Nat.le_of_ble_eq_true rfl | (simp only [headSpec]; omega)⟩) hS (fun q _ h => hFc q h) hFc (fun f_70 t H1 locs ht hvm hq_71 hB hz1 hk1 hS => ?_)
              obtain ⟨hP1, hK1, hD1⟩ := hB
              rw [ht] at hP1
              obtain ⟨hP, hD⟩ := va_join (wr := [(g7, .inl (cI, 16, .inl ft)), (g8, .inl (cI, 16, .inl fo)), (g9, .inl (cJ, 16, .inr (.inl fk))), (g10, .inl (cI, 16, .inl fd)), (g11, .inl (cI, 16, .inl fv))]) (w1 := [(h, .inr (1, [.int g0, .int g1, .int g2, .int g3, .int (nI cn), .ref g5, .int g6, .ref g7, .ref g8, .ref g9, .ref g10, .ref g11, .int g12, .int g13, .int g14, .ref g15, .int g16, .ref g17, .ref g18, .ref g19, .ref g20, .ref g21, .ref g22, .int g23, .ref g24, .int g25, .int g26, .int g27, .int g28, .ref g29, .int (nI ((bs0 ++ [((ft kk) + (8 * (fd kk))) &&& 255] ++ encUf 4 (refN (cn + kk) i) ++ encUf 4 (refN (cn + kk) j)).length + 1)), .int g31, .int g32])), (g29, .inl (cB, 1400, .inl f_70))]) hP hD [5, 6] [0, 1, 2, 3, 4] rfl rfl (by decide) (by decide) hk1 hFc hP1 hD1
              clear hP1 hK1 hD1 ht hvm hz1 hk1 hPc hDc hFc
              generalize H1 = H at hP hS ⊢
              have hP : va_P (dC, dI) vcl [(g7, .inl (cI, 16, .inl ft)), (g8, .inl (cI, 16, .inl fo)), (g9, .inl (cJ, 16, .inr (.inl fk))), (g10, .inl (cI, 16, .inl fd)), (g11, .inl (cI, 16, .inl fv)), (h, .inr (1, [.int g0, .int g1, .int g2, .int g3, .int (nI cn), .ref g5, .int g6, .ref g7, .ref g8, .ref g9, .ref g10, .ref g11, .int g12, .int g13, .int g14, .ref g15, .int g16, .ref g17, .ref g18, .ref g19, .ref g20, .ref g21, .ref g22, .int g23, .ref g24, .int g25, .int g26, .int g27, .int g28, .ref g29, .int (nI ((bs0 ++ [((ft kk) + (8 * (fd kk))) &&& 255] ++ encUf 4 (refN (cn + kk) i) ++ encUf 4 (refN (cn + kk) j)).length + 1)), .int g31, .int g32])), (g29, .inl (cB, 1400, .inl f_70))] H := hP
              have hD : va_D A [(g7, .inl (cI, 16, .inl ft)), (g8, .inl (cI, 16, .inl fo)), (g9, .inl (cJ, 16, .inr (.inl fk))), (g10, .inl (cI, 16, .inl fd)), (g11, .inl (cI, 16, .inl fv)), (h, .inr (1, [.int g0, .int g1, .int g2, .int g3, .int (nI cn), .ref g5, .int g6, .ref g7, .ref g8, .ref g9, .ref g10, .ref g11, .int g12, .int g13, .int g14, .ref g15, .int g16, .ref g17, .ref g18, .ref g19, .ref g20, .ref g21, .ref g22, .int g23, .ref g24, .int g25, .int g26, .int g27, .int g28, .ref g29, .int (nI ((bs0 ++ [((ft kk) + (8 * (fd kk))) &&& 255] ++ encUf 4 (refN (cn + kk) i) ++ encUf 4 (refN (cn + kk) j)).length + 1)), .int g31, .int g32])), (g29, .inl (cB, 1400, .inl f_70))] := hD
              have hq_71 : Hd (bs0 ++ [((ft kk) + (8 * (fd kk))) &&& 255] ++ encUf 4 (refN (cn + kk) i) ++ encUf 4 (refN (cn + kk) j) ++ [(fv kk) &&& 255]) f_70 := by exact hq_71
              have e_72 : (nI ((bs0 ++ [((ft kk) + (8 * (fd kk))) &&& 255] ++ encUf 4 (refN (cn + kk) i) ++ encUf 4 (refN (cn + kk) j)).length + 1) : Int32) = nI (bs0 ++ [((ft kk) + (8 * (fd kk))) &&& 255] ++ encUf 4 (refN (cn + kk) i) ++ encUf 4 (refN (cn + kk) j) ++ [(fv kk) &&& 255]).length := (by simp only [List.length_append, List.length_cons, List.length_nil])
              have hP : va_P (dC, dI) vcl [(g7, .inl (cI, 16, .inl ft)), (g8, .inl (cI, 16, .inl fo)), (g9, .inl (cJ, 16, .inr (.inl fk))), (g10, .inl (cI, 16, .inl fd)), (g11, .inl (cI, 16, .inl fv)), (h, .inr (1, [.int g0, .int g1, .int g2, .int g3, .int (nI cn), .ref g5, .int g6, .ref g7, .ref g8, .ref g9, .ref g10, .ref g11, .int g12, .int g13, .int g14, .ref g15, .int g16, .ref g17, .ref g18, .ref g19, .ref g20, .ref g21, .ref g22, .int g23, .ref g24, .int g25, .int g26, .int g27, .int g28, .ref g29, .int (nI (bs0 ++ [((ft kk) + (8 * (fd kk))) &&& 255] ++ encUf 4 (refN (cn + kk) i) ++ encUf 4 (refN (cn + kk) j) ++ [(fv kk) &&& 255]).length), .int g31, .int g32])), (g29, .inl (cB, 1400, .inl f_70))] H := by rw [← e_72]; exact hP
              have hD : va_D A [(g7, .inl (cI, 16, .inl ft)), (g8, .inl (cI, 16, .inl fo)), (g9, .inl (cJ, 16, .inr (.inl fk))), (g10, .inl (cI, 16, .inl fd)), (g11, .inl (cI, 16, .inl fv)), (h, .inr (1, [.int g0, .int g1, .int g2, .int g3, .int (nI cn), .ref g5, .int g6, .ref g7, .ref g8, .ref g9, .ref g10, .ref g11, .int g12, .int g13, .int g14, .ref g15, .int g16, .ref g17, .ref g18, .ref g19, .ref g20, .ref g21, .ref g22, .int g23, .ref g24, .int g25, .int g26, .int g27, .int g28, .ref g29, .int (nI (bs0 ++ [((ft kk) + (8 * (fd kk))) &&& 255] ++ encUf 4 (refN (cn + kk) i) ++ encUf 4 (refN (cn + kk) j) ++ [(fv kk) &&& 255]).length), .int g31, .int g32])), (g29, .inl (cB, 1400, .inl f_70))] := by rw [← e_72]; exact hD
              refine lv_goto (tgt := 154) hx hb dd_M_layOperation_126 (by decide) ?_
              have hfin : bs0 ++ [((ft kk) + (8 * (fd kk))) &&& 255] ++ encUf 4 (refN (cn + kk) i) ++ encUf 4 (refN (cn + kk) j) ++ [(fv kk) &&& 255] = bs0 ++ encOp (cn + kk) (ft kk) (fd kk) (fo kk) (fk kk) (fv kk) := by rw [encOp, encKey, encVal, if_pos c_10, if_neg c_11, if_neg c_47, if_neg c_53, if_neg c_59, if_pos c_61, refOf_nI ei hi, refOf_nI ej hj]; simp only [List.append_assoc, List.nil_append, List.append_nil, List.cons_append]
              have e_73 : (nI (bs0 ++ [((ft kk) + (8 * (fd kk))) &&& 255] ++ encUf 4 (refN (cn + kk) i) ++ encUf 4 (refN (cn + kk) j) ++ [(fv kk) &&& 255]).length : Int32) = nI (bs0 ++ encOp (cn + kk) (ft kk) (fd kk) (fo kk) (fk kk) (fv kk)).length := (by rw [hfin])
              have hP : va_P (dC, dI) vcl [(g7, .inl (cI, 16, .inl ft)), (g8, .inl (cI, 16, .inl fo)), (g9, .inl (cJ, 16, .inr (.inl fk))), (g10, .inl (cI, 16, .inl fd)), (g11, .inl (cI, 16, .inl fv)), (h, .inr (1, [.int g0, .int g1, .int g2, .int g3, .int (nI cn), .ref g5, .int g6, .ref g7, .ref g8, .ref g9, .ref g10, .ref g11, .int g12, .int g13, .int g14, .ref g15, .int g16, .ref g17, .ref g18, .ref g19, .ref g20, .ref g21, .ref g22, .int g23, .ref g24, .int g25, .int g26, .int g27, .int g28, .ref g29, .int (nI (bs0 ++ encOp (cn + kk) (ft kk) (fd kk) (fo kk) (fk kk) (fv kk)).length), .int g31, .int g32])), (g29, .inl (cB, 1400, .inl f_70))] H := by rw [← e_73]; exact hP
              have hD : va_D A [(g7, .inl (cI, 16, .inl ft)), (g8, .inl (cI, 16, .inl fo)), (g9, .inl (cJ, 16, .inr (.inl fk))), (g10, .inl (cI, 16, .inl fd)), (g11, .inl (cI, 16, .inl fv)), (h, .inr (1, [.int g0, .int g1, .int g2, .int g3, .int (nI cn), .ref g5, .int g6, .ref g7, .ref g8, .ref g9, .ref g10, .ref g11, .int g12, .int g13, .int g14, .ref g15, .int g16, .ref g17, .ref g18, .ref g19, .ref g20, .ref g21, .ref g22, .int g23, .ref g24, .int g25, .int g26, .int g27, .int g28, .ref g29, .int (nI (bs0 ++ encOp (cn + kk) (ft kk) (fd kk) (fo kk) (fk kk) (fv kk)).length), .int g31, .int g32])), (g29, .inl (cB, 1400, .inl f_70))] := by rw [← e_73]; exact hD
              have hP9 := hP.sub (ws' := [(h, .inr (1, [.int g0, .int g1, .int g2, .int g3, .int (nI cn), .ref g5, .int g6, .ref g7, .ref g8, .ref g9, .ref g10, .ref g11, .int g12, .int g13, .int g14, .ref g15, .int g16, .ref g17, .ref g18, .ref g19, .ref g20, .ref g21, .ref g22, .int g23, .ref g24, .int g25, .int g26, .int g27, .int g28, .ref g29, .int (nI (bs0 ++ encOp (cn + kk) (ft kk) (fd kk) (fo kk) (fk kk) (fv kk)).length), .int g31, .int g32])), (g29, .inl (cB, 1400, .inl f_70)), (g7, .inl (cI, 16, .inl ft)), (g8, .inl (cI, 16, .inl fo)), (g9, .inl (cJ, 16, .inr (.inl fk))), (g10, .inl (cI, 16, .inl fd)), (g11, .inl (cI, 16, .inl fv))]) [5, 6, 0, 1, 2, 3, 4] rfl
              have hD9 := hD.sub (ws' := [(h, .inr (1, [.int g0, .int g1, .int g2, .int g3, .int (nI cn), .ref g5, .int g6, .ref g7, .ref g8, .ref g9, .ref g10, .ref g11, .int g12, .int g13, .int g14, .ref g15, .int g16, .ref g17, .ref g18, .ref g19, .ref g20, .ref g21, .ref g22, .int g23, .ref g24, .int g25, .int g26, .int g27, .int g28, .ref g29, .int (nI (bs0 ++ encOp (cn + kk) (ft kk) (fd kk) (fo kk) (fk kk) (fv kk)).length), .int g31, .int g32])), (g29, .inl (cB, 1400, .inl f_70)), (g7, .inl (cI, 16, .inl ft)), (g8, .inl (cI, 16, .inl fo)), (g9, .inl (cJ, 16, .inr (.inl fk))), (g10, .inl (cI, 16, .inl fd)), (g11, .inl (cI, 16, .inl fv))]) [5, 6, 0, 1, 2, 3, 4] (by decide) rfl
              refine W.widen (k := 0) (n := 0) (by first | exact Nat.le_refl _ | omega) (by first | exact Nat.le_refl _ | omega) ?_
              exact W.vret hx hb hr (fun t ht hW => ⟨⟨f_70, rfl, (by rw [← hfin]; exact hq_71), by rw [ht]; exact hP9, va_K.moved hW.alike hK, hD9⟩, hS.F ht⟩) hS.2.2 dd_M_layOperation_154
          · refine lv_aload_n hx hb dd_M_layOperation_93 rfl (lv_at hl 1 rfl) ?_
            refine lv_aload_n hx hb dd_M_layOperation_94 rfl (lv_at hl 1 rfl) ?_
            refine va_get (D := (dC, dI)) (ci := 1) (v := .ref g11) (C := RR_M) (T := TT_M) (N := 33) hx hb hw hh_M hown hK hP 5 rfl rfl 11 (by decide) (hw _ qq_590) (fun _ h9 => h9) rfl dd_M_layOperation_95 ?_
            refine lv_iload_n hx hb dd_M_layOperation_98 rfl (lv_at hl 2 rfl) ?_
            refine va_iald hx hb hK hP 4 1 rfl rfl (vp_in_nI (by omega) (by decide)) dd_M_layOperation_99 ?_
            refine lv_topi (fun z_74 hz_74 => ?_)
            obtain rfl : z_74 = fv kk := hz_74.trans ((by rw [nI_clamp (by omega)]))
            have hPc := hP.sub (ws' := [(h, .inr (1, [.int g0, .int g1, .int g2, .int g3, .int (nI cn), .ref g5, .int g6, .ref g7, .ref g8, .ref g9, .ref g10, .ref g11, .int g12, .int g13, .int g14, .ref g15, .int g16, .ref g17, .ref g18, .ref g19, .ref g20, .ref g21, .ref g22, .int g23, .ref g24, .int g25, .int g26, .int g27, .int g28, .ref g29, .int (nI (bs0 ++ [((ft kk) + (8 * (fd kk))) &&& 255] ++ encUf 4 (refN (cn + kk) i) ++ encUf 4 (refN (cn + kk) j)).length), .int g31, .int g32])), (g29, .inl (cB, 1400, .inl f_45))]) [5, 6] rfl
            have hDc := hD.sub (ws' := [(h, .inr (1, [.int g0, .int g1, .int g2, .int g3, .int (nI cn), .ref g5, .int g6, .ref g7, .ref g8, .ref g9, .ref g10, .ref g11, .int g12, .int g13, .int g14, .ref g15, .int g16, .ref g17, .ref g18, .ref g19, .ref g20, .ref g21, .ref g22, .int g23, .ref g24, .int g25, .int g26, .int g27, .int g28, .ref g29, .int (nI (bs0 ++ [((ft kk) + (8 * (fd kk))) &&& 255] ++ encUf 4 (refN (cn + kk) i) ++ encUf 4 (refN (cn + kk) j)).length), .int g31, .int g32])), (g29, .inl (cB, 1400, .inl f_45))]) [5, 6] (by decide) rfl
            have hFc := va_free (wc := [(h, .inr (1, [.int g0, .int g1, .int g2, .int g3, .int (nI cn), .ref g5, .int g6, .ref g7, .ref g8, .ref g9, .ref g10, .ref g11, .int g12, .int g13, .int g14, .ref g15, .int g16, .ref g17, .ref g18, .ref g19, .ref g20, .ref g21, .ref g22, .int g23, .ref g24, .int g25, .int g26, .int g27, .int g28, .ref g29, .int (nI (bs0 ++ [((ft kk) + (8 * (fd kk))) &&& 255] ++ encUf 4 (refN (cn + kk) i) ++ encUf 4 (refN (cn + kk) j)).length), .int g31, .int g32])), (g29, .inl (cB, 1400, .inl f_45))]) hD hS hA [5, 6] rfl
            refine va_callv (va_runV (As := [.int (fv kk)]) (rest := []) ⟨hx, hb, hml, hown, hw⟩ (cb_M_layS l dC dI cB cI cJ H.size h g0 g1 g2 g3 (nI cn) g6 g12 g13 g14 g16 g23 g25 g26 g27 g28 g31 g32 g5 g7 g8 g9 g10 g11 g15 g17 g18 g19 g20 g21 g22 g24 g29 f_45 (bs0 ++ [((ft kk) + (8 * (fd kk))) &&& 255] ++ encUf 4 (refN (cn + kk) i) ++ encUf 4 (refN (cn + kk) j)) hq_46 (fv kk) (by have h1 := encUf_le 4 (refN (cn + kk) i); have h3 := encUf_le 4 (refN (cn + kk) j); have h5 := encSf_le 4 (fv kk); simp only [List.length_append, List.length_cons, List.length_nil, encLk_len]; omega)) (kw_V 1 hw qq_755 qq_5 qq_758 qq_757 qs_M_layS rfl rfl (by decide +kernel) ⟨Nat.le_of_ble_eq_true rfl, Nat.le_of_ble_eq_true rfl⟩) ⟨fun a U g mk q => by obtain ⟨q0, q1, qP, qK, qD⟩ := q; exact ⟨q0, q1, qP, va_K.moved (u := U) (U := U.calling g mk a) (Vm.Alike.refl U.vm) qK, qD⟩, va_recv hK hPc (ci := 1) (q0 := 0) rfl rfl, fun U hU hW => ⟨rfl, by rw [hU], by rw [hU]; exact hPc, va_K.moved hW.alike hK, hDc.weaken (fun _ _ _ _ => trivial)⟩⟩ rfl rfl hl.1 rfl (lv_room (Nat.le_of_ble_eq_true rfl)) dd_M_layOperation_100 ⟨by first | exact Nat.le_of_ble_eq_true rfl | (simp only [headSpec]; omega), by first | exact Nat.le_of_ble_eq_true rfl | (simp only [headSpec]; omega)⟩) hS (fun q _ h => hFc q h) hFc (fun f_75 t H1 locs ht hvm hq_76 hB hz1 hk1 hS => ?_)
            obtain ⟨hP1, hK1, hD1⟩ := hB
            rw [ht] at hP1
            obtain ⟨hP, hD⟩ := va_join (wr := [(g7, .inl (cI, 16, .inl ft)), (g8, .inl (cI, 16, .inl fo)), (g9, .inl (cJ, 16, .inr (.inl fk))), (g10, .inl (cI, 16, .inl fd)), (g11, .inl (cI, 16, .inl fv))]) (w1 := [(h, .inr (1, [.int g0, .int g1, .int g2, .int g3, .int (nI cn), .ref g5, .int g6, .ref g7, .ref g8, .ref g9, .ref g10, .ref g11, .int g12, .int g13, .int g14, .ref g15, .int g16, .ref g17, .ref g18, .ref g19, .ref g20, .ref g21, .ref g22, .int g23, .ref g24, .int g25, .int g26, .int g27, .int g28, .ref g29, .int (nI (bs0 ++ [((ft kk) + (8 * (fd kk))) &&& 255] ++ encUf 4 (refN (cn + kk) i) ++ encUf 4 (refN (cn + kk) j) ++ encSf 4 (fv kk)).length), .int g31, .int g32])), (g29, .inl (cB, 1400, .inl f_75))]) hP hD [5, 6] [0, 1, 2, 3, 4] rfl rfl (by decide) (by decide) hk1 hFc hP1 hD1
            clear hP1 hK1 hD1 ht hvm hz1 hk1 hPc hDc hFc
            generalize H1 = H at hP hS ⊢
            have hP : va_P (dC, dI) vcl [(g7, .inl (cI, 16, .inl ft)), (g8, .inl (cI, 16, .inl fo)), (g9, .inl (cJ, 16, .inr (.inl fk))), (g10, .inl (cI, 16, .inl fd)), (g11, .inl (cI, 16, .inl fv)), (h, .inr (1, [.int g0, .int g1, .int g2, .int g3, .int (nI cn), .ref g5, .int g6, .ref g7, .ref g8, .ref g9, .ref g10, .ref g11, .int g12, .int g13, .int g14, .ref g15, .int g16, .ref g17, .ref g18, .ref g19, .ref g20, .ref g21, .ref g22, .int g23, .ref g24, .int g25, .int g26, .int g27, .int g28, .ref g29, .int (nI (bs0 ++ [((ft kk) + (8 * (fd kk))) &&& 255] ++ encUf 4 (refN (cn + kk) i) ++ encUf 4 (refN (cn + kk) j) ++ encSf 4 (fv kk)).length), .int g31, .int g32])), (g29, .inl (cB, 1400, .inl f_75))] H := hP
            have hD : va_D A [(g7, .inl (cI, 16, .inl ft)), (g8, .inl (cI, 16, .inl fo)), (g9, .inl (cJ, 16, .inr (.inl fk))), (g10, .inl (cI, 16, .inl fd)), (g11, .inl (cI, 16, .inl fv)), (h, .inr (1, [.int g0, .int g1, .int g2, .int g3, .int (nI cn), .ref g5, .int g6, .ref g7, .ref g8, .ref g9, .ref g10, .ref g11, .int g12, .int g13, .int g14, .ref g15, .int g16, .ref g17, .ref g18, .ref g19, .ref g20, .ref g21, .ref g22, .int g23, .ref g24, .int g25, .int g26, .int g27, .int g28, .ref g29, .int (nI (bs0 ++ [((ft kk) + (8 * (fd kk))) &&& 255] ++ encUf 4 (refN (cn + kk) i) ++ encUf 4 (refN (cn + kk) j) ++ encSf 4 (fv kk)).length), .int g31, .int g32])), (g29, .inl (cB, 1400, .inl f_75))] := hD
            refine lv_goto (tgt := 154) hx hb dd_M_layOperation_103 (by decide) ?_
            have hfin : bs0 ++ [((ft kk) + (8 * (fd kk))) &&& 255] ++ encUf 4 (refN (cn + kk) i) ++ encUf 4 (refN (cn + kk) j) ++ encSf 4 (fv kk) = bs0 ++ encOp (cn + kk) (ft kk) (fd kk) (fo kk) (fk kk) (fv kk) := by rw [encOp, encKey, encVal, if_pos c_10, if_neg c_11, if_neg c_47, if_neg c_53, if_pos c_59, refOf_nI ei hi, refOf_nI ej hj]; simp only [List.append_assoc, List.nil_append, List.append_nil, List.cons_append]
            have e_77 : (nI (bs0 ++ [((ft kk) + (8 * (fd kk))) &&& 255] ++ encUf 4 (refN (cn + kk) i) ++ encUf 4 (refN (cn + kk) j) ++ encSf 4 (fv kk)).length : Int32) = nI (bs0 ++ encOp (cn + kk) (ft kk) (fd kk) (fo kk) (fk kk) (fv kk)).length := (by rw [hfin])
            have hP : va_P (dC, dI) vcl [(g7, .inl (cI, 16, .inl ft)), (g8, .inl (cI, 16, .inl fo)), (g9, .inl (cJ, 16, .inr (.inl fk))), (g10, .inl (cI, 16, .inl fd)), (g11, .inl (cI, 16, .inl fv)), (h, .inr (1, [.int g0, .int g1, .int g2, .int g3, .int (nI cn), .ref g5, .int g6, .ref g7, .ref g8, .ref g9, .ref g10, .ref g11, .int g12, .int g13, .int g14, .ref g15, .int g16, .ref g17, .ref g18, .ref g19, .ref g20, .ref g21, .ref g22, .int g23, .ref g24, .int g25, .int g26, .int g27, .int g28, .ref g29, .int (nI (bs0 ++ encOp (cn + kk) (ft kk) (fd kk) (fo kk) (fk kk) (fv kk)).length), .int g31, .int g32])), (g29, .inl (cB, 1400, .inl f_75))] H := by rw [← e_77]; exact hP
            have hD : va_D A [(g7, .inl (cI, 16, .inl ft)), (g8, .inl (cI, 16, .inl fo)), (g9, .inl (cJ, 16, .inr (.inl fk))), (g10, .inl (cI, 16, .inl fd)), (g11, .inl (cI, 16, .inl fv)), (h, .inr (1, [.int g0, .int g1, .int g2, .int g3, .int (nI cn), .ref g5, .int g6, .ref g7, .ref g8, .ref g9, .ref g10, .ref g11, .int g12, .int g13, .int g14, .ref g15, .int g16, .ref g17, .ref g18, .ref g19, .ref g20, .ref g21, .ref g22, .int g23, .ref g24, .int g25, .int g26, .int g27, .int g28, .ref g29, .int (nI (bs0 ++ encOp (cn + kk) (ft kk) (fd kk) (fo kk) (fk kk) (fv kk)).length), .int g31, .int g32])), (g29, .inl (cB, 1400, .inl f_75))] := by rw [← e_77]; exact hD
            have hP9 := hP.sub (ws' := [(h, .inr (1, [.int g0, .int g1, .int g2, .int g3, .int (nI cn), .ref g5, .int g6, .ref g7, .ref g8, .ref g9, .ref g10, .ref g11, .int g12, .int g13, .int g14, .ref g15, .int g16, .ref g17, .ref g18, .ref g19, .ref g20, .ref g21, .ref g22, .int g23, .ref g24, .int g25, .int g26, .int g27, .int g28, .ref g29, .int (nI (bs0 ++ encOp (cn + kk) (ft kk) (fd kk) (fo kk) (fk kk) (fv kk)).length), .int g31, .int g32])), (g29, .inl (cB, 1400, .inl f_75)), (g7, .inl (cI, 16, .inl ft)), (g8, .inl (cI, 16, .inl fo)), (g9, .inl (cJ, 16, .inr (.inl fk))), (g10, .inl (cI, 16, .inl fd)), (g11, .inl (cI, 16, .inl fv))]) [5, 6, 0, 1, 2, 3, 4] rfl
            have hD9 := hD.sub (ws' := [(h, .inr (1, [.int g0, .int g1, .int g2, .int g3, .int (nI cn), .ref g5, .int g6, .ref g7, .ref g8, .ref g9, .ref g10, .ref g11, .int g12, .int g13, .int g14, .ref g15, .int g16, .ref g17, .ref g18, .ref g19, .ref g20, .ref g21, .ref g22, .int g23, .ref g24, .int g25, .int g26, .int g27, .int g28, .ref g29, .int (nI (bs0 ++ encOp (cn + kk) (ft kk) (fd kk) (fo kk) (fk kk) (fv kk)).length), .int g31, .int g32])), (g29, .inl (cB, 1400, .inl f_75)), (g7, .inl (cI, 16, .inl ft)), (g8, .inl (cI, 16, .inl fo)), (g9, .inl (cJ, 16, .inr (.inl fk))), (g10, .inl (cI, 16, .inl fd)), (g11, .inl (cI, 16, .inl fv))]) [5, 6, 0, 1, 2, 3, 4] (by decide) rfl
            refine W.widen (k := 0) (n := 0) (by first | exact Nat.le_refl _ | omega) (by first | exact Nat.le_refl _ | omega) ?_
            exact W.vret hx hb hr (fun t ht hW => ⟨⟨f_75, rfl, (by rw [← hfin]; exact hq_76), by rw [ht]; exact hP9, va_K.moved hW.alike hK, hD9⟩, hS.F ht⟩) hS.2.2 dd_M_layOperation_154
  · refine lv_aload_n hx hb dd_M_layOperation_38 rfl (lv_at hl 1 rfl) ?_
    refine lv_aload_n hx hb dd_M_layOperation_39 rfl (lv_at hl 1 rfl) ?_
    refine va_get (D := (dC, dI)) (ci := 1) (v := .ref g9) (C := RR_M) (T := TT_M) (N := 33) hx hb hw hh_M hown hK hP 5 rfl rfl 9 (by decide) (hw _ qq_588) (fun _ h9 => h9) rfl dd_M_layOperation_40 ?_
    refine lv_iload_n hx hb dd_M_layOperation_43 rfl (lv_at hl 2 rfl) ?_
    refine va_lald hx hb hK hP 2 2 rfl rfl (vp_in_nI (by omega) (by decide)) dd_M_layOperation_44 ?_
    refine lv_topl (fun z_78 hz_78 => ?_)
    obtain rfl : z_78 = fk kk := hz_78.trans ((by rw [nI_clamp (by omega)]))
    obtain ⟨n, hn⟩ := hky c_10
    have hn8 := ltrs_le 8 _ n hn
    have hPc := hP.sub (ws' := [(h, .inr (1, [.int g0, .int g1, .int g2, .int g3, .int (nI cn), .ref g5, .int g6, .ref g7, .ref g8, .ref g9, .ref g10, .ref g11, .int g12, .int g13, .int g14, .ref g15, .int g16, .ref g17, .ref g18, .ref g19, .ref g20, .ref g21, .ref g22, .int g23, .ref g24, .int g25, .int g26, .int g27, .int g28, .ref g29, .int (nI (bs0 ++ [((ft kk) + (8 * (fd kk))) &&& 255] ++ encUf 4 (refN (cn + kk) i)).length), .int g31, .int g32])), (g29, .inl (cB, 1400, .inl f_8))]) [5, 6] rfl
    have hDc := hD.sub (ws' := [(h, .inr (1, [.int g0, .int g1, .int g2, .int g3, .int (nI cn), .ref g5, .int g6, .ref g7, .ref g8, .ref g9, .ref g10, .ref g11, .int g12, .int g13, .int g14, .ref g15, .int g16, .ref g17, .ref g18, .ref g19, .ref g20, .ref g21, .ref g22, .int g23, .ref g24, .int g25, .int g26, .int g27, .int g28, .ref g29, .int (nI (bs0 ++ [((ft kk) + (8 * (fd kk))) &&& 255] ++ encUf 4 (refN (cn + kk) i)).length), .int g31, .int g32])), (g29, .inl (cB, 1400, .inl f_8))]) [5, 6] (by decide) rfl
    have hFc := va_free (wc := [(h, .inr (1, [.int g0, .int g1, .int g2, .int g3, .int (nI cn), .ref g5, .int g6, .ref g7, .ref g8, .ref g9, .ref g10, .ref g11, .int g12, .int g13, .int g14, .ref g15, .int g16, .ref g17, .ref g18, .ref g19, .ref g20, .ref g21, .ref g22, .int g23, .ref g24, .int g25, .int g26, .int g27, .int g28, .ref g29, .int (nI (bs0 ++ [((ft kk) + (8 * (fd kk))) &&& 255] ++ encUf 4 (refN (cn + kk) i)).length), .int g31, .int g32])), (g29, .inl (cB, 1400, .inl f_8))]) hD hS hA [5, 6] rfl
    refine va_callv (va_runV (As := [.long (fk kk)]) (rest := []) ⟨hx, hb, hml, hown, hw⟩ (cb_M_layLetters l dC dI cB cI cJ H.size h g0 g1 g2 g3 (nI cn) g6 g12 g13 g14 g16 g23 g25 g26 g27 g28 g31 g32 g5 g7 g8 g9 g10 g11 g15 g17 g18 g19 g20 g21 g22 g24 g29 f_8 (bs0 ++ [((ft kk) + (8 * (fd kk))) &&& 255] ++ encUf 4 (refN (cn + kk) i)) hq_9 (fk kk) n hn (by have h1 := encUf_le 4 (refN (cn + kk) i); simp only [List.length_append, List.length_cons, List.length_nil, encLk_len]; omega)) (kw_V 1 hw qq_751 qq_5 qq_754 qq_753 qs_M_layLetters rfl rfl (by decide +kernel) ⟨Nat.le_of_ble_eq_true rfl, Nat.le_of_ble_eq_true rfl⟩) ⟨fun a U g mk q => by obtain ⟨q0, q1, qP, qK, qD⟩ := q; exact ⟨q0, q1, qP, va_K.moved (u := U) (U := U.calling g mk a) (Vm.Alike.refl U.vm) qK, qD⟩, va_recv hK hPc (ci := 1) (q0 := 0) rfl rfl, fun U hU hW => ⟨rfl, by rw [hU], by rw [hU]; exact hPc, va_K.moved hW.alike hK, hDc.weaken (fun _ _ _ _ => trivial)⟩⟩ rfl rfl hl.1 rfl (lv_room (Nat.le_of_ble_eq_true rfl)) dd_M_layOperation_45 ⟨by first | exact Nat.le_of_ble_eq_true rfl | (simp only [headSpec]; omega), by first | exact Nat.le_of_ble_eq_true rfl | (simp only [headSpec]; omega)⟩) hS (fun q _ h => hFc q h) hFc (fun f_79 t H1 locs ht hvm hq_80 hB hz1 hk1 hS => ?_)
    obtain ⟨hP1, hK1, hD1⟩ := hB
    rw [ht] at hP1
    obtain ⟨hP, hD⟩ := va_join (wr := [(g7, .inl (cI, 16, .inl ft)), (g8, .inl (cI, 16, .inl fo)), (g9, .inl (cJ, 16, .inr (.inl fk))), (g10, .inl (cI, 16, .inl fd)), (g11, .inl (cI, 16, .inl fv))]) (w1 := [(h, .inr (1, [.int g0, .int g1, .int g2, .int g3, .int (nI cn), .ref g5, .int g6, .ref g7, .ref g8, .ref g9, .ref g10, .ref g11, .int g12, .int g13, .int g14, .ref g15, .int g16, .ref g17, .ref g18, .ref g19, .ref g20, .ref g21, .ref g22, .int g23, .ref g24, .int g25, .int g26, .int g27, .int g28, .ref g29, .int (nI (bs0 ++ [((ft kk) + (8 * (fd kk))) &&& 255] ++ encUf 4 (refN (cn + kk) i) ++ (nI n :: encLk n (fk kk))).length), .int g31, .int g32])), (g29, .inl (cB, 1400, .inl f_79))]) hP hD [5, 6] [0, 1, 2, 3, 4] rfl rfl (by decide) (by decide) hk1 hFc hP1 hD1
    clear hP1 hK1 hD1 ht hvm hz1 hk1 hPc hDc hFc
    generalize H1 = H at hP hS ⊢
    have hP : va_P (dC, dI) vcl [(g7, .inl (cI, 16, .inl ft)), (g8, .inl (cI, 16, .inl fo)), (g9, .inl (cJ, 16, .inr (.inl fk))), (g10, .inl (cI, 16, .inl fd)), (g11, .inl (cI, 16, .inl fv)), (h, .inr (1, [.int g0, .int g1, .int g2, .int g3, .int (nI cn), .ref g5, .int g6, .ref g7, .ref g8, .ref g9, .ref g10, .ref g11, .int g12, .int g13, .int g14, .ref g15, .int g16, .ref g17, .ref g18, .ref g19, .ref g20, .ref g21, .ref g22, .int g23, .ref g24, .int g25, .int g26, .int g27, .int g28, .ref g29, .int (nI (bs0 ++ [((ft kk) + (8 * (fd kk))) &&& 255] ++ encUf 4 (refN (cn + kk) i) ++ (nI n :: encLk n (fk kk))).length), .int g31, .int g32])), (g29, .inl (cB, 1400, .inl f_79))] H := hP
    have hD : va_D A [(g7, .inl (cI, 16, .inl ft)), (g8, .inl (cI, 16, .inl fo)), (g9, .inl (cJ, 16, .inr (.inl fk))), (g10, .inl (cI, 16, .inl fd)), (g11, .inl (cI, 16, .inl fv)), (h, .inr (1, [.int g0, .int g1, .int g2, .int g3, .int (nI cn), .ref g5, .int g6, .ref g7, .ref g8, .ref g9, .ref g10, .ref g11, .int g12, .int g13, .int g14, .ref g15, .int g16, .ref g17, .ref g18, .ref g19, .ref g20, .ref g21, .ref g22, .int g23, .ref g24, .int g25, .int g26, .int g27, .int g28, .ref g29, .int (nI (bs0 ++ [((ft kk) + (8 * (fd kk))) &&& 255] ++ encUf 4 (refN (cn + kk) i) ++ (nI n :: encLk n (fk kk))).length), .int g31, .int g32])), (g29, .inl (cB, 1400, .inl f_79))] := hD
    refine lv_goto (tgt := 68) hx hb dd_M_layOperation_48 (by decide) ?_
    refine lv_iload_n hx hb dd_M_layOperation_68 rfl (lv_at hl 0 rfl) ?_
    refine lv_iconst (v := 2) hx hb dd_M_layOperation_69 (by decide) ?_
    refine lv_icmp_eq (tgt := 93) hx hb dd_M_layOperation_70 (by decide) (fun c_81 => ?_) (fun c_81 => ?_)
    · refine lv_aload_n hx hb dd_M_layOperation_93 rfl (lv_at hl 1 rfl) ?_
      refine lv_aload_n hx hb dd_M_layOperation_94 rfl (lv_at hl 1 rfl) ?_
      refine va_get (D := (dC, dI)) (ci := 1) (v := .ref g11) (C := RR_M) (T := TT_M) (N := 33) hx hb hw hh_M hown hK hP 5 rfl rfl 11 (by decide) (hw _ qq_590) (fun _ h9 => h9) rfl dd_M_layOperation_95 ?_
      refine lv_iload_n hx hb dd_M_layOperation_98 rfl (lv_at hl 2 rfl) ?_
      refine va_iald hx hb hK hP 4 1 rfl rfl (vp_in_nI (by omega) (by decide)) dd_M_layOperation_99 ?_
      refine lv_topi (fun z_82 hz_82 => ?_)
      obtain rfl : z_82 = fv kk := hz_82.trans ((by rw [nI_clamp (by omega)]))
      have hPc := hP.sub (ws' := [(h, .inr (1, [.int g0, .int g1, .int g2, .int g3, .int (nI cn), .ref g5, .int g6, .ref g7, .ref g8, .ref g9, .ref g10, .ref g11, .int g12, .int g13, .int g14, .ref g15, .int g16, .ref g17, .ref g18, .ref g19, .ref g20, .ref g21, .ref g22, .int g23, .ref g24, .int g25, .int g26, .int g27, .int g28, .ref g29, .int (nI (bs0 ++ [((ft kk) + (8 * (fd kk))) &&& 255] ++ encUf 4 (refN (cn + kk) i) ++ (nI n :: encLk n (fk kk))).length), .int g31, .int g32])), (g29, .inl (cB, 1400, .inl f_79))]) [5, 6] rfl
      have hDc := hD.sub (ws' := [(h, .inr (1, [.int g0, .int g1, .int g2, .int g3, .int (nI cn), .ref g5, .int g6, .ref g7, .ref g8, .ref g9, .ref g10, .ref g11, .int g12, .int g13, .int g14, .ref g15, .int g16, .ref g17, .ref g18, .ref g19, .ref g20, .ref g21, .ref g22, .int g23, .ref g24, .int g25, .int g26, .int g27, .int g28, .ref g29, .int (nI (bs0 ++ [((ft kk) + (8 * (fd kk))) &&& 255] ++ encUf 4 (refN (cn + kk) i) ++ (nI n :: encLk n (fk kk))).length), .int g31, .int g32])), (g29, .inl (cB, 1400, .inl f_79))]) [5, 6] (by decide) rfl
      have hFc := va_free (wc := [(h, .inr (1, [.int g0, .int g1, .int g2, .int g3, .int (nI cn), .ref g5, .int g6, .ref g7, .ref g8, .ref g9, .ref g10, .ref g11, .int g12, .int g13, .int g14, .ref g15, .int g16, .ref g17, .ref g18, .ref g19, .ref g20, .ref g21, .ref g22, .int g23, .ref g24, .int g25, .int g26, .int g27, .int g28, .ref g29, .int (nI (bs0 ++ [((ft kk) + (8 * (fd kk))) &&& 255] ++ encUf 4 (refN (cn + kk) i) ++ (nI n :: encLk n (fk kk))).length), .int g31, .int g32])), (g29, .inl (cB, 1400, .inl f_79))]) hD hS hA [5, 6] rfl
      refine va_callv (va_runV (As := [.int (fv kk)]) (rest := []) ⟨hx, hb, hml, hown, hw⟩ (cb_M_layS l dC dI cB cI cJ H.size h g0 g1 g2 g3 (nI cn) g6 g12 g13 g14 g16 g23 g25 g26 g27 g28 g31 g32 g5 g7 g8 g9 g10 g11 g15 g17 g18 g19 g20 g21 g22 g24 g29 f_79 (bs0 ++ [((ft kk) + (8 * (fd kk))) &&& 255] ++ encUf 4 (refN (cn + kk) i) ++ (nI n :: encLk n (fk kk))) hq_80 (fv kk) (by have h1 := encUf_le 4 (refN (cn + kk) i); have h5 := encSf_le 4 (fv kk); simp only [List.length_append, List.length_cons, List.length_nil, encLk_len]; omega)) (kw_V 1 hw qq_755 qq_5 qq_758 qq_757 qs_M_layS rfl rfl (by decide +kernel) ⟨Nat.le_of_ble_eq_true rfl, Nat.le_of_ble_eq_true rfl⟩) ⟨fun a U g mk q => by obtain ⟨q0, q1, qP, qK, qD⟩ := q; exact ⟨q0, q1, qP, va_K.moved (u := U) (U := U.calling g mk a) (Vm.Alike.refl U.vm) qK, qD⟩, va_recv hK hPc (ci := 1) (q0 := 0) rfl rfl, fun U hU hW => ⟨rfl, by rw [hU], by rw [hU]; exact hPc, va_K.moved hW.alike hK, hDc.weaken (fun _ _ _ _ => trivial)⟩⟩ rfl rfl hl.1 rfl (lv_room (Nat.le_of_ble_eq_true rfl)) dd_M_layOperation_100 ⟨by first | exact Nat.le_of_ble_eq_true rfl | (simp only [headSpec]; omega), by first | exact Nat.le_of_ble_eq_true rfl | (simp only [headSpec]; omega)⟩) hS (fun q _ h => hFc q h) hFc (fun f_83 t H1 locs ht hvm hq_84 hB hz1 hk1 hS => ?_)
      obtain ⟨hP1, hK1, hD1⟩ := hB
      rw [ht] at hP1
      obtain ⟨hP, hD⟩ := va_join (wr := [(g7, .inl (cI, 16, .inl ft)), (g8, .inl (cI, 16, .inl fo)), (g9, .inl (cJ, 16, .inr (.inl fk))), (g10, .inl (cI, 16, .inl fd)), (g11, .inl (cI, 16, .inl fv))]) (w1 := [(h, .inr (1, [.int g0, .int g1, .int g2, .int g3, .int (nI cn), .ref g5, .int g6, .ref g7, .ref g8, .ref g9, .ref g10, .ref g11, .int g12, .int g13, .int g14, .ref g15, .int g16, .ref g17, .ref g18, .ref g19, .ref g20, .ref g21, .ref g22, .int g23, .ref g24, .int g25, .int g26, .int g27, .int g28, .ref g29, .int (nI (bs0 ++ [((ft kk) + (8 * (fd kk))) &&& 255] ++ encUf 4 (refN (cn + kk) i) ++ (nI n :: encLk n (fk kk)) ++ encSf 4 (fv kk)).length), .int g31, .int g32])), (g29, .inl (cB, 1400, .inl f_83))]) hP hD [5, 6] [0, 1, 2, 3, 4] rfl rfl (by decide) (by decide) hk1 hFc hP1 hD1
      clear hP1 hK1 hD1 ht hvm hz1 hk1 hPc hDc hFc
      generalize H1 = H at hP hS ⊢
      have hP : va_P (dC, dI) vcl [(g7, .inl (cI, 16, .inl ft)), (g8, .inl (cI, 16, .inl fo)), (g9, .inl (cJ, 16, .inr (.inl fk))), (g10, .inl (cI, 16, .inl fd)), (g11, .inl (cI, 16, .inl fv)), (h, .inr (1, [.int g0, .int g1, .int g2, .int g3, .int (nI cn), .ref g5, .int g6, .ref g7, .ref g8, .ref g9, .ref g10, .ref g11, .int g12, .int g13, .int g14, .ref g15, .int g16, .ref g17, .ref g18, .ref g19, .ref g20, .ref g21, .ref g22, .int g23, .ref g24, .int g25, .int g26, .int g27, .int g28, .ref g29, .int (nI (bs0 ++ [((ft kk) + (8 * (fd kk))) &&& 255] ++ encUf 4 (refN (cn + kk) i) ++ (nI n :: encLk n (fk kk)) ++ encSf 4 (fv kk)).length), .int g31, .int g32])), (g29, .inl (cB, 1400, .inl f_83))] H := hP
      have hD : va_D A [(g7, .inl (cI, 16, .inl ft)), (g8, .inl (cI, 16, .inl fo)), (g9, .inl (cJ, 16, .inr (.inl fk))), (g10, .inl (cI, 16, .inl fd)), (g11, .inl (cI, 16, .inl fv)), (h, .inr (1, [.int g0, .int g1, .int g2, .int g3, .int (nI cn), .ref g5, .int g6, .ref g7, .ref g8, .ref g9, .ref g10, .ref g11, .int g12, .int g13, .int g14, .ref g15, .int g16, .ref g17, .ref g18, .ref g19, .ref g20, .ref g21, .ref g22, .int g23, .ref g24, .int g25, .int g26, .int g27, .int g28, .ref g29, .int (nI (bs0 ++ [((ft kk) + (8 * (fd kk))) &&& 255] ++ encUf 4 (refN (cn + kk) i) ++ (nI n :: encLk n (fk kk)) ++ encSf 4 (fv kk)).length), .int g31, .int g32])), (g29, .inl (cB, 1400, .inl f_83))] := hD
      refine lv_goto (tgt := 154) hx hb dd_M_layOperation_103 (by decide) ?_
      have hfin : bs0 ++ [((ft kk) + (8 * (fd kk))) &&& 255] ++ encUf 4 (refN (cn + kk) i) ++ (nI n :: encLk n (fk kk)) ++ encSf 4 (fv kk) = bs0 ++ encOp (cn + kk) (ft kk) (fd kk) (fo kk) (fk kk) (fv kk) := by rw [encOp, encKey, encVal, if_neg c_10, if_pos c_81, refOf_nI ei hi, encLt_some hn]; simp only [List.append_assoc, List.nil_append, List.append_nil, List.cons_append]
      have e_85 : (nI (bs0 ++ [((ft kk) + (8 * (fd kk))) &&& 255] ++ encUf 4 (refN (cn + kk) i) ++ (nI n :: encLk n (fk kk)) ++ encSf 4 (fv kk)).length : Int32) = nI (bs0 ++ encOp (cn + kk) (ft kk) (fd kk) (fo kk) (fk kk) (fv kk)).length := (by rw [hfin])
      have hP : va_P (dC, dI) vcl [(g7, .inl (cI, 16, .inl ft)), (g8, .inl (cI, 16, .inl fo)), (g9, .inl (cJ, 16, .inr (.inl fk))), (g10, .inl (cI, 16, .inl fd)), (g11, .inl (cI, 16, .inl fv)), (h, .inr (1, [.int g0, .int g1, .int g2, .int g3, .int (nI cn), .ref g5, .int g6, .ref g7, .ref g8, .ref g9, .ref g10, .ref g11, .int g12, .int g13, .int g14, .ref g15, .int g16, .ref g17, .ref g18, .ref g19, .ref g20, .ref g21, .ref g22, .int g23, .ref g24, .int g25, .int g26, .int g27, .int g28, .ref g29, .int (nI (bs0 ++ encOp (cn + kk) (ft kk) (fd kk) (fo kk) (fk kk) (fv kk)).length), .int g31, .int g32])), (g29, .inl (cB, 1400, .inl f_83))] H := by rw [← e_85]; exact hP
      have hD : va_D A [(g7, .inl (cI, 16, .inl ft)), (g8, .inl (cI, 16, .inl fo)), (g9, .inl (cJ, 16, .inr (.inl fk))), (g10, .inl (cI, 16, .inl fd)), (g11, .inl (cI, 16, .inl fv)), (h, .inr (1, [.int g0, .int g1, .int g2, .int g3, .int (nI cn), .ref g5, .int g6, .ref g7, .ref g8, .ref g9, .ref g10, .ref g11, .int g12, .int g13, .int g14, .ref g15, .int g16, .ref g17, .ref g18, .ref g19, .ref g20, .ref g21, .ref g22, .int g23, .ref g24, .int g25, .int g26, .int g27, .int g28, .ref g29, .int (nI (bs0 ++ encOp (cn + kk) (ft kk) (fd kk) (fo kk) (fk kk) (fv kk)).length), .int g31, .int g32])), (g29, .inl (cB, 1400, .inl f_83))] := by rw [← e_85]; exact hD
      have hP9 := hP.sub (ws' := [(h, .inr (1, [.int g0, .int g1, .int g2, .int g3, .int (nI cn), .ref g5, .int g6, .ref g7, .ref g8, .ref g9, .ref g10, .ref g11, .int g12, .int g13, .int g14, .ref g15, .int g16, .ref g17, .ref g18, .ref g19, .ref g20, .ref g21, .ref g22, .int g23, .ref g24, .int g25, .int g26, .int g27, .int g28, .ref g29, .int (nI (bs0 ++ encOp (cn + kk) (ft kk) (fd kk) (fo kk) (fk kk) (fv kk)).length), .int g31, .int g32])), (g29, .inl (cB, 1400, .inl f_83)), (g7, .inl (cI, 16, .inl ft)), (g8, .inl (cI, 16, .inl fo)), (g9, .inl (cJ, 16, .inr (.inl fk))), (g10, .inl (cI, 16, .inl fd)), (g11, .inl (cI, 16, .inl fv))]) [5, 6, 0, 1, 2, 3, 4] rfl
      have hD9 := hD.sub (ws' := [(h, .inr (1, [.int g0, .int g1, .int g2, .int g3, .int (nI cn), .ref g5, .int g6, .ref g7, .ref g8, .ref g9, .ref g10, .ref g11, .int g12, .int g13, .int g14, .ref g15, .int g16, .ref g17, .ref g18, .ref g19, .ref g20, .ref g21, .ref g22, .int g23, .ref g24, .int g25, .int g26, .int g27, .int g28, .ref g29, .int (nI (bs0 ++ encOp (cn + kk) (ft kk) (fd kk) (fo kk) (fk kk) (fv kk)).length), .int g31, .int g32])), (g29, .inl (cB, 1400, .inl f_83)), (g7, .inl (cI, 16, .inl ft)), (g8, .inl (cI, 16, .inl fo)), (g9, .inl (cJ, 16, .inr (.inl fk))), (g10, .inl (cI, 16, .inl fd)), (g11, .inl (cI, 16, .inl fv))]) [5, 6, 0, 1, 2, 3, 4] (by decide) rfl
      refine W.widen (k := 0) (n := 0) (by first | exact Nat.le_refl _ | omega) (by first | exact Nat.le_refl _ | omega) ?_
      exact W.vret hx hb hr (fun t ht hW => ⟨⟨f_83, rfl, (by rw [← hfin]; exact hq_84), by rw [ht]; exact hP9, va_K.moved hW.alike hK, hD9⟩, hS.F ht⟩) hS.2.2 dd_M_layOperation_154
    · refine lv_aload_n hx hb dd_M_layOperation_73 rfl (lv_at hl 1 rfl) ?_
      refine va_get (D := (dC, dI)) (ci := 1) (v := .ref g10) (C := RR_M) (T := TT_M) (N := 33) hx hb hw hh_M hown hK hP 5 rfl rfl 10 (by decide) (hw _ qq_589) (fun _ h9 => h9) rfl dd_M_layOperation_74 ?_
      refine lv_iload_n hx hb dd_M_layOperation_77 rfl (lv_at hl 2 rfl) ?_
      refine va_iald hx hb hK hP 3 1 rfl rfl (vp_in_nI (by omega) (by decide)) dd_M_layOperation_78 ?_
      refine lv_topi (fun z_86 hz_86 => ?_)
      obtain rfl : z_86 = fd kk := hz_86.trans ((by rw [nI_clamp (by omega)]))
      refine lv_iconst (v := 2) hx hb dd_M_layOperation_79 (by decide) ?_
      refine lv_icmp_eq (tgt := 93) hx hb dd_M_layOperation_80 (by decide) (fun c_87 => ?_) (fun c_87 => ?_)
      · refine lv_aload_n hx hb dd_M_layOperation_93 rfl (lv_at hl 1 rfl) ?_
        refine lv_aload_n hx hb dd_M_layOperation_94 rfl (lv_at hl 1 rfl) ?_
        refine va_get (D := (dC, dI)) (ci := 1) (v := .ref g11) (C := RR_M) (T := TT_M) (N := 33) hx hb hw hh_M hown hK hP 5 rfl rfl 11 (by decide) (hw _ qq_590) (fun _ h9 => h9) rfl dd_M_layOperation_95 ?_
        refine lv_iload_n hx hb dd_M_layOperation_98 rfl (lv_at hl 2 rfl) ?_
        refine va_iald hx hb hK hP 4 1 rfl rfl (vp_in_nI (by omega) (by decide)) dd_M_layOperation_99 ?_
        refine lv_topi (fun z_88 hz_88 => ?_)
        obtain rfl : z_88 = fv kk := hz_88.trans ((by rw [nI_clamp (by omega)]))
        have hPc := hP.sub (ws' := [(h, .inr (1, [.int g0, .int g1, .int g2, .int g3, .int (nI cn), .ref g5, .int g6, .ref g7, .ref g8, .ref g9, .ref g10, .ref g11, .int g12, .int g13, .int g14, .ref g15, .int g16, .ref g17, .ref g18, .ref g19, .ref g20, .ref g21, .ref g22, .int g23, .ref g24, .int g25, .int g26, .int g27, .int g28, .ref g29, .int (nI (bs0 ++ [((ft kk) + (8 * (fd kk))) &&& 255] ++ encUf 4 (refN (cn + kk) i) ++ (nI n :: encLk n (fk kk))).length), .int g31, .int g32])), (g29, .inl (cB, 1400, .inl f_79))]) [5, 6] rfl
        have hDc := hD.sub (ws' := [(h, .inr (1, [.int g0, .int g1, .int g2, .int g3, .int (nI cn), .ref g5, .int g6, .ref g7, .ref g8, .ref g9, .ref g10, .ref g11, .int g12, .int g13, .int g14, .ref g15, .int g16, .ref g17, .ref g18, .ref g19, .ref g20, .ref g21, .ref g22, .int g23, .ref g24, .int g25, .int g26, .int g27, .int g28, .ref g29, .int (nI (bs0 ++ [((ft kk) + (8 * (fd kk))) &&& 255] ++ encUf 4 (refN (cn + kk) i) ++ (nI n :: encLk n (fk kk))).length), .int g31, .int g32])), (g29, .inl (cB, 1400, .inl f_79))]) [5, 6] (by decide) rfl
        have hFc := va_free (wc := [(h, .inr (1, [.int g0, .int g1, .int g2, .int g3, .int (nI cn), .ref g5, .int g6, .ref g7, .ref g8, .ref g9, .ref g10, .ref g11, .int g12, .int g13, .int g14, .ref g15, .int g16, .ref g17, .ref g18, .ref g19, .ref g20, .ref g21, .ref g22, .int g23, .ref g24, .int g25, .int g26, .int g27, .int g28, .ref g29, .int (nI (bs0 ++ [((ft kk) + (8 * (fd kk))) &&& 255] ++ encUf 4 (refN (cn + kk) i) ++ (nI n :: encLk n (fk kk))).length), .int g31, .int g32])), (g29, .inl (cB, 1400, .inl f_79))]) hD hS hA [5, 6] rfl
        refine va_callv (va_runV (As := [.int (fv kk)]) (rest := []) ⟨hx, hb, hml, hown, hw⟩ (cb_M_layS l dC dI cB cI cJ H.size h g0 g1 g2 g3 (nI cn) g6 g12 g13 g14 g16 g23 g25 g26 g27 g28 g31 g32 g5 g7 g8 g9 g10 g11 g15 g17 g18 g19 g20 g21 g22 g24 g29 f_79 (bs0 ++ [((ft kk) + (8 * (fd kk))) &&& 255] ++ encUf 4 (refN (cn + kk) i) ++ (nI n :: encLk n (fk kk))) hq_80 (fv kk) (by have h1 := encUf_le 4 (refN (cn + kk) i); have h5 := encSf_le 4 (fv kk); simp only [List.length_append, List.length_cons, List.length_nil, encLk_len]; omega)) (kw_V 1 hw qq_755 qq_5 qq_758 qq_757 qs_M_layS rfl rfl (by decide +kernel) ⟨Nat.le_of_ble_eq_true rfl, Nat.le_of_ble_eq_true rfl⟩) ⟨fun a U g mk q => by obtain ⟨q0, q1, qP, qK, qD⟩ := q; exact ⟨q0, q1, qP, va_K.moved (u := U) (U := U.calling g mk a) (Vm.Alike.refl U.vm) qK, qD⟩, va_recv hK hPc (ci := 1) (q0 := 0) rfl rfl, fun U hU hW => ⟨rfl, by rw [hU], by rw [hU]; exact hPc, va_K.moved hW.alike hK, hDc.weaken (fun _ _ _ _ => trivial)⟩⟩ rfl rfl hl.1 rfl (lv_room (Nat.le_of_ble_eq_true rfl)) dd_M_layOperation_100 ⟨by first | exact Nat.le_of_ble_eq_true rfl | (simp only [headSpec]; omega), by first | exact Nat.le_of_ble_eq_true rfl | (simp only [headSpec]; omega)⟩) hS (fun q _ h => hFc q h) hFc (fun f_89 t H1 locs ht hvm hq_90 hB hz1 hk1 hS => ?_)
        obtain ⟨hP1, hK1, hD1⟩ := hB
        rw [ht] at hP1
        obtain ⟨hP, hD⟩ := va_join (wr := [(g7, .inl (cI, 16, .inl ft)), (g8, .inl (cI, 16, .inl fo)), (g9, .inl (cJ, 16, .inr (.inl fk))), (g10, .inl (cI, 16, .inl fd)), (g11, .inl (cI, 16, .inl fv))]) (w1 := [(h, .inr (1, [.int g0, .int g1, .int g2, .int g3, .int (nI cn), .ref g5, .int g6, .ref g7, .ref g8, .ref g9, .ref g10, .ref g11, .int g12, .int g13, .int g14, .ref g15, .int g16, .ref g17, .ref g18, .ref g19, .ref g20, .ref g21, .ref g22, .int g23, .ref g24, .int g25, .int g26, .int g27, .int g28, .ref g29, .int (nI (bs0 ++ [((ft kk) + (8 * (fd kk))) &&& 255] ++ encUf 4 (refN (cn + kk) i) ++ (nI n :: encLk n (fk kk)) ++ encSf 4 (fv kk)).length), .int g31, .int g32])), (g29, .inl (cB, 1400, .inl f_89))]) hP hD [5, 6] [0, 1, 2, 3, 4] rfl rfl (by decide) (by decide) hk1 hFc hP1 hD1
        clear hP1 hK1 hD1 ht hvm hz1 hk1 hPc hDc hFc
        generalize H1 = H at hP hS ⊢
        have hP : va_P (dC, dI) vcl [(g7, .inl (cI, 16, .inl ft)), (g8, .inl (cI, 16, .inl fo)), (g9, .inl (cJ, 16, .inr (.inl fk))), (g10, .inl (cI, 16, .inl fd)), (g11, .inl (cI, 16, .inl fv)), (h, .inr (1, [.int g0, .int g1, .int g2, .int g3, .int (nI cn), .ref g5, .int g6, .ref g7, .ref g8, .ref g9, .ref g10, .ref g11, .int g12, .int g13, .int g14, .ref g15, .int g16, .ref g17, .ref g18, .ref g19, .ref g20, .ref g21, .ref g22, .int g23, .ref g24, .int g25, .int g26, .int g27, .int g28, .ref g29, .int (nI (bs0 ++ [((ft kk) + (8 * (fd kk))) &&& 255] ++ encUf 4 (refN (cn + kk) i) ++ (nI n :: encLk n (fk kk)) ++ encSf 4 (fv kk)).length), .int g31, .int g32])), (g29, .inl (cB, 1400, .inl f_89))] H := hP
        have hD : va_D A [(g7, .inl (cI, 16, .inl ft)), (g8, .inl (cI, 16, .inl fo)), (g9, .inl (cJ, 16, .inr (.inl fk))), (g10, .inl (cI, 16, .inl fd)), (g11, .inl (cI, 16, .inl fv)), (h, .inr (1, [.int g0, .int g1, .int g2, .int g3, .int (nI cn), .ref g5, .int g6, .ref g7, .ref g8, .ref g9, .ref g10, .ref g11, .int g12, .int g13, .int g14, .ref g15, .int g16, .ref g17, .ref g18, .ref g19, .ref g20, .ref g21, .ref g22, .int g23, .ref g24, .int g25, .int g26, .int g27, .int g28, .ref g29, .int (nI (bs0 ++ [((ft kk) + (8 * (fd kk))) &&& 255] ++ encUf 4 (refN (cn + kk) i) ++ (nI n :: encLk n (fk kk)) ++ encSf 4 (fv kk)).length), .int g31, .int g32])), (g29, .inl (cB, 1400, .inl f_89))] := hD
        refine lv_goto (tgt := 154) hx hb dd_M_layOperation_103 (by decide) ?_
        have hfin : bs0 ++ [((ft kk) + (8 * (fd kk))) &&& 255] ++ encUf 4 (refN (cn + kk) i) ++ (nI n :: encLk n (fk kk)) ++ encSf 4 (fv kk) = bs0 ++ encOp (cn + kk) (ft kk) (fd kk) (fo kk) (fk kk) (fv kk) := by rw [encOp, encKey, encVal, if_neg c_10, if_neg c_81, if_pos c_87, refOf_nI ei hi, encLt_some hn]; simp only [List.append_assoc, List.nil_append, List.append_nil, List.cons_append]
        have e_91 : (nI (bs0 ++ [((ft kk) + (8 * (fd kk))) &&& 255] ++ encUf 4 (refN (cn + kk) i) ++ (nI n :: encLk n (fk kk)) ++ encSf 4 (fv kk)).length : Int32) = nI (bs0 ++ encOp (cn + kk) (ft kk) (fd kk) (fo kk) (fk kk) (fv kk)).length := (by rw [hfin])
        have hP : va_P (dC, dI) vcl [(g7, .inl (cI, 16, .inl ft)), (g8, .inl (cI, 16, .inl fo)), (g9, .inl (cJ, 16, .inr (.inl fk))), (g10, .inl (cI, 16, .inl fd)), (g11, .inl (cI, 16, .inl fv)), (h, .inr (1, [.int g0, .int g1, .int g2, .int g3, .int (nI cn), .ref g5, .int g6, .ref g7, .ref g8, .ref g9, .ref g10, .ref g11, .int g12, .int g13, .int g14, .ref g15, .int g16, .ref g17, .ref g18, .ref g19, .ref g20, .ref g21, .ref g22, .int g23, .ref g24, .int g25, .int g26, .int g27, .int g28, .ref g29, .int (nI (bs0 ++ encOp (cn + kk) (ft kk) (fd kk) (fo kk) (fk kk) (fv kk)).length), .int g31, .int g32])), (g29, .inl (cB, 1400, .inl f_89))] H := by rw [← e_91]; exact hP
        have hD : va_D A [(g7, .inl (cI, 16, .inl ft)), (g8, .inl (cI, 16, .inl fo)), (g9, .inl (cJ, 16, .inr (.inl fk))), (g10, .inl (cI, 16, .inl fd)), (g11, .inl (cI, 16, .inl fv)), (h, .inr (1, [.int g0, .int g1, .int g2, .int g3, .int (nI cn), .ref g5, .int g6, .ref g7, .ref g8, .ref g9, .ref g10, .ref g11, .int g12, .int g13, .int g14, .ref g15, .int g16, .ref g17, .ref g18, .ref g19, .ref g20, .ref g21, .ref g22, .int g23, .ref g24, .int g25, .int g26, .int g27, .int g28, .ref g29, .int (nI (bs0 ++ encOp (cn + kk) (ft kk) (fd kk) (fo kk) (fk kk) (fv kk)).length), .int g31, .int g32])), (g29, .inl (cB, 1400, .inl f_89))] := by rw [← e_91]; exact hD
        have hP9 := hP.sub (ws' := [(h, .inr (1, [.int g0, .int g1, .int g2, .int g3, .int (nI cn), .ref g5, .int g6, .ref g7, .ref g8, .ref g9, .ref g10, .ref g11, .int g12, .int g13, .int g14, .ref g15, .int g16, .ref g17, .ref g18, .ref g19, .ref g20, .ref g21, .ref g22, .int g23, .ref g24, .int g25, .int g26, .int g27, .int g28, .ref g29, .int (nI (bs0 ++ encOp (cn + kk) (ft kk) (fd kk) (fo kk) (fk kk) (fv kk)).length), .int g31, .int g32])), (g29, .inl (cB, 1400, .inl f_89)), (g7, .inl (cI, 16, .inl ft)), (g8, .inl (cI, 16, .inl fo)), (g9, .inl (cJ, 16, .inr (.inl fk))), (g10, .inl (cI, 16, .inl fd)), (g11, .inl (cI, 16, .inl fv))]) [5, 6, 0, 1, 2, 3, 4] rfl
        have hD9 := hD.sub (ws' := [(h, .inr (1, [.int g0, .int g1, .int g2, .int g3, .int (nI cn), .ref g5, .int g6, .ref g7, .ref g8, .ref g9, .ref g10, .ref g11, .int g12, .int g13, .int g14, .ref g15, .int g16, .ref g17, .ref g18, .ref g19, .ref g20, .ref g21, .ref g22, .int g23, .ref g24, .int g25, .int g26, .int g27, .int g28, .ref g29, .int (nI (bs0 ++ encOp (cn + kk) (ft kk) (fd kk) (fo kk) (fk kk) (fv kk)).length), .int g31, .int g32])), (g29, .inl (cB, 1400, .inl f_89)), (g7, .inl (cI, 16, .inl ft)), (g8, .inl (cI, 16, .inl fo)), (g9, .inl (cJ, 16, .inr (.inl fk))), (g10, .inl (cI, 16, .inl fd)), (g11, .inl (cI, 16, .inl fv))]) [5, 6, 0, 1, 2, 3, 4] (by decide) rfl
        refine W.widen (k := 0) (n := 0) (by first | exact Nat.le_refl _ | omega) (by first | exact Nat.le_refl _ | omega) ?_
        exact W.vret hx hb hr (fun t ht hW => ⟨⟨f_89, rfl, (by rw [← hfin]; exact hq_90), by rw [ht]; exact hP9, va_K.moved hW.alike hK, hD9⟩, hS.F ht⟩) hS.2.2 dd_M_layOperation_154
      · refine lv_aload_n hx hb dd_M_layOperation_83 rfl (lv_at hl 1 rfl) ?_
        refine va_get (D := (dC, dI)) (ci := 1) (v := .ref g10) (C := RR_M) (T := TT_M) (N := 33) hx hb hw hh_M hown hK hP 5 rfl rfl 10 (by decide) (hw _ qq_589) (fun _ h9 => h9) rfl dd_M_layOperation_84 ?_
        refine lv_iload_n hx hb dd_M_layOperation_87 rfl (lv_at hl 2 rfl) ?_
        refine va_iald hx hb hK hP 3 1 rfl rfl (vp_in_nI (by omega) (by decide)) dd_M_layOperation_88 ?_
        refine lv_topi (fun z_92 hz_92 => ?_)
        obtain rfl : z_92 = fd kk := hz_92.trans ((by rw [nI_clamp (by omega)]))
        refine lv_iconst (v := 4) hx hb dd_M_layOperation_89 (by decide) ?_
        refine lv_icmp_ne (tgt := 106) hx hb dd_M_layOperation_90 (by decide) (fun c_93 => ?_) (fun c_93 => ?_)
        · refine lv_aload_n hx hb dd_M_layOperation_106 rfl (lv_at hl 1 rfl) ?_
          refine va_get (D := (dC, dI)) (ci := 1) (v := .ref g10) (C := RR_M) (T := TT_M) (N := 33) hx hb hw hh_M hown hK hP 5 rfl rfl 10 (by decide) (hw _ qq_589) (fun _ h9 => h9) rfl dd_M_layOperation_107 ?_
          refine lv_iload_n hx hb dd_M_layOperation_110 rfl (lv_at hl 2 rfl) ?_
          refine va_iald hx hb hK hP 3 1 rfl rfl (vp_in_nI (by omega) (by decide)) dd_M_layOperation_111 ?_
          refine lv_topi (fun z_94 hz_94 => ?_)
          obtain rfl : z_94 = fd kk := hz_94.trans ((by rw [nI_clamp (by omega)]))
          refine lv_iconst (v := 1) hx hb dd_M_layOperation_112 (by decide) ?_
          refine lv_icmp_ne (tgt := 129) hx hb dd_M_layOperation_113 (by decide) (fun c_95 => ?_) (fun c_95 => ?_)
          · refine lv_aload_n hx hb dd_M_layOperation_129 rfl (lv_at hl 1 rfl) ?_
            refine va_get (D := (dC, dI)) (ci := 1) (v := .ref g10) (C := RR_M) (T := TT_M) (N := 33) hx hb hw hh_M hown hK hP 5 rfl rfl 10 (by decide) (hw _ qq_589) (fun _ h9 => h9) rfl dd_M_layOperation_130 ?_
            refine lv_iload_n hx hb dd_M_layOperation_133 rfl (lv_at hl 2 rfl) ?_
            refine va_iald hx hb hK hP 3 1 rfl rfl (vp_in_nI (by omega) (by decide)) dd_M_layOperation_134 ?_
            refine lv_topi (fun z_96 hz_96 => ?_)
            obtain rfl : z_96 = fd kk := hz_96.trans ((by rw [nI_clamp (by omega)]))
            refine lv_iconst (v := 3) hx hb dd_M_layOperation_135 (by decide) ?_
            refine lv_icmp_ne (tgt := 154) hx hb dd_M_layOperation_136 (by decide) (fun c_97 => ?_) (fun c_97 => ?_)
            · have hfin : bs0 ++ [((ft kk) + (8 * (fd kk))) &&& 255] ++ encUf 4 (refN (cn + kk) i) ++ (nI n :: encLk n (fk kk)) = bs0 ++ encOp (cn + kk) (ft kk) (fd kk) (fo kk) (fk kk) (fv kk) := by rw [encOp, encKey, encVal, if_neg c_10, if_neg c_81, if_neg c_87, if_neg c_93, if_neg c_95, if_neg c_97, refOf_nI ei hi, encLt_some hn]; simp only [List.append_assoc, List.nil_append, List.append_nil, List.cons_append]
              have e_98 : (nI (bs0 ++ [((ft kk) + (8 * (fd kk))) &&& 255] ++ encUf 4 (refN (cn + kk) i) ++ (nI n :: encLk n (fk kk))).length : Int32) = nI (bs0 ++ encOp (cn + kk) (ft kk) (fd kk) (fo kk) (fk kk) (fv kk)).length := (by rw [hfin])
              have hP : va_P (dC, dI) vcl [(g7, .inl (cI, 16, .inl ft)), (g8, .inl (cI, 16, .inl fo)), (g9, .inl (cJ, 16, .inr (.inl fk))), (g10, .inl (cI, 16, .inl fd)), (g11, .inl (cI, 16, .inl fv)), (h, .inr (1, [.int g0, .int g1, .int g2, .int g3, .int (nI cn), .ref g5, .int g6, .ref g7, .ref g8, .ref g9, .ref g10, .ref g11, .int g12, .int g13, .int g14, .ref g15, .int g16, .ref g17, .ref g18, .ref g19, .ref g20, .ref g21, .ref g22, .int g23, .ref g24, .int g25, .int g26, .int g27, .int g28, .ref g29, .int (nI (bs0 ++ encOp (cn + kk) (ft kk) (fd kk) (fo kk) (fk kk) (fv kk)).length), .int g31, .int g32])), (g29, .inl (cB, 1400, .inl f_79))] H := by rw [← e_98]; exact hP
              have hD : va_D A [(g7, .inl (cI, 16, .inl ft)), (g8, .inl (cI, 16, .inl fo)), (g9, .inl (cJ, 16, .inr (.inl fk))), (g10, .inl (cI, 16, .inl fd)), (g11, .inl (cI, 16, .inl fv)), (h, .inr (1, [.int g0, .int g1, .int g2, .int g3, .int (nI cn), .ref g5, .int g6, .ref g7, .ref g8, .ref g9, .ref g10, .ref g11, .int g12, .int g13, .int g14, .ref g15, .int g16, .ref g17, .ref g18, .ref g19, .ref g20, .ref g21, .ref g22, .int g23, .ref g24, .int g25, .int g26, .int g27, .int g28, .ref g29, .int (nI (bs0 ++ encOp (cn + kk) (ft kk) (fd kk) (fo kk) (fk kk) (fv kk)).length), .int g31, .int g32])), (g29, .inl (cB, 1400, .inl f_79))] := by rw [← e_98]; exact hD
              have hP9 := hP.sub (ws' := [(h, .inr (1, [.int g0, .int g1, .int g2, .int g3, .int (nI cn), .ref g5, .int g6, .ref g7, .ref g8, .ref g9, .ref g10, .ref g11, .int g12, .int g13, .int g14, .ref g15, .int g16, .ref g17, .ref g18, .ref g19, .ref g20, .ref g21, .ref g22, .int g23, .ref g24, .int g25, .int g26, .int g27, .int g28, .ref g29, .int (nI (bs0 ++ encOp (cn + kk) (ft kk) (fd kk) (fo kk) (fk kk) (fv kk)).length), .int g31, .int g32])), (g29, .inl (cB, 1400, .inl f_79)), (g7, .inl (cI, 16, .inl ft)), (g8, .inl (cI, 16, .inl fo)), (g9, .inl (cJ, 16, .inr (.inl fk))), (g10, .inl (cI, 16, .inl fd)), (g11, .inl (cI, 16, .inl fv))]) [5, 6, 0, 1, 2, 3, 4] rfl
              have hD9 := hD.sub (ws' := [(h, .inr (1, [.int g0, .int g1, .int g2, .int g3, .int (nI cn), .ref g5, .int g6, .ref g7, .ref g8, .ref g9, .ref g10, .ref g11, .int g12, .int g13, .int g14, .ref g15, .int g16, .ref g17, .ref g18, .ref g19, .ref g20, .ref g21, .ref g22, .int g23, .ref g24, .int g25, .int g26, .int g27, .int g28, .ref g29, .int (nI (bs0 ++ encOp (cn + kk) (ft kk) (fd kk) (fo kk) (fk kk) (fv kk)).length), .int g31, .int g32])), (g29, .inl (cB, 1400, .inl f_79)), (g7, .inl (cI, 16, .inl ft)), (g8, .inl (cI, 16, .inl fo)), (g9, .inl (cJ, 16, .inr (.inl fk))), (g10, .inl (cI, 16, .inl fd)), (g11, .inl (cI, 16, .inl fv))]) [5, 6, 0, 1, 2, 3, 4] (by decide) rfl
              refine W.widen (k := 0) (n := 0) (by first | exact Nat.le_refl _ | omega) (by first | exact Nat.le_refl _ | omega) ?_
              exact W.vret hx hb hr (fun t ht hW => ⟨⟨f_79, rfl, (by rw [← hfin]; exact hq_80), by rw [ht]; exact hP9, va_K.moved hW.alike hK, hD9⟩, hS.F ht⟩) hS.2.2 dd_M_layOperation_154
            · refine lv_aload_n hx hb dd_M_layOperation_139 rfl (lv_at hl 1 rfl) ?_
              refine lv_aload_n hx hb dd_M_layOperation_140 rfl (lv_at hl 1 rfl) ?_
              refine va_get (D := (dC, dI)) (ci := 1) (v := .ref g11) (C := RR_M) (T := TT_M) (N := 33) hx hb hw hh_M hown hK hP 5 rfl rfl 11 (by decide) (hw _ qq_590) (fun _ h9 => h9) rfl dd_M_layOperation_141 ?_
              refine lv_iload_n hx hb dd_M_layOperation_144 rfl (lv_at hl 2 rfl) ?_
              refine va_iald hx hb hK hP 4 1 rfl rfl (vp_in_nI (by omega) (by decide)) dd_M_layOperation_145 ?_
              refine lv_topi (fun z_99 hz_99 => ?_)
              obtain rfl : z_99 = fv kk := hz_99.trans ((by rw [nI_clamp (by omega)]))
              refine lv_i2l (v := (fv kk).toInt64) hx hb dd_M_layOperation_146 rfl ?_
              refine lv_ldc2 (v := 4294967295) hx hb hown (hw _ qq_718) dd_M_layOperation_147 ?_
              refine lv_land hx hb dd_M_layOperation_150 ?_
              obtain ⟨n2, hn2⟩ := hkv c_97
              have hn28 := ltrs_le 8 _ n2 hn2
              have hPc := hP.sub (ws' := [(h, .inr (1, [.int g0, .int g1, .int g2, .int g3, .int (nI cn), .ref g5, .int g6, .ref g7, .ref g8, .ref g9, .ref g10, .ref g11, .int g12, .int g13, .int g14, .ref g15, .int g16, .ref g17, .ref g18, .ref g19, .ref g20, .ref g21, .ref g22, .int g23, .ref g24, .int g25, .int g26, .int g27, .int g28, .ref g29, .int (nI (bs0 ++ [((ft kk) + (8 * (fd kk))) &&& 255] ++ encUf 4 (refN (cn + kk) i) ++ (nI n :: encLk n (fk kk))).length), .int g31, .int g32])), (g29, .inl (cB, 1400, .inl f_79))]) [5, 6] rfl
              have hDc := hD.sub (ws' := [(h, .inr (1, [.int g0, .int g1, .int g2, .int g3, .int (nI cn), .ref g5, .int g6, .ref g7, .ref g8, .ref g9, .ref g10, .ref g11, .int g12, .int g13, .int g14, .ref g15, .int g16, .ref g17, .ref g18, .ref g19, .ref g20, .ref g21, .ref g22, .int g23, .ref g24, .int g25, .int g26, .int g27, .int g28, .ref g29, .int (nI (bs0 ++ [((ft kk) + (8 * (fd kk))) &&& 255] ++ encUf 4 (refN (cn + kk) i) ++ (nI n :: encLk n (fk kk))).length), .int g31, .int g32])), (g29, .inl (cB, 1400, .inl f_79))]) [5, 6] (by decide) rfl
              have hFc := va_free (wc := [(h, .inr (1, [.int g0, .int g1, .int g2, .int g3, .int (nI cn), .ref g5, .int g6, .ref g7, .ref g8, .ref g9, .ref g10, .ref g11, .int g12, .int g13, .int g14, .ref g15, .int g16, .ref g17, .ref g18, .ref g19, .ref g20, .ref g21, .ref g22, .int g23, .ref g24, .int g25, .int g26, .int g27, .int g28, .ref g29, .int (nI (bs0 ++ [((ft kk) + (8 * (fd kk))) &&& 255] ++ encUf 4 (refN (cn + kk) i) ++ (nI n :: encLk n (fk kk))).length), .int g31, .int g32])), (g29, .inl (cB, 1400, .inl f_79))]) hD hS hA [5, 6] rfl
              refine va_callv (va_runV (As := [.long (((fv kk).toInt64) &&& 4294967295)]) (rest := []) ⟨hx, hb, hml, hown, hw⟩ (cb_M_layLetters l dC dI cB cI cJ H.size h g0 g1 g2 g3 (nI cn) g6 g12 g13 g14 g16 g23 g25 g26 g27 g28 g31 g32 g5 g7 g8 g9 g10 g11 g15 g17 g18 g19 g20 g21 g22 g24 g29 f_79 (bs0 ++ [((ft kk) + (8 * (fd kk))) &&& 255] ++ encUf 4 (refN (cn + kk) i) ++ (nI n :: encLk n (fk kk))) hq_80 (((fv kk).toInt64) &&& 4294967295) n2 hn2 (by have h1 := encUf_le 4 (refN (cn + kk) i); simp only [List.length_append, List.length_cons, List.length_nil, encLk_len]; omega)) (kw_V 1 hw qq_751 qq_5 qq_754 qq_753 qs_M_layLetters rfl rfl (by decide +kernel) ⟨Nat.le_of_ble_eq_true rfl, Nat.le_of_ble_eq_true rfl⟩) ⟨fun a U g mk q => by obtain ⟨q0, q1, qP, qK, qD⟩ := q; exact ⟨q0, q1, qP, va_K.moved (u := U) (U := U.calling g mk a) (Vm.Alike.refl U.vm) qK, qD⟩, va_recv hK hPc (ci := 1) (q0 := 0) rfl rfl, fun U hU hW => ⟨rfl, by rw [hU], by rw [hU]; exact hPc, va_K.moved hW.alike hK, hDc.weaken (fun _ _ _ _ => trivial)⟩⟩ rfl rfl hl.1 rfl (lv_room (Nat.le_of_ble_eq_true rfl)) dd_M_layOperation_151 ⟨by first | exact Nat.le_of_ble_eq_true rfl | (simp only [headSpec]; omega), by first | exact Nat.le_of_ble_eq_true rfl | (simp only [headSpec]; omega)⟩) hS (fun q _ h => hFc q h) hFc (fun f_100 t H1 locs ht hvm hq_101 hB hz1 hk1 hS => ?_)
              obtain ⟨hP1, hK1, hD1⟩ := hB
              rw [ht] at hP1
              obtain ⟨hP, hD⟩ := va_join (wr := [(g7, .inl (cI, 16, .inl ft)), (g8, .inl (cI, 16, .inl fo)), (g9, .inl (cJ, 16, .inr (.inl fk))), (g10, .inl (cI, 16, .inl fd)), (g11, .inl (cI, 16, .inl fv))]) (w1 := [(h, .inr (1, [.int g0, .int g1, .int g2, .int g3, .int (nI cn), .ref g5, .int g6, .ref g7, .ref g8, .ref g9, .ref g10, .ref g11, .int g12, .int g13, .int g14, .ref g15, .int g16, .ref g17, .ref g18, .ref g19, .ref g20, .ref g21, .ref g22, .int g23, .ref g24, .int g25, .int g26, .int g27, .int g28, .ref g29, .int (nI (bs0 ++ [((ft kk) + (8 * (fd kk))) &&& 255] ++ encUf 4 (refN (cn + kk) i) ++ (nI n :: encLk n (fk kk)) ++ (nI n2 :: encLk n2 (((fv kk).toInt64) &&& 4294967295))).length), .int g31, .int g32])), (g29, .inl (cB, 1400, .inl f_100))]) hP hD [5, 6] [0, 1, 2, 3, 4] rfl rfl (by decide) (by decide) hk1 hFc hP1 hD1
              clear hP1 hK1 hD1 ht hvm hz1 hk1 hPc hDc hFc
              generalize H1 = H at hP hS ⊢
              have hP : va_P (dC, dI) vcl [(g7, .inl (cI, 16, .inl ft)), (g8, .inl (cI, 16, .inl fo)), (g9, .inl (cJ, 16, .inr (.inl fk))), (g10, .inl (cI, 16, .inl fd)), (g11, .inl (cI, 16, .inl fv)), (h, .inr (1, [.int g0, .int g1, .int g2, .int g3, .int (nI cn), .ref g5, .int g6, .ref g7, .ref g8, .ref g9, .ref g10, .ref g11, .int g12, .int g13, .int g14, .ref g15, .int g16, .ref g17, .ref g18, .ref g19, .ref g20, .ref g21, .ref g22, .int g23, .ref g24, .int g25, .int g26, .int g27, .int g28, .ref g29, .int (nI (bs0 ++ [((ft kk) + (8 * (fd kk))) &&& 255] ++ encUf 4 (refN (cn + kk) i) ++ (nI n :: encLk n (fk kk)) ++ (nI n2 :: encLk n2 (((fv kk).toInt64) &&& 4294967295))).length), .int g31, .int g32])), (g29, .inl (cB, 1400, .inl f_100))] H := hP
              have hD : va_D A [(g7, .inl (cI, 16, .inl ft)), (g8, .inl (cI, 16, .inl fo)), (g9, .inl (cJ, 16, .inr (.inl fk))), (g10, .inl (cI, 16, .inl fd)), (g11, .inl (cI, 16, .inl fv)), (h, .inr (1, [.int g0, .int g1, .int g2, .int g3, .int (nI cn), .ref g5, .int g6, .ref g7, .ref g8, .ref g9, .ref g10, .ref g11, .int g12, .int g13, .int g14, .ref g15, .int g16, .ref g17, .ref g18, .ref g19, .ref g20, .ref g21, .ref g22, .int g23, .ref g24, .int g25, .int g26, .int g27, .int g28, .ref g29, .int (nI (bs0 ++ [((ft kk) + (8 * (fd kk))) &&& 255] ++ encUf 4 (refN (cn + kk) i) ++ (nI n :: encLk n (fk kk)) ++ (nI n2 :: encLk n2 (((fv kk).toInt64) &&& 4294967295))).length), .int g31, .int g32])), (g29, .inl (cB, 1400, .inl f_100))] := hD
              have hfin : bs0 ++ [((ft kk) + (8 * (fd kk))) &&& 255] ++ encUf 4 (refN (cn + kk) i) ++ (nI n :: encLk n (fk kk)) ++ (nI n2 :: encLk n2 (((fv kk).toInt64) &&& 4294967295)) = bs0 ++ encOp (cn + kk) (ft kk) (fd kk) (fo kk) (fk kk) (fv kk) := by rw [encOp, encKey, encVal, if_neg c_10, if_neg c_81, if_neg c_87, if_neg c_93, if_neg c_95, if_pos c_97, refOf_nI ei hi, encLt_some hn, encLt_some hn2]; simp only [List.append_assoc, List.nil_append, List.append_nil, List.cons_append]
              have e_102 : (nI (bs0 ++ [((ft kk) + (8 * (fd kk))) &&& 255] ++ encUf 4 (refN (cn + kk) i) ++ (nI n :: encLk n (fk kk)) ++ (nI n2 :: encLk n2 (((fv kk).toInt64) &&& 4294967295))).length : Int32) = nI (bs0 ++ encOp (cn + kk) (ft kk) (fd kk) (fo kk) (fk kk) (fv kk)).length := (by rw [hfin])
              have hP : va_P (dC, dI) vcl [(g7, .inl (cI, 16, .inl ft)), (g8, .inl (cI, 16, .inl fo)), (g9, .inl (cJ, 16, .inr (.inl fk))), (g10, .inl (cI, 16, .inl fd)), (g11, .inl (cI, 16, .inl fv)), (h, .inr (1, [.int g0, .int g1, .int g2, .int g3, .int (nI cn), .ref g5, .int g6, .ref g7, .ref g8, .ref g9, .ref g10, .ref g11, .int g12, .int g13, .int g14, .ref g15, .int g16, .ref g17, .ref g18, .ref g19, .ref g20, .ref g21, .ref g22, .int g23, .ref g24, .int g25, .int g26, .int g27, .int g28, .ref g29, .int (nI (bs0 ++ encOp (cn + kk) (ft kk) (fd kk) (fo kk) (fk kk) (fv kk)).length), .int g31, .int g32])), (g29, .inl (cB, 1400, .inl f_100))] H := by rw [← e_102]; exact hP
              have hD : va_D A [(g7, .inl (cI, 16, .inl ft)), (g8, .inl (cI, 16, .inl fo)), (g9, .inl (cJ, 16, .inr (.inl fk))), (g10, .inl (cI, 16, .inl fd)), (g11, .inl (cI, 16, .inl fv)), (h, .inr (1, [.int g0, .int g1, .int g2, .int g3, .int (nI cn), .ref g5, .int g6, .ref g7, .ref g8, .ref g9, .ref g10, .ref g11, .int g12, .int g13, .int g14, .ref g15, .int g16, .ref g17, .ref g18, .ref g19, .ref g20, .ref g21, .ref g22, .int g23, .ref g24, .int g25, .int g26, .int g27, .int g28, .ref g29, .int (nI (bs0 ++ encOp (cn + kk) (ft kk) (fd kk) (fo kk) (fk kk) (fv kk)).length), .int g31, .int g32])), (g29, .inl (cB, 1400, .inl f_100))] := by rw [← e_102]; exact hD
              have hP9 := hP.sub (ws' := [(h, .inr (1, [.int g0, .int g1, .int g2, .int g3, .int (nI cn), .ref g5, .int g6, .ref g7, .ref g8, .ref g9, .ref g10, .ref g11, .int g12, .int g13, .int g14, .ref g15, .int g16, .ref g17, .ref g18, .ref g19, .ref g20, .ref g21, .ref g22, .int g23, .ref g24, .int g25, .int g26, .int g27, .int g28, .ref g29, .int (nI (bs0 ++ encOp (cn + kk) (ft kk) (fd kk) (fo kk) (fk kk) (fv kk)).length), .int g31, .int g32])), (g29, .inl (cB, 1400, .inl f_100)), (g7, .inl (cI, 16, .inl ft)), (g8, .inl (cI, 16, .inl fo)), (g9, .inl (cJ, 16, .inr (.inl fk))), (g10, .inl (cI, 16, .inl fd)), (g11, .inl (cI, 16, .inl fv))]) [5, 6, 0, 1, 2, 3, 4] rfl
              have hD9 := hD.sub (ws' := [(h, .inr (1, [.int g0, .int g1, .int g2, .int g3, .int (nI cn), .ref g5, .int g6, .ref g7, .ref g8, .ref g9, .ref g10, .ref g11, .int g12, .int g13, .int g14, .ref g15, .int g16, .ref g17, .ref g18, .ref g19, .ref g20, .ref g21, .ref g22, .int g23, .ref g24, .int g25, .int g26, .int g27, .int g28, .ref g29, .int (nI (bs0 ++ encOp (cn + kk) (ft kk) (fd kk) (fo kk) (fk kk) (fv kk)).length), .int g31, .int g32])), (g29, .inl (cB, 1400, .inl f_100)), (g7, .inl (cI, 16, .inl ft)), (g8, .inl (cI, 16, .inl fo)), (g9, .inl (cJ, 16, .inr (.inl fk))), (g10, .inl (cI, 16, .inl fd)), (g11, .inl (cI, 16, .inl fv))]) [5, 6, 0, 1, 2, 3, 4] (by decide) rfl
              refine W.widen (k := 0) (n := 0) (by first | exact Nat.le_refl _ | omega) (by first | exact Nat.le_refl _ | omega) ?_
              exact W.vret hx hb hr (fun t ht hW => ⟨⟨f_100, rfl, (by rw [← hfin]; exact hq_101), by rw [ht]; exact hP9, va_K.moved hW.alike hK, hD9⟩, hS.F ht⟩) hS.2.2 dd_M_layOperation_154
          · refine lv_aload_n hx hb dd_M_layOperation_116 rfl (lv_at hl 1 rfl) ?_
            refine lv_aload_n hx hb dd_M_layOperation_117 rfl (lv_at hl 1 rfl) ?_
            refine va_get (D := (dC, dI)) (ci := 1) (v := .ref g11) (C := RR_M) (T := TT_M) (N := 33) hx hb hw hh_M hown hK hP 5 rfl rfl 11 (by decide) (hw _ qq_590) (fun _ h9 => h9) rfl dd_M_layOperation_118 ?_
            refine lv_iload_n hx hb dd_M_layOperation_121 rfl (lv_at hl 2 rfl) ?_
            refine va_iald hx hb hK hP 4 1 rfl rfl (vp_in_nI (by omega) (by decide)) dd_M_layOperation_122 ?_
            refine lv_topi (fun z_103 hz_103 => ?_)
            obtain rfl : z_103 = fv kk := hz_103.trans ((by rw [nI_clamp (by omega)]))
            have hPc := hP.sub (ws' := [(h, .inr (1, [.int g0, .int g1, .int g2, .int g3, .int (nI cn), .ref g5, .int g6, .ref g7, .ref g8, .ref g9, .ref g10, .ref g11, .int g12, .int g13, .int g14, .ref g15, .int g16, .ref g17, .ref g18, .ref g19, .ref g20, .ref g21, .ref g22, .int g23, .ref g24, .int g25, .int g26, .int g27, .int g28, .ref g29, .int (nI (bs0 ++ [((ft kk) + (8 * (fd kk))) &&& 255] ++ encUf 4 (refN (cn + kk) i) ++ (nI n :: encLk n (fk kk))).length), .int g31, .int g32])), (g29, .inl (cB, 1400, .inl f_79))]) [5, 6] rfl
            have hDc := hD.sub (ws' := [(h, .inr (1, [.int g0, .int g1, .int g2, .int g3, .int (nI cn), .ref g5, .int g6, .ref g7, .ref g8, .ref g9, .ref g10, .ref g11, .int g12, .int g13, .int g14, .ref g15, .int g16, .ref g17, .ref g18, .ref g19, .ref g20, .ref g21, .ref g22, .int g23, .ref g24, .int g25, .int g26, .int g27, .int g28, .ref g29, .int (nI (bs0 ++ [((ft kk) + (8 * (fd kk))) &&& 255] ++ encUf 4 (refN (cn + kk) i) ++ (nI n :: encLk n (fk kk))).length), .int g31, .int g32])), (g29, .inl (cB, 1400, .inl f_79))]) [5, 6] (by decide) rfl
            have hFc := va_free (wc := [(h, .inr (1, [.int g0, .int g1, .int g2, .int g3, .int (nI cn), .ref g5, .int g6, .ref g7, .ref g8, .ref g9, .ref g10, .ref g11, .int g12, .int g13, .int g14, .ref g15, .int g16, .ref g17, .ref g18, .ref g19, .ref g20, .ref g21, .ref g22, .int g23, .ref g24, .int g25, .int g26, .int g27, .int g28, .ref g29, .int (nI (bs0 ++ [((ft kk) + (8 * (fd kk))) &&& 255] ++ encUf 4 (refN (cn + kk) i) ++ (nI n :: encLk n (fk kk))).length), .int g31, .int g32])), (g29, .inl (cB, 1400, .inl f_79))]) hD hS hA [5, 6] rfl
            refine va_callv (va_runV (As := [.int (fv kk)]) (rest := []) ⟨hx, hb, hml, hown, hw⟩ (cb_M_lay l dC dI cB cI cJ H.size h g0 g1 g2 g3 (nI cn) g6 g12 g13 g14 g16 g23 g25 g26 g27 g28 g31 g32 g5 g7 g8 g9 g10 g11 g15 g17 g18 g19 g20 g21 g22 g24 g29 f_79 (bs0 ++ [((ft kk) + (8 * (fd kk))) &&& 255] ++ encUf 4 (refN (cn + kk) i) ++ (nI n :: encLk n (fk kk))) hq_80 (fv kk) (by have h1 := encUf_le 4 (refN (cn + kk) i); have h2 := encKey_le (cn + kk) (ft kk) (fk kk); simp only [List.length_append, List.length_cons, List.length_nil, encLk_len]; omega)) (kw_V 1 hw qq_735 qq_5 qq_738 qq_737 qs_M_lay rfl rfl (by decide +kernel) ⟨Nat.le_of_ble_eq_true rfl, Nat.le_of_ble_eq_true rfl⟩) ⟨fun a U g mk q => by obtain ⟨q0, q1, qP, qK, qD⟩ := q; exact ⟨q0, q1, qP, va_K.moved (u := U) (U := U.calling g mk a) (Vm.Alike.refl U.vm) qK, qD⟩, va_recv hK hPc (ci := 1) (q0 := 0) rfl rfl, fun U hU hW => ⟨rfl, by rw [hU], by rw [hU]; exact hPc, va_K.moved hW.alike hK, hDc.weaken (fun _ _ _ _ => trivial)⟩⟩ rfl rfl hl.1 rfl (lv_room (Nat.le_of_ble_eq_true rfl)) dd_M_layOperation_123 ⟨by first | exact Nat.le_of_ble_eq_true rfl | (simp only [headSpec]; omega), by first | exact Nat.le_of_ble_eq_true rfl | (simp only [headSpec]; omega)⟩) hS (fun q _ h => hFc q h) hFc (fun f_104 t H1 locs ht hvm hq_105 hB hz1 hk1 hS => ?_)
            obtain ⟨hP1, hK1, hD1⟩ := hB
            rw [ht] at hP1
            obtain ⟨hP, hD⟩ := va_join (wr := [(g7, .inl (cI, 16, .inl ft)), (g8, .inl (cI, 16, .inl fo)), (g9, .inl (cJ, 16, .inr (.inl fk))), (g10, .inl (cI, 16, .inl fd)), (g11, .inl (cI, 16, .inl fv))]) (w1 := [(h, .inr (1, [.int g0, .int g1, .int g2, .int g3, .int (nI cn), .ref g5, .int g6, .ref g7, .ref g8, .ref g9, .ref g10, .ref g11, .int g12, .int g13, .int g14, .ref g15, .int g16, .ref g17, .ref g18, .ref g19, .ref g20, .ref g21, .ref g22, .int g23, .ref g24, .int g25, .int g26, .int g27, .int g28, .ref g29, .int (nI ((bs0 ++ [((ft kk) + (8 * (fd kk))) &&& 255] ++ encUf 4 (refN (cn + kk) i) ++ (nI n :: encLk n (fk kk))).length + 1)), .int g31, .int g32])), (g29, .inl (cB, 1400, .inl f_104))]) hP hD [5, 6] [0, 1, 2, 3, 4] rfl rfl (by decide) (by decide) hk1 hFc hP1 hD1
            clear hP1 hK1 hD1 ht hvm hz1 hk1 hPc hDc hFc
            generalize H1 = H at hP hS ⊢
            have hP : va_P (dC, dI) vcl [(g7, .inl (cI, 16, .inl ft)), (g8, .inl (cI, 16, .inl fo)), (g9, .inl (cJ, 16, .inr (.inl fk))), (g10, .inl (cI, 16, .inl fd)), (g11, .inl (cI, 16, .inl fv)), (h, .inr (1, [.int g0, .int g1, .int g2, .int g3, .int (nI cn), .ref g5, .int g6, .ref g7, .ref g8, .ref g9, .ref g10, .ref g11, .int g12, .int g13, .int g14, .ref g15, .int g16, .ref g17, .ref g18, .ref g19, .ref g20, .ref g21, .ref g22, .int g23, .ref g24, .int g25, .int g26, .int g27, .int g28, .ref g29, .int (nI ((bs0 ++ [((ft kk) + (8 * (fd kk))) &&& 255] ++ encUf 4 (refN (cn + kk) i) ++ (nI n :: encLk n (fk kk))).length + 1)), .int g31, .int g32])), (g29, .inl (cB, 1400, .inl f_104))] H := hP
            have hD : va_D A [(g7, .inl (cI, 16, .inl ft)), (g8, .inl (cI, 16, .inl fo)), (g9, .inl (cJ, 16, .inr (.inl fk))), (g10, .inl (cI, 16, .inl fd)), (g11, .inl (cI, 16, .inl fv)), (h, .inr (1, [.int g0, .int g1, .int g2, .int g3, .int (nI cn), .ref g5, .int g6, .ref g7, .ref g8, .ref g9, .ref g10, .ref g11, .int g12, .int g13, .int g14, .ref g15, .int g16, .ref g17, .ref g18, .ref g19, .ref g20, .ref g21, .ref g22, .int g23, .ref g24, .int g25, .int g26, .int g27, .int g28, .ref g29, .int (nI ((bs0 ++ [((ft kk) + (8 * (fd kk))) &&& 255] ++ encUf 4 (refN (cn + kk) i) ++ (nI n :: encLk n (fk kk))).length + 1)), .int g31, .int g32])), (g29, .inl (cB, 1400, .inl f_104))] := hD
            have hq_105 : Hd (bs0 ++ [((ft kk) + (8 * (fd kk))) &&& 255] ++ encUf 4 (refN (cn + kk) i) ++ (nI n :: encLk n (fk kk)) ++ [(fv kk) &&& 255]) f_104 := by exact hq_105
            have e_106 : (nI ((bs0 ++ [((ft kk) + (8 * (fd kk))) &&& 255] ++ encUf 4 (refN (cn + kk) i) ++ (nI n :: encLk n (fk kk))).length + 1) : Int32) = nI (bs0 ++ [((ft kk) + (8 * (fd kk))) &&& 255] ++ encUf 4 (refN (cn + kk) i) ++ (nI n :: encLk n (fk kk)) ++ [(fv kk) &&& 255]).length := (by simp only [List.length_append, List.length_cons, List.length_nil])
            have hP : va_P (dC, dI) vcl [(g7, .inl (cI, 16, .inl ft)), (g8, .inl (cI, 16, .inl fo)), (g9, .inl (cJ, 16, .inr (.inl fk))), (g10, .inl (cI, 16, .inl fd)), (g11, .inl (cI, 16, .inl fv)), (h, .inr (1, [.int g0, .int g1, .int g2, .int g3, .int (nI cn), .ref g5, .int g6, .ref g7, .ref g8, .ref g9, .ref g10, .ref g11, .int g12, .int g13, .int g14, .ref g15, .int g16, .ref g17, .ref g18, .ref g19, .ref g20, .ref g21, .ref g22, .int g23, .ref g24, .int g25, .int g26, .int g27, .int g28, .ref g29, .int (nI (bs0 ++ [((ft kk) + (8 * (fd kk))) &&& 255] ++ encUf 4 (refN (cn + kk) i) ++ (nI n :: encLk n (fk kk)) ++ [(fv kk) &&& 255]).length), .int g31, .int g32])), (g29, .inl (cB, 1400, .inl f_104))] H := by rw [← e_106]; exact hP
            have hD : va_D A [(g7, .inl (cI, 16, .inl ft)), (g8, .inl (cI, 16, .inl fo)), (g9, .inl (cJ, 16, .inr (.inl fk))), (g10, .inl (cI, 16, .inl fd)), (g11, .inl (cI, 16, .inl fv)), (h, .inr (1, [.int g0, .int g1, .int g2, .int g3, .int (nI cn), .ref g5, .int g6, .ref g7, .ref g8, .ref g9, .ref g10, .ref g11, .int g12, .int g13, .int g14, .ref g15, .int g16, .ref g17, .ref g18, .ref g19, .ref g20, .ref g21, .ref g22, .int g23, .ref g24, .int g25, .int g26, .int g27, .int g28, .ref g29, .int (nI (bs0 ++ [((ft kk) + (8 * (fd kk))) &&& 255] ++ encUf 4 (refN (cn + kk) i) ++ (nI n :: encLk n (fk kk)) ++ [(fv kk) &&& 255]).length), .int g31, .int g32])), (g29, .inl (cB, 1400, .inl f_104))] := by rw [← e_106]; exact hD
            refine lv_goto (tgt := 154) hx hb dd_M_layOperation_126 (by decide) ?_
            have hfin : bs0 ++ [((ft kk) + (8 * (fd kk))) &&& 255] ++ encUf 4 (refN (cn + kk) i) ++ (nI n :: encLk n (fk kk)) ++ [(fv kk) &&& 255] = bs0 ++ encOp (cn + kk) (ft kk) (fd kk) (fo kk) (fk kk) (fv kk) := by rw [encOp, encKey, encVal, if_neg c_10, if_neg c_81, if_neg c_87, if_neg c_93, if_pos c_95, refOf_nI ei hi, encLt_some hn]; simp only [List.append_assoc, List.nil_append, List.append_nil, List.cons_append]
            have e_107 : (nI (bs0 ++ [((ft kk) + (8 * (fd kk))) &&& 255] ++ encUf 4 (refN (cn + kk) i) ++ (nI n :: encLk n (fk kk)) ++ [(fv kk) &&& 255]).length : Int32) = nI (bs0 ++ encOp (cn + kk) (ft kk) (fd kk) (fo kk) (fk kk) (fv kk)).length := (by rw [hfin])
            have hP : va_P (dC, dI) vcl [(g7, .inl (cI, 16, .inl ft)), (g8, .inl (cI, 16, .inl fo)), (g9, .inl (cJ, 16, .inr (.inl fk))), (g10, .inl (cI, 16, .inl fd)), (g11, .inl (cI, 16, .inl fv)), (h, .inr (1, [.int g0, .int g1, .int g2, .int g3, .int (nI cn), .ref g5, .int g6, .ref g7, .ref g8, .ref g9, .ref g10, .ref g11, .int g12, .int g13, .int g14, .ref g15, .int g16, .ref g17, .ref g18, .ref g19, .ref g20, .ref g21, .ref g22, .int g23, .ref g24, .int g25, .int g26, .int g27, .int g28, .ref g29, .int (nI (bs0 ++ encOp (cn + kk) (ft kk) (fd kk) (fo kk) (fk kk) (fv kk)).length), .int g31, .int g32])), (g29, .inl (cB, 1400, .inl f_104))] H := by rw [← e_107]; exact hP
            have hD : va_D A [(g7, .inl (cI, 16, .inl ft)), (g8, .inl (cI, 16, .inl fo)), (g9, .inl (cJ, 16, .inr (.inl fk))), (g10, .inl (cI, 16, .inl fd)), (g11, .inl (cI, 16, .inl fv)), (h, .inr (1, [.int g0, .int g1, .int g2, .int g3, .int (nI cn), .ref g5, .int g6, .ref g7, .ref g8, .ref g9, .ref g10, .ref g11, .int g12, .int g13, .int g14, .ref g15, .int g16, .ref g17, .ref g18, .ref g19, .ref g20, .ref g21, .ref g22, .int g23, .ref g24, .int g25, .int g26, .int g27, .int g28, .ref g29, .int (nI (bs0 ++ encOp (cn + kk) (ft kk) (fd kk) (fo kk) (fk kk) (fv kk)).length), .int g31, .int g32])), (g29, .inl (cB, 1400, .inl f_104))] := by rw [← e_107]; exact hD
            have hP9 := hP.sub (ws' := [(h, .inr (1, [.int g0, .int g1, .int g2, .int g3, .int (nI cn), .ref g5, .int g6, .ref g7, .ref g8, .ref g9, .ref g10, .ref g11, .int g12, .int g13, .int g14, .ref g15, .int g16, .ref g17, .ref g18, .ref g19, .ref g20, .ref g21, .ref g22, .int g23, .ref g24, .int g25, .int g26, .int g27, .int g28, .ref g29, .int (nI (bs0 ++ encOp (cn + kk) (ft kk) (fd kk) (fo kk) (fk kk) (fv kk)).length), .int g31, .int g32])), (g29, .inl (cB, 1400, .inl f_104)), (g7, .inl (cI, 16, .inl ft)), (g8, .inl (cI, 16, .inl fo)), (g9, .inl (cJ, 16, .inr (.inl fk))), (g10, .inl (cI, 16, .inl fd)), (g11, .inl (cI, 16, .inl fv))]) [5, 6, 0, 1, 2, 3, 4] rfl
            have hD9 := hD.sub (ws' := [(h, .inr (1, [.int g0, .int g1, .int g2, .int g3, .int (nI cn), .ref g5, .int g6, .ref g7, .ref g8, .ref g9, .ref g10, .ref g11, .int g12, .int g13, .int g14, .ref g15, .int g16, .ref g17, .ref g18, .ref g19, .ref g20, .ref g21, .ref g22, .int g23, .ref g24, .int g25, .int g26, .int g27, .int g28, .ref g29, .int (nI (bs0 ++ encOp (cn + kk) (ft kk) (fd kk) (fo kk) (fk kk) (fv kk)).length), .int g31, .int g32])), (g29, .inl (cB, 1400, .inl f_104)), (g7, .inl (cI, 16, .inl ft)), (g8, .inl (cI, 16, .inl fo)), (g9, .inl (cJ, 16, .inr (.inl fk))), (g10, .inl (cI, 16, .inl fd)), (g11, .inl (cI, 16, .inl fv))]) [5, 6, 0, 1, 2, 3, 4] (by decide) rfl
            refine W.widen (k := 0) (n := 0) (by first | exact Nat.le_refl _ | omega) (by first | exact Nat.le_refl _ | omega) ?_
            exact W.vret hx hb hr (fun t ht hW => ⟨⟨f_104, rfl, (by rw [← hfin]; exact hq_105), by rw [ht]; exact hP9, va_K.moved hW.alike hK, hD9⟩, hS.F ht⟩) hS.2.2 dd_M_layOperation_154
        · refine lv_aload_n hx hb dd_M_layOperation_93 rfl (lv_at hl 1 rfl) ?_
          refine lv_aload_n hx hb dd_M_layOperation_94 rfl (lv_at hl 1 rfl) ?_
          refine va_get (D := (dC, dI)) (ci := 1) (v := .ref g11) (C := RR_M) (T := TT_M) (N := 33) hx hb hw hh_M hown hK hP 5 rfl rfl 11 (by decide) (hw _ qq_590) (fun _ h9 => h9) rfl dd_M_layOperation_95 ?_
          refine lv_iload_n hx hb dd_M_layOperation_98 rfl (lv_at hl 2 rfl) ?_
          refine va_iald hx hb hK hP 4 1 rfl rfl (vp_in_nI (by omega) (by decide)) dd_M_layOperation_99 ?_
          refine lv_topi (fun z_108 hz_108 => ?_)
          obtain rfl : z_108 = fv kk := hz_108.trans ((by rw [nI_clamp (by omega)]))
          have hPc := hP.sub (ws' := [(h, .inr (1, [.int g0, .int g1, .int g2, .int g3, .int (nI cn), .ref g5, .int g6, .ref g7, .ref g8, .ref g9, .ref g10, .ref g11, .int g12, .int g13, .int g14, .ref g15, .int g16, .ref g17, .ref g18, .ref g19, .ref g20, .ref g21, .ref g22, .int g23, .ref g24, .int g25, .int g26, .int g27, .int g28, .ref g29, .int (nI (bs0 ++ [((ft kk) + (8 * (fd kk))) &&& 255] ++ encUf 4 (refN (cn + kk) i) ++ (nI n :: encLk n (fk kk))).length), .int g31, .int g32])), (g29, .inl (cB, 1400, .inl f_79))]) [5, 6] rfl
          have hDc := hD.sub (ws' := [(h, .inr (1, [.int g0, .int g1, .int g2, .int g3, .int (nI cn), .ref g5, .int g6, .ref g7, .ref g8, .ref g9, .ref g10, .ref g11, .int g12, .int g13, .int g14, .ref g15, .int g16, .ref g17, .ref g18, .ref g19, .ref g20, .ref g21, .ref g22, .int g23, .ref g24, .int g25, .int g26, .int g27, .int g28, .ref g29, .int (nI (bs0 ++ [((ft kk) + (8 * (fd kk))) &&& 255] ++ encUf 4 (refN (cn + kk) i) ++ (nI n :: encLk n (fk kk))).length), .int g31, .int g32])), (g29, .inl (cB, 1400, .inl f_79))]) [5, 6] (by decide) rfl
          have hFc := va_free (wc := [(h, .inr (1, [.int g0, .int g1, .int g2, .int g3, .int (nI cn), .ref g5, .int g6, .ref g7, .ref g8, .ref g9, .ref g10, .ref g11, .int g12, .int g13, .int g14, .ref g15, .int g16, .ref g17, .ref g18, .ref g19, .ref g20, .ref g21, .ref g22, .int g23, .ref g24, .int g25, .int g26, .int g27, .int g28, .ref g29, .int (nI (bs0 ++ [((ft kk) + (8 * (fd kk))) &&& 255] ++ encUf 4 (refN (cn + kk) i) ++ (nI n :: encLk n (fk kk))).length), .int g31, .int g32])), (g29, .inl (cB, 1400, .inl f_79))]) hD hS hA [5, 6] rfl
          refine va_callv (va_runV (As := [.int (fv kk)]) (rest := []) ⟨hx, hb, hml, hown, hw⟩ (cb_M_layS l dC dI cB cI cJ H.size h g0 g1 g2 g3 (nI cn) g6 g12 g13 g14 g16 g23 g25 g26 g27 g28 g31 g32 g5 g7 g8 g9 g10 g11 g15 g17 g18 g19 g20 g21 g22 g24 g29 f_79 (bs0 ++ [((ft kk) + (8 * (fd kk))) &&& 255] ++ encUf 4 (refN (cn + kk) i) ++ (nI n :: encLk n (fk kk))) hq_80 (fv kk) (by have h1 := encUf_le 4 (refN (cn + kk) i); have h5 := encSf_le 4 (fv kk); simp only [List.length_append, List.length_cons, List.length_nil, encLk_len]; omega)) (kw_V 1 hw qq_755 qq_5 qq_758 qq_757 qs_M_layS rfl rfl (by decide +kernel) ⟨Nat.le_of_ble_eq_true rfl, Nat.le_of_ble_eq_true rfl⟩) ⟨fun a U g mk q => by obtain ⟨q0, q1, qP, qK, qD⟩ := q; exact ⟨q0, q1, qP, va_K.moved (u := U) (U := U.calling g mk a) (Vm.Alike.refl U.vm) qK, qD⟩, va_recv hK hPc (ci := 1) (q0 := 0) rfl rfl, fun U hU hW => ⟨rfl, by rw [hU], by rw [hU]; exact hPc, va_K.moved hW.alike hK, hDc.weaken (fun _ _ _ _ => trivial)⟩⟩ rfl rfl hl.1 rfl (lv_room (Nat.le_of_ble_eq_true rfl)) dd_M_layOperation_100 ⟨by first | exact Nat.le_of_ble_eq_true rfl | (simp only [headSpec]; omega), by first | exact Nat.le_of_ble_eq_true rfl | (simp only [headSpec]; omega)⟩) hS (fun q _ h => hFc q h) hFc (fun f_109 t H1 locs ht hvm hq_110 hB hz1 hk1 hS => ?_)
          obtain ⟨hP1, hK1, hD1⟩ := hB
          rw [ht] at hP1
          obtain ⟨hP, hD⟩ := va_join (wr := [(g7, .inl (cI, 16, .inl ft)), (g8, .inl (cI, 16, .inl fo)), (g9, .inl (cJ, 16, .inr (.inl fk))), (g10, .inl (cI, 16, .inl fd)), (g11, .inl (cI, 16, .inl fv))]) (w1 := [(h, .inr (1, [.int g0, .int g1, .int g2, .int g3, .int (nI cn), .ref g5, .int g6, .ref g7, .ref g8, .ref g9, .ref g10, .ref g11, .int g12, .int g13, .int g14, .ref g15, .int g16, .ref g17, .ref g18, .ref g19, .ref g20, .ref g21, .ref g22, .int g23, .ref g24, .int g25, .int g26, .int g27, .int g28, .ref g29, .int (nI (bs0 ++ [((ft kk) + (8 * (fd kk))) &&& 255] ++ encUf 4 (refN (cn + kk) i) ++ (nI n :: encLk n (fk kk)) ++ encSf 4 (fv kk)).length), .int g31, .int g32])), (g29, .inl (cB, 1400, .inl f_109))]) hP hD [5, 6] [0, 1, 2, 3, 4] rfl rfl (by decide) (by decide) hk1 hFc hP1 hD1
          clear hP1 hK1 hD1 ht hvm hz1 hk1 hPc hDc hFc
          generalize H1 = H at hP hS ⊢
          have hP : va_P (dC, dI) vcl [(g7, .inl (cI, 16, .inl ft)), (g8, .inl (cI, 16, .inl fo)), (g9, .inl (cJ, 16, .inr (.inl fk))), (g10, .inl (cI, 16, .inl fd)), (g11, .inl (cI, 16, .inl fv)), (h, .inr (1, [.int g0, .int g1, .int g2, .int g3, .int (nI cn), .ref g5, .int g6, .ref g7, .ref g8, .ref g9, .ref g10, .ref g11, .int g12, .int g13, .int g14, .ref g15, .int g16, .ref g17, .ref g18, .ref g19, .ref g20, .ref g21, .ref g22, .int g23, .ref g24, .int g25, .int g26, .int g27, .int g28, .ref g29, .int (nI (bs0 ++ [((ft kk) + (8 * (fd kk))) &&& 255] ++ encUf 4 (refN (cn + kk) i) ++ (nI n :: encLk n (fk kk)) ++ encSf 4 (fv kk)).length), .int g31, .int g32])), (g29, .inl (cB, 1400, .inl f_109))] H := hP
          have hD : va_D A [(g7, .inl (cI, 16, .inl ft)), (g8, .inl (cI, 16, .inl fo)), (g9, .inl (cJ, 16, .inr (.inl fk))), (g10, .inl (cI, 16, .inl fd)), (g11, .inl (cI, 16, .inl fv)), (h, .inr (1, [.int g0, .int g1, .int g2, .int g3, .int (nI cn), .ref g5, .int g6, .ref g7, .ref g8, .ref g9, .ref g10, .ref g11, .int g12, .int g13, .int g14, .ref g15, .int g16, .ref g17, .ref g18, .ref g19, .ref g20, .ref g21, .ref g22, .int g23, .ref g24, .int g25, .int g26, .int g27, .int g28, .ref g29, .int (nI (bs0 ++ [((ft kk) + (8 * (fd kk))) &&& 255] ++ encUf 4 (refN (cn + kk) i) ++ (nI n :: encLk n (fk kk)) ++ encSf 4 (fv kk)).length), .int g31, .int g32])), (g29, .inl (cB, 1400, .inl f_109))] := hD
          refine lv_goto (tgt := 154) hx hb dd_M_layOperation_103 (by decide) ?_
          have hfin : bs0 ++ [((ft kk) + (8 * (fd kk))) &&& 255] ++ encUf 4 (refN (cn + kk) i) ++ (nI n :: encLk n (fk kk)) ++ encSf 4 (fv kk) = bs0 ++ encOp (cn + kk) (ft kk) (fd kk) (fo kk) (fk kk) (fv kk) := by rw [encOp, encKey, encVal, if_neg c_10, if_neg c_81, if_neg c_87, if_pos c_93, refOf_nI ei hi, encLt_some hn]; simp only [List.append_assoc, List.nil_append, List.append_nil, List.cons_append]
          have e_111 : (nI (bs0 ++ [((ft kk) + (8 * (fd kk))) &&& 255] ++ encUf 4 (refN (cn + kk) i) ++ (nI n :: encLk n (fk kk)) ++ encSf 4 (fv kk)).length : Int32) = nI (bs0 ++ encOp (cn + kk) (ft kk) (fd kk) (fo kk) (fk kk) (fv kk)).length := (by rw [hfin])
          have hP : va_P (dC, dI) vcl [(g7, .inl (cI, 16, .inl ft)), (g8, .inl (cI, 16, .inl fo)), (g9, .inl (cJ, 16, .inr (.inl fk))), (g10, .inl (cI, 16, .inl fd)), (g11, .inl (cI, 16, .inl fv)), (h, .inr (1, [.int g0, .int g1, .int g2, .int g3, .int (nI cn), .ref g5, .int g6, .ref g7, .ref g8, .ref g9, .ref g10, .ref g11, .int g12, .int g13, .int g14, .ref g15, .int g16, .ref g17, .ref g18, .ref g19, .ref g20, .ref g21, .ref g22, .int g23, .ref g24, .int g25, .int g26, .int g27, .int g28, .ref g29, .int (nI (bs0 ++ encOp (cn + kk) (ft kk) (fd kk) (fo kk) (fk kk) (fv kk)).length), .int g31, .int g32])), (g29, .inl (cB, 1400, .inl f_109))] H := by rw [← e_111]; exact hP
          have hD : va_D A [(g7, .inl (cI, 16, .inl ft)), (g8, .inl (cI, 16, .inl fo)), (g9, .inl (cJ, 16, .inr (.inl fk))), (g10, .inl (cI, 16, .inl fd)), (g11, .inl (cI, 16, .inl fv)), (h, .inr (1, [.int g0, .int g1, .int g2, .int g3, .int (nI cn), .ref g5, .int g6, .ref g7, .ref g8, .ref g9, .ref g10, .ref g11, .int g12, .int g13, .int g14, .ref g15, .int g16, .ref g17, .ref g18, .ref g19, .ref g20, .ref g21, .ref g22, .int g23, .ref g24, .int g25, .int g26, .int g27, .int g28, .ref g29, .int (nI (bs0 ++ encOp (cn + kk) (ft kk) (fd kk) (fo kk) (fk kk) (fv kk)).length), .int g31, .int g32])), (g29, .inl (cB, 1400, .inl f_109))] := by rw [← e_111]; exact hD
          have hP9 := hP.sub (ws' := [(h, .inr (1, [.int g0, .int g1, .int g2, .int g3, .int (nI cn), .ref g5, .int g6, .ref g7, .ref g8, .ref g9, .ref g10, .ref g11, .int g12, .int g13, .int g14, .ref g15, .int g16, .ref g17, .ref g18, .ref g19, .ref g20, .ref g21, .ref g22, .int g23, .ref g24, .int g25, .int g26, .int g27, .int g28, .ref g29, .int (nI (bs0 ++ encOp (cn + kk) (ft kk) (fd kk) (fo kk) (fk kk) (fv kk)).length), .int g31, .int g32])), (g29, .inl (cB, 1400, .inl f_109)), (g7, .inl (cI, 16, .inl ft)), (g8, .inl (cI, 16, .inl fo)), (g9, .inl (cJ, 16, .inr (.inl fk))), (g10, .inl (cI, 16, .inl fd)), (g11, .inl (cI, 16, .inl fv))]) [5, 6, 0, 1, 2, 3, 4] rfl
          have hD9 := hD.sub (ws' := [(h, .inr (1, [.int g0, .int g1, .int g2, .int g3, .int (nI cn), .ref g5, .int g6, .ref g7, .ref g8, .ref g9, .ref g10, .ref g11, .int g12, .int g13, .int g14, .ref g15, .int g16, .ref g17, .ref g18, .ref g19, .ref g20, .ref g21, .ref g22, .int g23, .ref g24, .int g25, .int g26, .int g27, .int g28, .ref g29, .int (nI (bs0 ++ encOp (cn + kk) (ft kk) (fd kk) (fo kk) (fk kk) (fv kk)).length), .int g31, .int g32])), (g29, .inl (cB, 1400, .inl f_109)), (g7, .inl (cI, 16, .inl ft)), (g8, .inl (cI, 16, .inl fo)), (g9, .inl (cJ, 16, .inr (.inl fk))), (g10, .inl (cI, 16, .inl fd)), (g11, .inl (cI, 16, .inl fv))]) [5, 6, 0, 1, 2, 3, 4] (by decide) rfl
          refine W.widen (k := 0) (n := 0) (by first | exact Nat.le_refl _ | omega) (by first | exact Nat.le_refl _ | omega) ?_
          exact W.vret hx hb hr (fun t ht hW => ⟨⟨f_109, rfl, (by rw [← hfin]; exact hq_110), by rw [ht]; exact hP9, va_K.moved hW.alike hK, hD9⟩, hS.F ht⟩) hS.2.2 dd_M_layOperation_154
end
section
/-! ===== the bytes of a body ===== -/
def onB (ac : Nat) (cv : Nat → Nat) (a : Nat) : Bool := decide (a ≠ ac) && decide (0 < cv a)
def bitsN (ac : Nat) (cv : Nat → Nat) : Nat → Nat
  | 0 => 0
  | a + 1 => bitsN ac cv a + (if onB ac cv a then 2 ^ a else 0)
theorem bitsN_lt (ac : Nat) (cv : Nat → Nat) : ∀ n, bitsN ac cv n < 2 ^ n := by
  intro n
  induction n with
  | zero => simp [bitsN]
  | succ n ih =>
    simp only [bitsN]
    rw [Nat.pow_succ]
    split <;> omega
theorem bitsN_bit (ac : Nat) (cv : Nat → Nat) : ∀ n a, a < n → bitsN ac cv n / 2 ^ a % 2 = if onB ac cv a then 1 else 0 := by
  intro n
  induction n with
  | zero => intro a h; omega
  | succ n ih =>
    intro a h
    have hlt := bitsN_lt ac cv n
    simp only [bitsN]
    by_cases e : a = n
    · subst e
      split
      · rw [Nat.add_div_right _ (Nat.two_pow_pos a), Nat.div_eq_of_lt hlt]
      · rw [Nat.add_zero, Nat.div_eq_of_lt hlt]
    · have ha : a < n := by omega
      rw [← ih a ha]
      split
      · rw [show 2 ^ n = 2 ^ a * (2 * 2 ^ (n - a - 1)) by rw [← Nat.mul_assoc, ← Nat.pow_succ, ← Nat.pow_add]; congr 1; omega, Nat.add_mul_div_left _ _ (Nat.two_pow_pos a)]
        omega
      · rw [Nat.add_zero]
theorem bit_shl : ∀ a, a < 8 → (1 : Int32) <<< (nI a &&& 31) = nI (2 ^ a) := by decide
theorem bit_shr {x a : Nat} (hx : x < 2 ^ 31) (ha : a < 8) : (nI x >>> (nI a &&& 31)) &&& 1 = nI (x / 2 ^ a % 2) := by
  have hs : ∀ n, n < 8 → ((nI n &&& 31).toBitVec.smod 32).toNat = n := by decide
  rw [pk_shrN hx _ a (hs a ha), pk_andN (n := x / 2 ^ a) (Nat.lt_of_le_of_lt (Nat.div_le_self _ _) (by omega)) (m := 1) 1 (by decide)]
theorem bit_is {ac : Nat} {cv : Nat → Nat} {a : Nat} (ha : a < 8) : (nI (bitsN ac cv 8) >>> (nI a &&& 31)) &&& 1 = 1 ↔ onB ac cv a = true := by
  rw [bit_shr (Nat.lt_of_lt_of_le (bitsN_lt ac cv 8) (by decide)) ha, bitsN_bit ac cv 8 a ha]
  cases onB ac cv a
  · simp only [Bool.false_eq_true, if_false, iff_false]; decide
  · simp only [if_true, iff_true]; decide
def encClk (ac : Nat) (cv : Nat → Nat) : Nat → List Int32
  | 0 => []
  | a + 1 => encClk ac cv a ++ (if onB ac cv a then encUf 4 (cv a) else [])
theorem encClk_le (ac : Nat) (cv : Nat → Nat) : ∀ a, (encClk ac cv a).length ≤ 5 * a := by
  intro a
  induction a with
  | zero => simp [encClk]
  | succ a ih =>
    simp only [encClk, List.length_append]
    split
    · have := encUf_le 4 (cv a); omega
    · simp only [List.length_nil]; omega
noncomputable def encOps (cn : Nat) (ft fd fo : Nat → Int32) (fk : Nat → Int64) (fv : Nat → Int32) : Nat → List Int32
  | 0 => []
  | k + 1 => encOps cn ft fd fo fk fv k ++ encOp (cn + k) (ft k) (fd k) (fo k) (fk k) (fv k)
theorem encOps_le (cn : Nat) (ft fd fo : Nat → Int32) (fk : Nat → Int64) (fv : Nat → Int32) : ∀ k, (encOps cn ft fd fo fk fv k).length ≤ 24 * k := by
  intro k
  induction k with
  | zero => simp [encOps]
  | succ k ih =>
    simp only [encOps, List.length_append]
    have := encOp_le (cn + k) (ft k) (fd k) (fo k) (fk k) (fv k)
    omega
noncomputable def encHead (ac sq cn mn : Nat) (cv : Nat → Nat) : List Int32 := [nI ac] ++ encUf 4 sq ++ encUf 4 cn ++ [nI (bitsN ac cv 8)] ++ encClk ac cv 8 ++ encUf 4 mn
noncomputable def encBody (ac sq cn mn : Nat) (cv : Nat → Nat) (ft fd fo : Nat → Int32) (fk : Nat → Int64) (fv : Nat → Int32) : List Int32 := encHead ac sq cn mn cv ++ encOps cn ft fd fo fk fv mn
theorem encHead_le (ac sq cn mn : Nat) (cv : Nat → Nat) : (encHead ac sq cn mn cv).length ≤ 57 := by
  unfold encHead
  have h1 := encUf_le 4 sq
  have h2 := encUf_le 4 cn
  have h3 := encUf_le 4 mn
  have h4 := encClk_le ac cv 8
  simp only [List.length_append, List.length_cons, List.length_nil]
  omega
theorem Hd_nil (f : Nat → Int32) : Hd [] f := fun i h => absurd h (Nat.not_lt_zero i)
/-! ===== the CHECK ===== -/
def crc1 (c : Int32) : Int32 := if c &&& 1 = 1 then (c.toUInt32 >>> ((1 : Int32).toUInt32 &&& Int32.toUInt32 31)).toInt32 ^^^ (-306674912) else (c.toUInt32 >>> ((1 : Int32).toUInt32 &&& Int32.toUInt32 31)).toInt32
def crcN : Nat → Int32 → Int32
  | 0, c => c
  | j + 1, c => crcN j (crc1 c)
/-- n bytes of l from a on -/
def crcR (l : List Int32) : Int32 → Nat → Nat → Int32
  | c, _, 0 => c
  | c, a, n + 1 => crcR l (crcN 8 (c ^^^ (l.getD a 0 &&& 255))) (a + 1) n
theorem vp_in_c {x N : Int32} {n : Nat} (hN : N.toInt = n) (h1 : ¬ x < 0) (h2 : ¬ N ≤ x) : vp_in x n := by
  rw [vp_in_iff]
  rw [Int32.lt_iff_toInt_lt, Int32.toInt_zero] at h1
  rw [Int32.le_iff_toInt_le, hN] at h2
  omega
end
section
set_option maxHeartbeats 4000000 in
set_option maxRecDepth 100000 in
/-- layBody() -/
theorem cb_M_layBody (l : Launch) (dC : Nat → ClassId) (dI : Nat → Nat → Nat) (cB cI cJ : ClassId) (sz : Nat) (h : Nat) (g0 g1 g12 g13 g14 g16 g23 g25 g26 g27 g28 g31 g32 : Int32) (g5 g7 g8 g9 g10 g11 g15 g17 g18 g19 g20 g21 g22 g24 g29 : Nat) (f0 : Nat → Int32) (fc ft fo fd fv : Nat → Int32) (fk : Nat → Int64) (ac sq cn mn : Nat) (cv : Nat → Nat) (hac : ac < 8) (hsq : sq ≤ 10000) (hcn : cn ≤ 100000) (hmn : mn ≤ 16) (hcv : ∀ a, a < 8 → fc a = nI (cv a) ∧ cv a ≤ 10000) (hops : ∀ k, k < mn → okOp (cn + k) (ft k) (fd k) (fo k) (fk k) (fv k)) (gl : Int32) : Met l yy_M_layBody (Cond.code yy_M_layBody cc_M_layBody 3 none :: gw) { frames := 4, cells := 0, slots := 0, locals := 87 } (va_Pc [.ref h] (ks_pre dC dI [(cB, .byte), (cI, .int), (cJ, .long)] [(h, .inr (1, [.int g0, .int g1, .int (nI ac), .int (nI sq), .int (nI cn), .ref g5, .int (nI mn), .ref g7, .ref g8, .ref g9, .ref g10, .ref g11, .int g12, .int g13, .int g14, .ref g15, .int g16, .ref g17, .ref g18, .ref g19, .ref g20, .ref g21, .ref g22, .int g23, .ref g24, .int g25, .int g26, .int g27, .int g28, .ref g29, .int gl, .int g31, .int g32])), (g29, .inl (cB, 1400, .inl f0)), (g5, .inl (cI, 8, .inl fc)), (g7, .inl (cI, 16, .inl ft)), (g8, .inl (cI, 16, .inl fo)), (g9, .inl (cJ, 16, .inr (.inl fk))), (g10, .inl (cI, 16, .inl fd)), (g11, .inl (cI, 16, .inl fv))] sz)) (va_Qv (fun (u : Nat → Int32) => Hd (encBody ac sq cn mn cv ft fd fo fk fv) u) (fun (u : Nat → Int32) => ks_post dC dI [(cB, .byte), (cI, .int), (cJ, .long)] (va_A [(h, .inr (1, [.int g0, .int g1, .int (nI ac), .int (nI sq), .int (nI cn), .ref g5, .int (nI mn), .ref g7, .ref g8, .ref g9, .ref g10, .ref g11, .int g12, .int g13, .int g14, .ref g15, .int g16, .ref g17, .ref g18, .ref g19, .ref g20, .ref g21, .ref g22, .int g23, .ref g24, .int g25, .int g26, .int g27, .int g28, .ref g29, .int gl, .int g31, .int g32])), (g29, .inl (cB, 1400, .inl f0)), (g5, .inl (cI, 8, .inl fc)), (g7, .inl (cI, 16, .inl ft)), (g8, .inl (cI, 16, .inl fo)), (g9, .inl (cJ, 16, .inr (.inl fk))), (g10, .inl (cI, 16, .inl fd)), (g11, .inl (cI, 16, .inl fv))] sz) [(h, .inr (1, [.int g0, .int g1, .int (nI ac), .int (nI sq), .int (nI cn), .ref g5, .int (nI mn), .ref g7, .ref g8, .ref g9, .ref g10, .ref g11, .int g12, .int g13, .int g14, .ref g15, .int g16, .ref g17, .ref g18, .ref g19, .ref g20, .ref g21, .ref g22, .int g23, .ref g24, .int g25, .int g26, .int g27, .int g28, .ref g29, .int (nI (encBody ac sq cn mn cv ft fd fo fk fv).length), .int g31, .int g32])), (g29, .inl (cB, 1400, .inl u)), (g5, .inl (cI, 8, .inl fc)), (g7, .inl (cI, 16, .inl ft)), (g8, .inl (cI, 16, .inl fo)), (g9, .inl (cJ, 16, .inr (.inl fk))), (g10, .inl (cI, 16, .inl fd)), (g11, .inl (cI, 16, .inl fv))]) (va_A [(h, .inr (1, [.int g0, .int g1, .int (nI ac), .int (nI sq), .int (nI cn), .ref g5, .int (nI mn), .ref g7, .ref g8, .ref g9, .ref g10, .ref g11, .int g12, .int g13, .int g14, .ref g15, .int g16, .ref g17, .ref g18, .ref g19, .ref g20, .ref g21, .ref g22, .int g23, .ref g24, .int g25, .int g26, .int g27, .int g28, .ref g29, .int gl, .int g31, .int g32])), (g29, .inl (cB, 1400, .inl f0)), (g5, .inl (cI, 8, .inl fc)), (g7, .inl (cI, 16, .inl ft)), (g8, .inl (cI, 16, .inl fo)), (g9, .inl (cJ, 16, .inr (.inl fk))), (g10, .inl (cI, 16, .inl fd)), (g11, .inl (cI, 16, .inl fv))] sz)) 0 0 (va_A [(h, .inr (1, [.int g0, .int g1, .int (nI ac), .int (nI sq), .int (nI cn), .ref g5, .int (nI mn), .ref g7, .ref g8, .ref g9, .ref g10, .ref g11, .int g12, .int g13, .int g14, .ref g15, .int g16, .ref g17, .ref g18, .ref g19, .ref g20, .ref g21, .ref g22, .int g23, .ref g24, .int g25, .int g26, .int g27, .int g28, .ref g29, .int gl, .int g31, .int g32])), (g29, .inl (cB, 1400, .inl f0)), (g5, .inl (cI, 8, .inl fc)), (g7, .inl (cI, 16, .inl ft)), (g8, .inl (cI, 16, .inl fo)), (g9, .inl (cJ, 16, .inr (.inl fk))), (g10, .inl (cI, 16, .inl fd)), (g11, .inl (cI, 16, .inl fv))] sz) := by
  refine Met.ofW (cc := cc_M_layBody) (maxL := 3) (ret := none) (by decide) rfl ?_
  intro p e s m args below meth c s₁ B hml hv
  obtain ⟨rfl, hsz, hP, hK, hD0⟩ := hv
  have hx := B.exec
  have hb := B.bytes
  have hr := B.returns
  have hw : ∀ w ∈ gw, w.before _ s = true := fun w h => atoms_spec (ws := (Cond.code yy_M_layBody cc_M_layBody 3 none :: gw)) B.pre w (List.mem_cons_of_mem _ h)
  have hown : s.vm.findClass RR_M = some m.cls := findClass_of_methodNamed B.named
  have hlocks := B.notSynchronized
  subst hsz
  have hD := hD0.self (sz := s.heap.size)
  generalize hAe : va_A [(h, .inr (1, [.int g0, .int g1, .int (nI ac), .int (nI sq), .int (nI cn), .ref g5, .int (nI mn), .ref g7, .ref g8, .ref g9, .ref g10, .ref g11, .int g12, .int g13, .int g14, .ref g15, .int g16, .ref g17, .ref g18, .ref g19, .ref g20, .ref g21, .ref g22, .int g23, .ref g24, .int g25, .int g26, .int g27, .int g28, .ref g29, .int gl, .int g31, .int g32])), (g29, .inl (cB, 1400, .inl f0)), (g5, .inl (cI, 8, .inl fc)), (g7, .inl (cI, 16, .inl ft)), (g8, .inl (cI, 16, .inl fo)), (g9, .inl (cJ, 16, .inr (.inl fk))), (g10, .inl (cI, 16, .inl fd)), (g11, .inl (cI, 16, .inl fv))] s.heap.size = A at hD ⊢
  have hA : ∀ q : Nat, s.heap.size ≤ q → A q := fun q h => by rw [← hAe]; exact Or.inr h
  have hS : va_S A s.heap s.heap [] := va_S.rf
  have hP : va_P (dC, dI) vcl [(h, .inr (1, [.int g0, .int g1, .int (nI ac), .int (nI sq), .int (nI cn), .ref g5, .int (nI mn), .ref g7, .ref g8, .ref g9, .ref g10, .ref g11, .int g12, .int g13, .int g14, .ref g15, .int g16, .ref g17, .ref g18, .ref g19, .ref g20, .ref g21, .ref g22, .int g23, .ref g24, .int g25, .int g26, .int g27, .int g28, .ref g29, .int gl, .int g31, .int g32])), (g29, .inl (cB, 1400, .inl f0)), (g5, .inl (cI, 8, .inl fc)), (g7, .inl (cI, 16, .inl ft)), (g8, .inl (cI, 16, .inl fo)), (g9, .inl (cJ, 16, .inr (.inl fk))), (g10, .inl (cI, 16, .inl fd)), (g11, .inl (cI, 16, .inl fv))] s.heap := hP
  have hl := lv_entry ([.ref h]) (n := 3) (Nat.le_of_ble_eq_true rfl)
  rw [lg_entry_eq]
  generalize (lg_sl ([.ref h]) ++ List.replicate (3 - (lg_sl ([.ref h])).length) Slot.unset).toArray = ls at hl ⊢
  have hl : lv_has ls 3 [(0, .ref h)] := hl
  refine lv_aload_n hx hb dd_M_layBody_0 rfl (lv_at hl 0 rfl) ?_
  refine lv_iconst (v := 0) hx hb dd_M_layBody_1 (by decide) ?_
  refine va_put (D := (dC, dI)) (ci := 1) (v := .int 0) (ty := .int) (C := RR_M) (T := TT_M) (N := 33) hx hb hw hh_M ty_M ty_M_ok nm_M hown hK hP hD hS 0 rfl rfl 30 (by decide) (hw _ qq_609) (fun _ h9 => h9) rfl (by decide +kernel) rfl rfl (Nat.le_of_ble_eq_true rfl) dd_M_layBody_2 (fun H locs hP hD hS => ?_)
  have hP : va_P (dC, dI) vcl [(h, .inr (1, [.int g0, .int g1, .int (nI ac), .int (nI sq), .int (nI cn), .ref g5, .int (nI mn), .ref g7, .ref g8, .ref g9, .ref g10, .ref g11, .int g12, .int g13, .int g14, .ref g15, .int g16, .ref g17, .ref g18, .ref g19, .ref g20, .ref g21, .ref g22, .int g23, .ref g24, .int g25, .int g26, .int g27, .int g28, .ref g29, .int 0, .int g31, .int g32])), (g29, .inl (cB, 1400, .inl f0)), (g5, .inl (cI, 8, .inl fc)), (g7, .inl (cI, 16, .inl ft)), (g8, .inl (cI, 16, .inl fo)), (g9, .inl (cJ, 16, .inr (.inl fk))), (g10, .inl (cI, 16, .inl fd)), (g11, .inl (cI, 16, .inl fv))] H := hP
  have hD : va_D A [(h, .inr (1, [.int g0, .int g1, .int (nI ac), .int (nI sq), .int (nI cn), .ref g5, .int (nI mn), .ref g7, .ref g8, .ref g9, .ref g10, .ref g11, .int g12, .int g13, .int g14, .ref g15, .int g16, .ref g17, .ref g18, .ref g19, .ref g20, .ref g21, .ref g22, .int g23, .ref g24, .int g25, .int g26, .int g27, .int g28, .ref g29, .int 0, .int g31, .int g32])), (g29, .inl (cB, 1400, .inl f0)), (g5, .inl (cI, 8, .inl fc)), (g7, .inl (cI, 16, .inl ft)), (g8, .inl (cI, 16, .inl fo)), (g9, .inl (cJ, 16, .inr (.inl fk))), (g10, .inl (cI, 16, .inl fd)), (g11, .inl (cI, 16, .inl fv))] := hD
  have e_1 : (0 : Int32) = nI ([] : List Int32).length := rfl
  have hP : va_P (dC, dI) vcl [(h, .inr (1, [.int g0, .int g1, .int (nI ac), .int (nI sq), .int (nI cn), .ref g5, .int (nI mn), .ref g7, .ref g8, .ref g9, .ref g10, .ref g11, .int g12, .int g13, .int g14, .ref g15, .int g16, .ref g17, .ref g18, .ref g19, .ref g20, .ref g21, .ref g22, .int g23, .ref g24, .int g25, .int g26, .int g27, .int g28, .ref g29, .int (nI ([] : List Int32).length), .int g31, .int g32])), (g29, .inl (cB, 1400, .inl f0)), (g5, .inl (cI, 8, .inl fc)), (g7, .inl (cI, 16, .inl ft)), (g8, .inl (cI, 16, .inl fo)), (g9, .inl (cJ, 16, .inr (.inl fk))), (g10, .inl (cI, 16, .inl fd)), (g11, .inl (cI, 16, .inl fv))] H := by rw [← e_1]; exact hP
  have hD : va_D A [(h, .inr (1, [.int g0, .int g1, .int (nI ac), .int (nI sq), .int (nI cn), .ref g5, .int (nI mn), .ref g7, .ref g8, .ref g9, .ref g10, .ref g11, .int g12, .int g13, .int g14, .ref g15, .int g16, .ref g17, .ref g18, .ref g19, .ref g20, .ref g21, .ref g22, .int g23, .ref g24, .int g25, .int g26, .int g27, .int g28, .ref g29, .int (nI ([] : List Int32).length), .int g31, .int g32])), (g29, .inl (cB, 1400, .inl f0)), (g5, .inl (cI, 8, .inl fc)), (g7, .inl (cI, 16, .inl ft)), (g8, .inl (cI, 16, .inl fo)), (g9, .inl (cJ, 16, .inr (.inl fk))), (g10, .inl (cI, 16, .inl fd)), (g11, .inl (cI, 16, .inl fv))] := by rw [← e_1]; exact hD
  refine lv_aload_n hx hb dd_M_layBody_5 rfl (lv_at hl 0 rfl) ?_
  refine lv_aload_n hx hb dd_M_layBody_6 rfl (lv_at hl 0 rfl) ?_
  refine va_get (D := (dC, dI)) (ci := 1) (v := .int (nI ac)) (C := RR_M) (T := TT_M) (N := 33) hx hb hw hh_M hown hK hP 0 rfl rfl 2 (by decide) (hw _ qq_581) (fun _ h9 => h9) rfl dd_M_layBody_7 ?_
  have hPc := hP.sub (ws' := [(h, .inr (1, [.int g0, .int g1, .int (nI ac), .int (nI sq), .int (nI cn), .ref g5, .int (nI mn), .ref g7, .ref g8, .ref g9, .ref g10, .ref g11, .int g12, .int g13, .int g14, .ref g15, .int g16, .ref g17, .ref g18, .ref g19, .ref g20, .ref g21, .ref g22, .int g23, .ref g24, .int g25, .int g26, .int g27, .int g28, .ref g29, .int (nI ([] : List Int32).length), .int g31, .int g32])), (g29, .inl (cB, 1400, .inl f0))]) [0, 1] rfl
  have hDc := hD.sub (ws' := [(h, .inr (1, [.int g0, .int g1, .int (nI ac), .int (nI sq), .int (nI cn), .ref g5, .int (nI mn), .ref g7, .ref g8, .ref g9, .ref g10, .ref g11, .int g12, .int g13, .int g14, .ref g15, .int g16, .ref g17, .ref g18, .ref g19, .ref g20, .ref g21, .ref g22, .int g23, .ref g24, .int g25, .int g26, .int g27, .int g28, .ref g29, .int (nI ([] : List Int32).length), .int g31, .int g32])), (g29, .inl (cB, 1400, .inl f0))]) [0, 1] (by decide) rfl
  have hFc := va_free (wc := [(h, .inr (1, [.int g0, .int g1, .int (nI ac), .int (nI sq), .int (nI cn), .ref g5, .int (nI mn), .ref g7, .ref g8, .ref g9, .ref g10, .ref g11, .int g12, .int g13, .int g14, .ref g15, .int g16, .ref g17, .ref g18, .ref g19, .ref g20, .ref g21, .ref g22, .int g23, .ref g24, .int g25, .int g26, .int g27, .int g28, .ref g29, .int (nI ([] : List Int32).length), .int g31, .int g32])), (g29, .inl (cB, 1400, .inl f0))]) hD hS hA [0, 1] rfl
  refine va_callv (va_runV (As := [.int (nI ac)]) (rest := []) ⟨hx, hb, hml, hown, hw⟩ (cb_M_lay l dC dI cB cI cJ H.size h g0 g1 (nI ac) (nI sq) (nI cn) (nI mn) g12 g13 g14 g16 g23 g25 g26 g27 g28 g31 g32 g5 g7 g8 g9 g10 g11 g15 g17 g18 g19 g20 g21 g22 g24 g29 f0 ([] : List Int32) (Hd_nil f0) (nI ac) (by decide)) (kw_V 1 hw qq_735 qq_5 qq_738 qq_737 qs_M_lay rfl rfl (by decide +kernel) ⟨Nat.le_of_ble_eq_true rfl, Nat.le_of_ble_eq_true rfl⟩) ⟨fun a U g mk q => by obtain ⟨q0, q1, qP, qK, qD⟩ := q; exact ⟨q0, q1, qP, va_K.moved (u := U) (U := U.calling g mk a) (Vm.Alike.refl U.vm) qK, qD⟩, va_recv hK hPc (ci := 1) (q0 := 0) rfl rfl, fun U hU hW => ⟨rfl, by rw [hU], by rw [hU]; exact hPc, va_K.moved hW.alike hK, hDc.weaken (fun _ _ _ _ => trivial)⟩⟩ rfl rfl hl.1 rfl (lv_room (Nat.le_of_ble_eq_true rfl)) dd_M_layBody_10 ⟨by first | exact Nat.le_of_ble_eq_true rfl | (simp only [headSpec]; omega), by first | exact Nat.le_of_ble_eq_true rfl | (simp only [headSpec]; omega)⟩) hS (fun q _ h => hFc q h) hFc (fun f_2 t H1 locs ht hvm hq_3 hB hz1 hk1 hS => ?_)
  obtain ⟨hP1, hK1, hD1⟩ := hB
  rw [ht] at hP1
  obtain ⟨hP, hD⟩ := va_join (wr := [(g5, .inl (cI, 8, .inl fc)), (g7, .inl (cI, 16, .inl ft)), (g8, .inl (cI, 16, .inl fo)), (g9, .inl (cJ, 16, .inr (.inl fk))), (g10, .inl (cI, 16, .inl fd)), (g11, .inl (cI, 16, .inl fv))]) (w1 := [(h, .inr (1, [.int g0, .int g1, .int (nI ac), .int (nI sq), .int (nI cn), .ref g5, .int (nI mn), .ref g7, .ref g8, .ref g9, .ref g10, .ref g11, .int g12, .int g13, .int g14, .ref g15, .int g16, .ref g17, .ref g18, .ref g19, .ref g20, .ref g21, .ref g22, .int g23, .ref g24, .int g25, .int g26, .int g27, .int g28, .ref g29, .int (nI (([] : List Int32).length + 1)), .int g31, .int g32])), (g29, .inl (cB, 1400, .inl f_2))]) hP hD [0, 1] [2, 3, 4, 5, 6, 7] rfl rfl (by decide) (by decide) hk1 hFc hP1 hD1
  clear hP1 hK1 hD1 ht hvm hz1 hk1 hPc hDc hFc
  generalize H1 = H at hP hS ⊢
  have hP : va_P (dC, dI) vcl [(g5, .inl (cI, 8, .inl fc)), (g7, .inl (cI, 16, .inl ft)), (g8, .inl (cI, 16, .inl fo)), (g9, .inl (cJ, 16, .inr (.inl fk))), (g10, .inl (cI, 16, .inl fd)), (g11, .inl (cI, 16, .inl fv)), (h, .inr (1, [.int g0, .int g1, .int (nI ac), .int (nI sq), .int (nI cn), .ref g5, .int (nI mn), .ref g7, .ref g8, .ref g9, .ref g10, .ref g11, .int g12, .int g13, .int g14, .ref g15, .int g16, .ref g17, .ref g18, .ref g19, .ref g20, .ref g21, .ref g22, .int g23, .ref g24, .int g25, .int g26, .int g27, .int g28, .ref g29, .int (nI (([] : List Int32).length + 1)), .int g31, .int g32])), (g29, .inl (cB, 1400, .inl f_2))] H := hP
  have hD : va_D A [(g5, .inl (cI, 8, .inl fc)), (g7, .inl (cI, 16, .inl ft)), (g8, .inl (cI, 16, .inl fo)), (g9, .inl (cJ, 16, .inr (.inl fk))), (g10, .inl (cI, 16, .inl fd)), (g11, .inl (cI, 16, .inl fv)), (h, .inr (1, [.int g0, .int g1, .int (nI ac), .int (nI sq), .int (nI cn), .ref g5, .int (nI mn), .ref g7, .ref g8, .ref g9, .ref g10, .ref g11, .int g12, .int g13, .int g14, .ref g15, .int g16, .ref g17, .ref g18, .ref g19, .ref g20, .ref g21, .ref g22, .int g23, .ref g24, .int g25, .int g26, .int g27, .int g28, .ref g29, .int (nI (([] : List Int32).length + 1)), .int g31, .int g32])), (g29, .inl (cB, 1400, .inl f_2))] := hD
  have hq_3 : Hd (([] : List Int32) ++ [nI ac]) f_2 := by rw [nI_255 (by omega)] at hq_3; exact hq_3
  have e_4 : (nI (([] : List Int32).length + 1) : Int32) = nI (([] : List Int32) ++ [nI ac]).length := (by simp only [List.length_append, List.length_cons, List.length_nil])
  have hP : va_P (dC, dI) vcl [(g5, .inl (cI, 8, .inl fc)), (g7, .inl (cI, 16, .inl ft)), (g8, .inl (cI, 16, .inl fo)), (g9, .inl (cJ, 16, .inr (.inl fk))), (g10, .inl (cI, 16, .inl fd)), (g11, .inl (cI, 16, .inl fv)), (h, .inr (1, [.int g0, .int g1, .int (nI ac), .int (nI sq), .int (nI cn), .ref g5, .int (nI mn), .ref g7, .ref g8, .ref g9, .ref g10, .ref g11, .int g12, .int g13, .int g14, .ref g15, .int g16, .ref g17, .ref g18, .ref g19, .ref g20, .ref g21, .ref g22, .int g23, .ref g24, .int g25, .int g26, .int g27, .int g28, .ref g29, .int (nI (([] : List Int32) ++ [nI ac]).length), .int g31, .int g32])), (g29, .inl (cB, 1400, .inl f_2))] H := by rw [← e_4]; exact hP
  have hD : va_D A [(g5, .inl (cI, 8, .inl fc)), (g7, .inl (cI, 16, .inl ft)), (g8, .inl (cI, 16, .inl fo)), (g9, .inl (cJ, 16, .inr (.inl fk))), (g10, .inl (cI, 16, .inl fd)), (g11, .inl (cI, 16, .inl fv)), (h, .inr (1, [.int g0, .int g1, .int (nI ac), .int (nI sq), .int (nI cn), .ref g5, .int (nI mn), .ref g7, .ref g8, .ref g9, .ref g10, .ref g11, .int g12, .int g13, .int g14, .ref g15, .int g16, .ref g17, .ref g18, .ref g19, .ref g20, .ref g21, .ref g22, .int g23, .ref g24, .int g25, .int g26, .int g27, .int g28, .ref g29, .int (nI (([] : List Int32) ++ [nI ac]).length), .int g31, .int g32])), (g29, .inl (cB, 1400, .inl f_2))] := by rw [← e_4]; exact hD
  refine lv_aload_n hx hb dd_M_layBody_13 rfl (lv_at hl 0 rfl) ?_
  refine lv_aload_n hx hb dd_M_layBody_14 rfl (lv_at hl 0 rfl) ?_
  refine va_get (D := (dC, dI)) (ci := 1) (v := .int (nI sq)) (C := RR_M) (T := TT_M) (N := 33) hx hb hw hh_M hown hK hP 6 rfl rfl 3 (by decide) (hw _ qq_582) (fun _ h9 => h9) rfl dd_M_layBody_15 ?_
  have hPc := hP.sub (ws' := [(h, .inr (1, [.int g0, .int g1, .int (nI ac), .int (nI sq), .int (nI cn), .ref g5, .int (nI mn), .ref g7, .ref g8, .ref g9, .ref g10, .ref g11, .int g12, .int g13, .int g14, .ref g15, .int g16, .ref g17, .ref g18, .ref g19, .ref g20, .ref g21, .ref g22, .int g23, .ref g24, .int g25, .int g26, .int g27, .int g28, .ref g29, .int (nI (([] : List Int32) ++ [nI ac]).length), .int g31, .int g32])), (g29, .inl (cB, 1400, .inl f_2))]) [6, 7] rfl
  have hDc := hD.sub (ws' := [(h, .inr (1, [.int g0, .int g1, .int (nI ac), .int (nI sq), .int (nI cn), .ref g5, .int (nI mn), .ref g7, .ref g8, .ref g9, .ref g10, .ref g11, .int g12, .int g13, .int g14, .ref g15, .int g16, .ref g17, .ref g18, .ref g19, .ref g20, .ref g21, .ref g22, .int g23, .ref g24, .int g25, .int g26, .int g27, .int g28, .ref g29, .int (nI (([] : List Int32) ++ [nI ac]).length), .int g31, .int g32])), (g29, .inl (cB, 1400, .inl f_2))]) [6, 7] (by decide) rfl
  have hFc := va_free (wc := [(h, .inr (1, [.int g0, .int g1, .int (nI ac), .int (nI sq), .int (nI cn), .ref g5, .int (nI mn), .ref g7, .ref g8, .ref g9, .ref g10, .ref g11, .int g12, .int g13, .int g14, .ref g15, .int g16, .ref g17, .ref g18, .ref g19, .ref g20, .ref g21, .ref g22, .int g23, .ref g24, .int g25, .int g26, .int g27, .int g28, .ref g29, .int (nI (([] : List Int32) ++ [nI ac]).length), .int g31, .int g32])), (g29, .inl (cB, 1400, .inl f_2))]) hD hS hA [6, 7] rfl
  refine va_callv (va_runV (As := [.int (nI sq)]) (rest := []) ⟨hx, hb, hml, hown, hw⟩ (cb_M_layU l dC dI cB cI cJ H.size h g0 g1 (nI ac) (nI sq) (nI cn) (nI mn) g12 g13 g14 g16 g23 g25 g26 g27 g28 g31 g32 g5 g7 g8 g9 g10 g11 g15 g17 g18 g19 g20 g21 g22 g24 g29 f_2 (([] : List Int32) ++ [nI ac]) hq_3 sq (by omega) (by have h1 := encUf_le 4 sq; have h2 := encUf_le 4 cn; have h3 := encClk_le ac cv 0; have h4 := encUf_le 4 sq; simp only [List.length_append, List.length_cons, List.length_nil, encLk_len]; omega)) (kw_V 1 hw qq_739 qq_5 qq_742 qq_741 qs_M_layU rfl rfl (by decide +kernel) ⟨Nat.le_of_ble_eq_true rfl, Nat.le_of_ble_eq_true rfl⟩) ⟨fun a U g mk q => by obtain ⟨q0, q1, qP, qK, qD⟩ := q; exact ⟨q0, q1, qP, va_K.moved (u := U) (U := U.calling g mk a) (Vm.Alike.refl U.vm) qK, qD⟩, va_recv hK hPc (ci := 1) (q0 := 0) rfl rfl, fun U hU hW => ⟨rfl, by rw [hU], by rw [hU]; exact hPc, va_K.moved hW.alike hK, hDc.weaken (fun _ _ _ _ => trivial)⟩⟩ rfl rfl hl.1 rfl (lv_room (Nat.le_of_ble_eq_true rfl)) dd_M_layBody_18 ⟨by first | exact Nat.le_of_ble_eq_true rfl | (simp only [headSpec]; omega), by first | exact Nat.le_of_ble_eq_true rfl | (simp only [headSpec]; omega)⟩) hS (fun q _ h => hFc q h) hFc (fun f_5 t H1 locs ht hvm hq_6 hB hz1 hk1 hS => ?_)
  obtain ⟨hP1, hK1, hD1⟩ := hB
  rw [ht] at hP1
  obtain ⟨hP, hD⟩ := va_join (wr := [(g5, .inl (cI, 8, .inl fc)), (g7, .inl (cI, 16, .inl ft)), (g8, .inl (cI, 16, .inl fo)), (g9, .inl (cJ, 16, .inr (.inl fk))), (g10, .inl (cI, 16, .inl fd)), (g11, .inl (cI, 16, .inl fv))]) (w1 := [(h, .inr (1, [.int g0, .int g1, .int (nI ac), .int (nI sq), .int (nI cn), .ref g5, .int (nI mn), .ref g7, .ref g8, .ref g9, .ref g10, .ref g11, .int g12, .int g13, .int g14, .ref g15, .int g16, .ref g17, .ref g18, .ref g19, .ref g20, .ref g21, .ref g22, .int g23, .ref g24, .int g25, .int g26, .int g27, .int g28, .ref g29, .int (nI (([] : List Int32) ++ [nI ac] ++ encUf 4 sq).length), .int g31, .int g32])), (g29, .inl (cB, 1400, .inl f_5))]) hP hD [6, 7] [0, 1, 2, 3, 4, 5] rfl rfl (by decide) (by decide) hk1 hFc hP1 hD1
  clear hP1 hK1 hD1 ht hvm hz1 hk1 hPc hDc hFc
  generalize H1 = H at hP hS ⊢
  have hP : va_P (dC, dI) vcl [(g5, .inl (cI, 8, .inl fc)), (g7, .inl (cI, 16, .inl ft)), (g8, .inl (cI, 16, .inl fo)), (g9, .inl (cJ, 16, .inr (.inl fk))), (g10, .inl (cI, 16, .inl fd)), (g11, .inl (cI, 16, .inl fv)), (h, .inr (1, [.int g0, .int g1, .int (nI ac), .int (nI sq), .int (nI cn), .ref g5, .int (nI mn), .ref g7, .ref g8, .ref g9, .ref g10, .ref g11, .int g12, .int g13, .int g14, .ref g15, .int g16, .ref g17, .ref g18, .ref g19, .ref g20, .ref g21, .ref g22, .int g23, .ref g24, .int g25, .int g26, .int g27, .int g28, .ref g29, .int (nI (([] : List Int32) ++ [nI ac] ++ encUf 4 sq).length), .int g31, .int g32])), (g29, .inl (cB, 1400, .inl f_5))] H := hP
  have hD : va_D A [(g5, .inl (cI, 8, .inl fc)), (g7, .inl (cI, 16, .inl ft)), (g8, .inl (cI, 16, .inl fo)), (g9, .inl (cJ, 16, .inr (.inl fk))), (g10, .inl (cI, 16, .inl fd)), (g11, .inl (cI, 16, .inl fv)), (h, .inr (1, [.int g0, .int g1, .int (nI ac), .int (nI sq), .int (nI cn), .ref g5, .int (nI mn), .ref g7, .ref g8, .ref g9, .ref g10, .ref g11, .int g12, .int g13, .int g14, .ref g15, .int g16, .ref g17, .ref g18, .ref g19, .ref g20, .ref g21, .ref g22, .int g23, .ref g24, .int g25, .int g26, .int g27, .int g28, .ref g29, .int (nI (([] : List Int32) ++ [nI ac] ++ encUf 4 sq).length), .int g31, .int g32])), (g29, .inl (cB, 1400, .inl f_5))] := hD
  refine lv_aload_n hx hb dd_M_layBody_21 rfl (lv_at hl 0 rfl) ?_
  refine lv_aload_n hx hb dd_M_layBody_22 rfl (lv_at hl 0 rfl) ?_
  refine va_get (D := (dC, dI)) (ci := 1) (v := .int (nI cn)) (C := RR_M) (T := TT_M) (N := 33) hx hb hw hh_M hown hK hP 6 rfl rfl 4 (by decide) (hw _ qq_583) (fun _ h9 => h9) rfl dd_M_layBody_23 ?_
  have hPc := hP.sub (ws' := [(h, .inr (1, [.int g0, .int g1, .int (nI ac), .int (nI sq), .int (nI cn), .ref g5, .int (nI mn), .ref g7, .ref g8, .ref g9, .ref g10, .ref g11, .int g12, .int g13, .int g14, .ref g15, .int g16, .ref g17, .ref g18, .ref g19, .ref g20, .ref g21, .ref g22, .int g23, .ref g24, .int g25, .int g26, .int g27, .int g28, .ref g29, .int (nI (([] : List Int32) ++ [nI ac] ++ encUf 4 sq).length), .int g31, .int g32])), (g29, .inl (cB, 1400, .inl f_5))]) [6, 7] rfl
  have hDc := hD.sub (ws' := [(h, .inr (1, [.int g0, .int g1, .int (nI ac), .int (nI sq), .int (nI cn), .ref g5, .int (nI mn), .ref g7, .ref g8, .ref g9, .ref g10, .ref g11, .int g12, .int g13, .int g14, .ref g15, .int g16, .ref g17, .ref g18, .ref g19, .ref g20, .ref g21, .ref g22, .int g23, .ref g24, .int g25, .int g26, .int g27, .int g28, .ref g29, .int (nI (([] : List Int32) ++ [nI ac] ++ encUf 4 sq).length), .int g31, .int g32])), (g29, .inl (cB, 1400, .inl f_5))]) [6, 7] (by decide) rfl
  have hFc := va_free (wc := [(h, .inr (1, [.int g0, .int g1, .int (nI ac), .int (nI sq), .int (nI cn), .ref g5, .int (nI mn), .ref g7, .ref g8, .ref g9, .ref g10, .ref g11, .int g12, .int g13, .int g14, .ref g15, .int g16, .ref g17, .ref g18, .ref g19, .ref g20, .ref g21, .ref g22, .int g23, .ref g24, .int g25, .int g26, .int g27, .int g28, .ref g29, .int (nI (([] : List Int32) ++ [nI ac] ++ encUf 4 sq).length), .int g31, .int g32])), (g29, .inl (cB, 1400, .inl f_5))]) hD hS hA [6, 7] rfl
  refine va_callv (va_runV (As := [.int (nI cn)]) (rest := []) ⟨hx, hb, hml, hown, hw⟩ (cb_M_layU l dC dI cB cI cJ H.size h g0 g1 (nI ac) (nI sq) (nI cn) (nI mn) g12 g13 g14 g16 g23 g25 g26 g27 g28 g31 g32 g5 g7 g8 g9 g10 g11 g15 g17 g18 g19 g20 g21 g22 g24 g29 f_5 (([] : List Int32) ++ [nI ac] ++ encUf 4 sq) hq_6 cn (by omega) (by have h1 := encUf_le 4 sq; have h2 := encUf_le 4 cn; have h3 := encClk_le ac cv 0; have h4 := encUf_le 4 cn; simp only [List.length_append, List.length_cons, List.length_nil, encLk_len]; omega)) (kw_V 1 hw qq_739 qq_5 qq_742 qq_741 qs_M_layU rfl rfl (by decide +kernel) ⟨Nat.le_of_ble_eq_true rfl, Nat.le_of_ble_eq_true rfl⟩) ⟨fun a U g mk q => by obtain ⟨q0, q1, qP, qK, qD⟩ := q; exact ⟨q0, q1, qP, va_K.moved (u := U) (U := U.calling g mk a) (Vm.Alike.refl U.vm) qK, qD⟩, va_recv hK hPc (ci := 1) (q0 := 0) rfl rfl, fun U hU hW => ⟨rfl, by rw [hU], by rw [hU]; exact hPc, va_K.moved hW.alike hK, hDc.weaken (fun _ _ _ _ => trivial)⟩⟩ rfl rfl hl.1 rfl (lv_room (Nat.le_of_ble_eq_true rfl)) dd_M_layBody_26 ⟨by first | exact Nat.le_of_ble_eq_true rfl | (simp only [headSpec]; omega), by first | exact Nat.le_of_ble_eq_true rfl | (simp only [headSpec]; omega)⟩) hS (fun q _ h => hFc q h) hFc (fun f_7 t H1 locs ht hvm hq_8 hB hz1 hk1 hS => ?_)
  obtain ⟨hP1, hK1, hD1⟩ := hB
  rw [ht] at hP1
  obtain ⟨hP, hD⟩ := va_join (wr := [(g5, .inl (cI, 8, .inl fc)), (g7, .inl (cI, 16, .inl ft)), (g8, .inl (cI, 16, .inl fo)), (g9, .inl (cJ, 16, .inr (.inl fk))), (g10, .inl (cI, 16, .inl fd)), (g11, .inl (cI, 16, .inl fv))]) (w1 := [(h, .inr (1, [.int g0, .int g1, .int (nI ac), .int (nI sq), .int (nI cn), .ref g5, .int (nI mn), .ref g7, .ref g8, .ref g9, .ref g10, .ref g11, .int g12, .int g13, .int g14, .ref g15, .int g16, .ref g17, .ref g18, .ref g19, .ref g20, .ref g21, .ref g22, .int g23, .ref g24, .int g25, .int g26, .int g27, .int g28, .ref g29, .int (nI (([] : List Int32) ++ [nI ac] ++ encUf 4 sq ++ encUf 4 cn).length), .int g31, .int g32])), (g29, .inl (cB, 1400, .inl f_7))]) hP hD [6, 7] [0, 1, 2, 3, 4, 5] rfl rfl (by decide) (by decide) hk1 hFc hP1 hD1
  clear hP1 hK1 hD1 ht hvm hz1 hk1 hPc hDc hFc
  generalize H1 = H at hP hS ⊢
  have hP : va_P (dC, dI) vcl [(g5, .inl (cI, 8, .inl fc)), (g7, .inl (cI, 16, .inl ft)), (g8, .inl (cI, 16, .inl fo)), (g9, .inl (cJ, 16, .inr (.inl fk))), (g10, .inl (cI, 16, .inl fd)), (g11, .inl (cI, 16, .inl fv)), (h, .inr (1, [.int g0, .int g1, .int (nI ac), .int (nI sq), .int (nI cn), .ref g5, .int (nI mn), .ref g7, .ref g8, .ref g9, .ref g10, .ref g11, .int g12, .int g13, .int g14, .ref g15, .int g16, .ref g17, .ref g18, .ref g19, .ref g20, .ref g21, .ref g22, .int g23, .ref g24, .int g25, .int g26, .int g27, .int g28, .ref g29, .int (nI (([] : List Int32) ++ [nI ac] ++ encUf 4 sq ++ encUf 4 cn).length), .int g31, .int g32])), (g29, .inl (cB, 1400, .inl f_7))] H := hP
  have hD : va_D A [(g5, .inl (cI, 8, .inl fc)), (g7, .inl (cI, 16, .inl ft)), (g8, .inl (cI, 16, .inl fo)), (g9, .inl (cJ, 16, .inr (.inl fk))), (g10, .inl (cI, 16, .inl fd)), (g11, .inl (cI, 16, .inl fv)), (h, .inr (1, [.int g0, .int g1, .int (nI ac), .int (nI sq), .int (nI cn), .ref g5, .int (nI mn), .ref g7, .ref g8, .ref g9, .ref g10, .ref g11, .int g12, .int g13, .int g14, .ref g15, .int g16, .ref g17, .ref g18, .ref g19, .ref g20, .ref g21, .ref g22, .int g23, .ref g24, .int g25, .int g26, .int g27, .int g28, .ref g29, .int (nI (([] : List Int32) ++ [nI ac] ++ encUf 4 sq ++ encUf 4 cn).length), .int g31, .int g32])), (g29, .inl (cB, 1400, .inl f_7))] := hD
  have hl1 : ([] : List Int32) ++ [nI ac] ++ encUf 4 sq ++ encUf 4 cn = [nI ac] ++ encUf 4 sq ++ encUf 4 cn := rfl
  refine lv_iconst (v := 0) hx hb dd_M_layBody_29 (by decide) ?_
  refine lv_istore_n (lv' := [(1, .int 0), (0, .ref h)]) hx hb dd_M_layBody_30 rfl hl (by decide) rfl (fun ls hl => ?_)
  refine lv_iconst (v := 0) hx hb dd_M_layBody_31 (by decide) ?_
  refine lv_istore_n (lv' := [(2, .int 0), (1, .int 0), (0, .ref h)]) hx hb dd_M_layBody_32 rfl hl (by decide) rfl (fun ls hl => ?_)
  have hP := hP.sub (ws' := [(h, .inr (1, [.int g0, .int g1, .int (nI ac), .int (nI sq), .int (nI cn), .ref g5, .int (nI mn), .ref g7, .ref g8, .ref g9, .ref g10, .ref g11, .int g12, .int g13, .int g14, .ref g15, .int g16, .ref g17, .ref g18, .ref g19, .ref g20, .ref g21, .ref g22, .int g23, .ref g24, .int g25, .int g26, .int g27, .int g28, .ref g29, .int (nI (([] : List Int32) ++ [nI ac] ++ encUf 4 sq ++ encUf 4 cn).length), .int g31, .int g32])), (g29, .inl (cB, 1400, .inl f_7)), (g5, .inl (cI, 8, .inl fc)), (g7, .inl (cI, 16, .inl ft)), (g8, .inl (cI, 16, .inl fo)), (g9, .inl (cJ, 16, .inr (.inl fk))), (g10, .inl (cI, 16, .inl fd)), (g11, .inl (cI, 16, .inl fv))]) [6, 7, 0, 1, 2, 3, 4, 5] rfl
  have hD := hD.sub (ws' := [(h, .inr (1, [.int g0, .int g1, .int (nI ac), .int (nI sq), .int (nI cn), .ref g5, .int (nI mn), .ref g7, .ref g8, .ref g9, .ref g10, .ref g11, .int g12, .int g13, .int g14, .ref g15, .int g16, .ref g17, .ref g18, .ref g19, .ref g20, .ref g21, .ref g22, .int g23, .ref g24, .int g25, .int g26, .int g27, .int g28, .ref g29, .int (nI (([] : List Int32) ++ [nI ac] ++ encUf 4 sq ++ encUf 4 cn).length), .int g31, .int g32])), (g29, .inl (cB, 1400, .inl f_7)), (g5, .inl (cI, 8, .inl fc)), (g7, .inl (cI, 16, .inl ft)), (g8, .inl (cI, 16, .inl fo)), (g9, .inl (cJ, 16, .inr (.inl fk))), (g10, .inl (cI, 16, .inl fd)), (g11, .inl (cI, 16, .inl fv))]) [6, 7, 0, 1, 2, 3, 4, 5] (by decide) rfl
  have lp_9 : ∀ (k : Nat) (a : Nat), (a + k = 8) → ∀ (H : Heap) (locs : List Loc), va_P (dC, dI) vcl [(h, .inr (1, [.int g0, .int g1, .int (nI ac), .int (nI sq), .int (nI cn), .ref g5, .int (nI mn), .ref g7, .ref g8, .ref g9, .ref g10, .ref g11, .int g12, .int g13, .int g14, .ref g15, .int g16, .ref g17, .ref g18, .ref g19, .ref g20, .ref g21, .ref g22, .int g23, .ref g24, .int g25, .int g26, .int g27, .int g28, .ref g29, .int (nI (([] : List Int32) ++ [nI ac] ++ encUf 4 sq ++ encUf 4 cn).length), .int g31, .int g32])), (g29, .inl (cB, 1400, .inl f_7)), (g5, .inl (cI, 8, .inl fc)), (g7, .inl (cI, 16, .inl ft)), (g8, .inl (cI, 16, .inl fo)), (g9, .inl (cJ, 16, .inr (.inl fk))), (g10, .inl (cI, 16, .inl fd)), (g11, .inl (cI, 16, .inl fv))] H → va_D A [(h, .inr (1, [.int g0, .int g1, .int (nI ac), .int (nI sq), .int (nI cn), .ref g5, .int (nI mn), .ref g7, .ref g8, .ref g9, .ref g10, .ref g11, .int g12, .int g13, .int g14, .ref g15, .int g16, .ref g17, .ref g18, .ref g19, .ref g20, .ref g21, .ref g22, .int g23, .ref g24, .int g25, .int g26, .int g27, .int g28, .ref g29, .int (nI (([] : List Int32) ++ [nI ac] ++ encUf 4 sq ++ encUf 4 cn).length), .int g31, .int g32])), (g29, .inl (cB, 1400, .inl f_7)), (g5, .inl (cI, 8, .inl fc)), (g7, .inl (cI, 16, .inl ft)), (g8, .inl (cI, 16, .inl fo)), (g9, .inl (cJ, 16, .inr (.inl fk))), (g10, .inl (cI, 16, .inl fd)), (g11, .inl (cI, 16, .inl fv))] → va_S A s.heap H locs → ∀ ls : Array Slot, lv_has ls 3 [(0, .ref h), (1, .int (nI (bitsN ac cv a))), (2, .int (nI a))] → W p l e (headSpec (Cond.code yy_M_layBody cc_M_layBody 3 none :: gw) { frames := 4, cells := 0, slots := 0, locals := 87 }).room s m ([.ref h] : List Value).toArray below meth c H locs 0 0 (MQ below (va_Qv (fun (u : Nat → Int32) => Hd (encBody ac sq cn mn cv ft fd fo fk fv) u) (fun (u : Nat → Int32) => ks_post dC dI [(cB, .byte), (cI, .int), (cJ, .long)] A [(h, .inr (1, [.int g0, .int g1, .int (nI ac), .int (nI sq), .int (nI cn), .ref g5, .int (nI mn), .ref g7, .ref g8, .ref g9, .ref g10, .ref g11, .int g12, .int g13, .int g14, .ref g15, .int g16, .ref g17, .ref g18, .ref g19, .ref g20, .ref g21, .ref g22, .int g23, .ref g24, .int g25, .int g26, .int g27, .int g28, .ref g29, .int (nI (encBody ac sq cn mn cv ft fd fo fk fv).length), .int g31, .int g32])), (g29, .inl (cB, 1400, .inl u)), (g5, .inl (cI, 8, .inl fc)), (g7, .inl (cI, 16, .inl ft)), (g8, .inl (cI, 16, .inl fo)), (g9, .inl (cJ, 16, .inr (.inl fk))), (g10, .inl (cI, 16, .inl fd)), (g11, .inl (cI, 16, .inl fv))]) A) ([.ref h] : List Value).toArray s 0 0 A) (F0 m 33 ls []) := by
    intro k
    induction k with
    | zero =>
      intro a hak H locs hP hD hS ls hl
      refine lv_iload_n hx hb dd_M_layBody_33 rfl (lv_at hl 2 rfl) ?_
      refine lv_bipush (v := 8) hx hb dd_M_layBody_34 (by decide) ?_
      refine lv_icmp_ge (tgt := 72) hx hb dd_M_layBody_36 (by decide) (fun c_10 => ?_) (fun c_10 => ?_)
      · obtain rfl : a = 8 := by omega
        refine lv_aload_n hx hb dd_M_layBody_72 rfl (lv_at hl 0 rfl) ?_
        refine lv_iload_n hx hb dd_M_layBody_73 rfl (lv_at hl 1 rfl) ?_
        have hPc := hP.sub (ws' := [(h, .inr (1, [.int g0, .int g1, .int (nI ac), .int (nI sq), .int (nI cn), .ref g5, .int (nI mn), .ref g7, .ref g8, .ref g9, .ref g10, .ref g11, .int g12, .int g13, .int g14, .ref g15, .int g16, .ref g17, .ref g18, .ref g19, .ref g20, .ref g21, .ref g22, .int g23, .ref g24, .int g25, .int g26, .int g27, .int g28, .ref g29, .int (nI (([] : List Int32) ++ [nI ac] ++ encUf 4 sq ++ encUf 4 cn).length), .int g31, .int g32])), (g29, .inl (cB, 1400, .inl f_7))]) [0, 1] rfl
        have hDc := hD.sub (ws' := [(h, .inr (1, [.int g0, .int g1, .int (nI ac), .int (nI sq), .int (nI cn), .ref g5, .int (nI mn), .ref g7, .ref g8, .ref g9, .ref g10, .ref g11, .int g12, .int g13, .int g14, .ref g15, .int g16, .ref g17, .ref g18, .ref g19, .ref g20, .ref g21, .ref g22, .int g23, .ref g24, .int g25, .int g26, .int g27, .int g28, .ref g29, .int (nI (([] : List Int32) ++ [nI ac] ++ encUf 4 sq ++ encUf 4 cn).length), .int g31, .int g32])), (g29, .inl (cB, 1400, .inl f_7))]) [0, 1] (by decide) rfl
        have hFc := va_free (wc := [(h, .inr (1, [.int g0, .int g1, .int (nI ac), .int (nI sq), .int (nI cn), .ref g5, .int (nI mn), .ref g7, .ref g8, .ref g9, .ref g10, .ref g11, .int g12, .int g13, .int g14, .ref g15, .int g16, .ref g17, .ref g18, .ref g19, .ref g20, .ref g21, .ref g22, .int g23, .ref g24, .int g25, .int g26, .int g27, .int g28, .ref g29, .int (nI (([] : List Int32) ++ [nI ac] ++ encUf 4 sq ++ encUf 4 cn).length), .int g31, .int g32])), (g29, .inl (cB, 1400, .inl f_7))]) hD hS hA [0, 1] rfl
        refine va_callv (va_runV (As := [.int (nI (bitsN ac cv 8))]) (rest := []) ⟨hx, hb, hml, hown, hw⟩ (cb_M_lay l dC dI cB cI cJ H.size h g0 g1 (nI ac) (nI sq) (nI cn) (nI mn) g12 g13 g14 g16 g23 g25 g26 g27 g28 g31 g32 g5 g7 g8 g9 g10 g11 g15 g17 g18 g19 g20 g21 g22 g24 g29 f_7 ([nI ac] ++ encUf 4 sq ++ encUf 4 cn) hq_8 (nI (bitsN ac cv 8)) (by have h1 := encUf_le 4 sq; have h2 := encUf_le 4 cn; simp only [List.length_append, List.length_cons, List.length_nil, encLk_len]; omega)) (kw_V 1 hw qq_735 qq_5 qq_738 qq_737 qs_M_lay rfl rfl (by decide +kernel) ⟨Nat.le_of_ble_eq_true rfl, Nat.le_of_ble_eq_true rfl⟩) ⟨fun a U g mk q => by obtain ⟨q0, q1, qP, qK, qD⟩ := q; exact ⟨q0, q1, qP, va_K.moved (u := U) (U := U.calling g mk a) (Vm.Alike.refl U.vm) qK, qD⟩, va_recv hK hPc (ci := 1) (q0 := 0) rfl rfl, fun U hU hW => ⟨rfl, by rw [hU], by rw [hU]; exact hPc, va_K.moved hW.alike hK, hDc.weaken (fun _ _ _ _ => trivial)⟩⟩ rfl rfl hl.1 rfl (lv_room (Nat.le_of_ble_eq_true rfl)) dd_M_layBody_74 ⟨by first | exact Nat.le_of_ble_eq_true rfl | (simp only [headSpec]; omega), by first | exact Nat.le_of_ble_eq_true rfl | (simp only [headSpec]; omega)⟩) hS (fun q _ h => hFc q h) hFc (fun f_11 t H1 locs ht hvm hq_12 hB hz1 hk1 hS => ?_)
        obtain ⟨hP1, hK1, hD1⟩ := hB
        rw [ht] at hP1
        obtain ⟨hP, hD⟩ := va_join (wr := [(g5, .inl (cI, 8, .inl fc)), (g7, .inl (cI, 16, .inl ft)), (g8, .inl (cI, 16, .inl fo)), (g9, .inl (cJ, 16, .inr (.inl fk))), (g10, .inl (cI, 16, .inl fd)), (g11, .inl (cI, 16, .inl fv))]) (w1 := [(h, .inr (1, [.int g0, .int g1, .int (nI ac), .int (nI sq), .int (nI cn), .ref g5, .int (nI mn), .ref g7, .ref g8, .ref g9, .ref g10, .ref g11, .int g12, .int g13, .int g14, .ref g15, .int g16, .ref g17, .ref g18, .ref g19, .ref g20, .ref g21, .ref g22, .int g23, .ref g24, .int g25, .int g26, .int g27, .int g28, .ref g29, .int (nI (([nI ac] ++ encUf 4 sq ++ encUf 4 cn).length + 1)), .int g31, .int g32])), (g29, .inl (cB, 1400, .inl f_11))]) hP hD [0, 1] [2, 3, 4, 5, 6, 7] rfl rfl (by decide) (by decide) hk1 hFc hP1 hD1
        clear hP1 hK1 hD1 ht hvm hz1 hk1 hPc hDc hFc
        generalize H1 = H at hP hS ⊢
        have hP : va_P (dC, dI) vcl [(g5, .inl (cI, 8, .inl fc)), (g7, .inl (cI, 16, .inl ft)), (g8, .inl (cI, 16, .inl fo)), (g9, .inl (cJ, 16, .inr (.inl fk))), (g10, .inl (cI, 16, .inl fd)), (g11, .inl (cI, 16, .inl fv)), (h, .inr (1, [.int g0, .int g1, .int (nI ac), .int (nI sq), .int (nI cn), .ref g5, .int (nI mn), .ref g7, .ref g8, .ref g9, .ref g10, .ref g11, .int g12, .int g13, .int g14, .ref g15, .int g16, .ref g17, .ref g18, .ref g19, .ref g20, .ref g21, .ref g22, .int g23, .ref g24, .int g25, .int g26, .int g27, .int g28, .ref g29, .int (nI (([nI ac] ++ encUf 4 sq ++ encUf 4 cn).length + 1)), .int g31, .int g32])), (g29, .inl (cB, 1400, .inl f_11))] H := hP
        have hD : va_D A [(g5, .inl (cI, 8, .inl fc)), (g7, .inl (cI, 16, .inl ft)), (g8, .inl (cI, 16, .inl fo)), (g9, .inl (cJ, 16, .inr (.inl fk))), (g10, .inl (cI, 16, .inl fd)), (g11, .inl (cI, 16, .inl fv)), (h, .inr (1, [.int g0, .int g1, .int (nI ac), .int (nI sq), .int (nI cn), .ref g5, .int (nI mn), .ref g7, .ref g8, .ref g9, .ref g10, .ref g11, .int g12, .int g13, .int g14, .ref g15, .int g16, .ref g17, .ref g18, .ref g19, .ref g20, .ref g21, .ref g22, .int g23, .ref g24, .int g25, .int g26, .int g27, .int g28, .ref g29, .int (nI (([nI ac] ++ encUf 4 sq ++ encUf 4 cn).length + 1)), .int g31, .int g32])), (g29, .inl (cB, 1400, .inl f_11))] := hD
        have hq_12 : Hd ([nI ac] ++ encUf 4 sq ++ encUf 4 cn ++ [nI (bitsN ac cv 8)]) f_11 := by rw [nI_255 (Nat.lt_of_lt_of_le (bitsN_lt ac cv 8) (by decide))] at hq_12; exact hq_12
        have e_13 : (nI (([nI ac] ++ encUf 4 sq ++ encUf 4 cn).length + 1) : Int32) = nI ([nI ac] ++ encUf 4 sq ++ encUf 4 cn ++ [nI (bitsN ac cv 8)]).length := (by simp only [List.length_append, List.length_cons, List.length_nil])
        have hP : va_P (dC, dI) vcl [(g5, .inl (cI, 8, .inl fc)), (g7, .inl (cI, 16, .inl ft)), (g8, .inl (cI, 16, .inl fo)), (g9, .inl (cJ, 16, .inr (.inl fk))), (g10, .inl (cI, 16, .inl fd)), (g11, .inl (cI, 16, .inl fv)), (h, .inr (1, [.int g0, .int g1, .int (nI ac), .int (nI sq), .int (nI cn), .ref g5, .int (nI mn), .ref g7, .ref g8, .ref g9, .ref g10, .ref g11, .int g12, .int g13, .int g14, .ref g15, .int g16, .ref g17, .ref g18, .ref g19, .ref g20, .ref g21, .ref g22, .int g23, .ref g24, .int g25, .int g26, .int g27, .int g28, .ref g29, .int (nI ([nI ac] ++ encUf 4 sq ++ encUf 4 cn ++ [nI (bitsN ac cv 8)]).length), .int g31, .int g32])), (g29, .inl (cB, 1400, .inl f_11))] H := by rw [← e_13]; exact hP
        have hD : va_D A [(g5, .inl (cI, 8, .inl fc)), (g7, .inl (cI, 16, .inl ft)), (g8, .inl (cI, 16, .inl fo)), (g9, .inl (cJ, 16, .inr (.inl fk))), (g10, .inl (cI, 16, .inl fd)), (g11, .inl (cI, 16, .inl fv)), (h, .inr (1, [.int g0, .int g1, .int (nI ac), .int (nI sq), .int (nI cn), .ref g5, .int (nI mn), .ref g7, .ref g8, .ref g9, .ref g10, .ref g11, .int g12, .int g13, .int g14, .ref g15, .int g16, .ref g17, .ref g18, .ref g19, .ref g20, .ref g21, .ref g22, .int g23, .ref g24, .int g25, .int g26, .int g27, .int g28, .ref g29, .int (nI ([nI ac] ++ encUf 4 sq ++ encUf 4 cn ++ [nI (bitsN ac cv 8)]).length), .int g31, .int g32])), (g29, .inl (cB, 1400, .inl f_11))] := by rw [← e_13]; exact hD
        refine lv_iconst (v := 0) hx hb dd_M_layBody_77 (by decide) ?_
        refine lv_istore_n (lv' := [(2, .int 0), (0, .ref h), (1, .int (nI (bitsN ac cv 8)))]) hx hb dd_M_layBody_78 rfl hl (by decide) rfl (fun ls hl => ?_)
        have hP := hP.sub (ws' := [(h, .inr (1, [.int g0, .int g1, .int (nI ac), .int (nI sq), .int (nI cn), .ref g5, .int (nI mn), .ref g7, .ref g8, .ref g9, .ref g10, .ref g11, .int g12, .int g13, .int g14, .ref g15, .int g16, .ref g17, .ref g18, .ref g19, .ref g20, .ref g21, .ref g22, .int g23, .ref g24, .int g25, .int g26, .int g27, .int g28, .ref g29, .int (nI ([nI ac] ++ encUf 4 sq ++ encUf 4 cn ++ [nI (bitsN ac cv 8)]).length), .int g31, .int g32])), (g29, .inl (cB, 1400, .inl f_11)), (g5, .inl (cI, 8, .inl fc)), (g7, .inl (cI, 16, .inl ft)), (g8, .inl (cI, 16, .inl fo)), (g9, .inl (cJ, 16, .inr (.inl fk))), (g10, .inl (cI, 16, .inl fd)), (g11, .inl (cI, 16, .inl fv))]) [6, 7, 0, 1, 2, 3, 4, 5] rfl
        have hD := hD.sub (ws' := [(h, .inr (1, [.int g0, .int g1, .int (nI ac), .int (nI sq), .int (nI cn), .ref g5, .int (nI mn), .ref g7, .ref g8, .ref g9, .ref g10, .ref g11, .int g12, .int g13, .int g14, .ref g15, .int g16, .ref g17, .ref g18, .ref g19, .ref g20, .ref g21, .ref g22, .int g23, .ref g24, .int g25, .int g26, .int g27, .int g28, .ref g29, .int (nI ([nI ac] ++ encUf 4 sq ++ encUf 4 cn ++ [nI (bitsN ac cv 8)]).length), .int g31, .int g32])), (g29, .inl (cB, 1400, .inl f_11)), (g5, .inl (cI, 8, .inl fc)), (g7, .inl (cI, 16, .inl ft)), (g8, .inl (cI, 16, .inl fo)), (g9, .inl (cJ, 16, .inr (.inl fk))), (g10, .inl (cI, 16, .inl fd)), (g11, .inl (cI, 16, .inl fv))]) [6, 7, 0, 1, 2, 3, 4, 5] (by decide) rfl
        have e_14 : (nI ([nI ac] ++ encUf 4 sq ++ encUf 4 cn ++ [nI (bitsN ac cv 8)]).length : Int32) = nI ([nI ac] ++ encUf 4 sq ++ encUf 4 cn ++ [nI (bitsN ac cv 8)] ++ encClk ac cv 0).length := (by rw [encClk, List.append_nil])
        have hP : va_P (dC, dI) vcl [(h, .inr (1, [.int g0, .int g1, .int (nI ac), .int (nI sq), .int (nI cn), .ref g5, .int (nI mn), .ref g7, .ref g8, .ref g9, .ref g10, .ref g11, .int g12, .int g13, .int g14, .ref g15, .int g16, .ref g17, .ref g18, .ref g19, .ref g20, .ref g21, .ref g22, .int g23, .ref g24, .int g25, .int g26, .int g27, .int g28, .ref g29, .int (nI ([nI ac] ++ encUf 4 sq ++ encUf 4 cn ++ [nI (bitsN ac cv 8)] ++ encClk ac cv 0).length), .int g31, .int g32])), (g29, .inl (cB, 1400, .inl f_11)), (g5, .inl (cI, 8, .inl fc)), (g7, .inl (cI, 16, .inl ft)), (g8, .inl (cI, 16, .inl fo)), (g9, .inl (cJ, 16, .inr (.inl fk))), (g10, .inl (cI, 16, .inl fd)), (g11, .inl (cI, 16, .inl fv))] H := by rw [← e_14]; exact hP
        have hD : va_D A [(h, .inr (1, [.int g0, .int g1, .int (nI ac), .int (nI sq), .int (nI cn), .ref g5, .int (nI mn), .ref g7, .ref g8, .ref g9, .ref g10, .ref g11, .int g12, .int g13, .int g14, .ref g15, .int g16, .ref g17, .ref g18, .ref g19, .ref g20, .ref g21, .ref g22, .int g23, .ref g24, .int g25, .int g26, .int g27, .int g28, .ref g29, .int (nI ([nI ac] ++ encUf 4 sq ++ encUf 4 cn ++ [nI (bitsN ac cv 8)] ++ encClk ac cv 0).length), .int g31, .int g32])), (g29, .inl (cB, 1400, .inl f_11)), (g5, .inl (cI, 8, .inl fc)), (g7, .inl (cI, 16, .inl ft)), (g8, .inl (cI, 16, .inl fo)), (g9, .inl (cJ, 16, .inr (.inl fk))), (g10, .inl (cI, 16, .inl fd)), (g11, .inl (cI, 16, .inl fv))] := by rw [← e_14]; exact hD
        have lp_15 : ∀ (k : Nat) (a : Nat) (f : Nat → Int32), (a + k = 8) → (Hd ([nI ac] ++ encUf 4 sq ++ encUf 4 cn ++ [nI (bitsN ac cv 8)] ++ encClk ac cv a) f) → ∀ (H : Heap) (locs : List Loc), va_P (dC, dI) vcl [(h, .inr (1, [.int g0, .int g1, .int (nI ac), .int (nI sq), .int (nI cn), .ref g5, .int (nI mn), .ref g7, .ref g8, .ref g9, .ref g10, .ref g11, .int g12, .int g13, .int g14, .ref g15, .int g16, .ref g17, .ref g18, .ref g19, .ref g20, .ref g21, .ref g22, .int g23, .ref g24, .int g25, .int g26, .int g27, .int g28, .ref g29, .int (nI ([nI ac] ++ encUf 4 sq ++ encUf 4 cn ++ [nI (bitsN ac cv 8)] ++ encClk ac cv a).length), .int g31, .int g32])), (g29, .inl (cB, 1400, .inl f)), (g5, .inl (cI, 8, .inl fc)), (g7, .inl (cI, 16, .inl ft)), (g8, .inl (cI, 16, .inl fo)), (g9, .inl (cJ, 16, .inr (.inl fk))), (g10, .inl (cI, 16, .inl fd)), (g11, .inl (cI, 16, .inl fv))] H → va_D A [(h, .inr (1, [.int g0, .int g1, .int (nI ac), .int (nI sq), .int (nI cn), .ref g5, .int (nI mn), .ref g7, .ref g8, .ref g9, .ref g10, .ref g11, .int g12, .int g13, .int g14, .ref g15, .int g16, .ref g17, .ref g18, .ref g19, .ref g20, .ref g21, .ref g22, .int g23, .ref g24, .int g25, .int g26, .int g27, .int g28, .ref g29, .int (nI ([nI ac] ++ encUf 4 sq ++ encUf 4 cn ++ [nI (bitsN ac cv 8)] ++ encClk ac cv a).length), .int g31, .int g32])), (g29, .inl (cB, 1400, .inl f)), (g5, .inl (cI, 8, .inl fc)), (g7, .inl (cI, 16, .inl ft)), (g8, .inl (cI, 16, .inl fo)), (g9, .inl (cJ, 16, .inr (.inl fk))), (g10, .inl (cI, 16, .inl fd)), (g11, .inl (cI, 16, .inl fv))] → va_S A s.heap H locs → ∀ ls : Array Slot, lv_has ls 3 [(0, .ref h), (1, .int (nI (bitsN ac cv 8))), (2, .int (nI a))] → W p l e (headSpec (Cond.code yy_M_layBody cc_M_layBody 3 none :: gw) { frames := 4, cells := 0, slots := 0, locals := 87 }).room s m ([.ref h] : List Value).toArray below meth c H locs 0 0 (MQ below (va_Qv (fun (u : Nat → Int32) => Hd (encBody ac sq cn mn cv ft fd fo fk fv) u) (fun (u : Nat → Int32) => ks_post dC dI [(cB, .byte), (cI, .int), (cJ, .long)] A [(h, .inr (1, [.int g0, .int g1, .int (nI ac), .int (nI sq), .int (nI cn), .ref g5, .int (nI mn), .ref g7, .ref g8, .ref g9, .ref g10, .ref g11, .int g12, .int g13, .int g14, .ref g15, .int g16, .ref g17, .ref g18, .ref g19, .ref g20, .ref g21, .ref g22, .int g23, .ref g24, .int g25, .int g26, .int g27, .int g28, .ref g29, .int (nI (encBody ac sq cn mn cv ft fd fo fk fv).length), .int g31, .int g32])), (g29, .inl (cB, 1400, .inl u)), (g5, .inl (cI, 8, .inl fc)), (g7, .inl (cI, 16, .inl ft)), (g8, .inl (cI, 16, .inl fo)), (g9, .inl (cJ, 16, .inr (.inl fk))), (g10, .inl (cI, 16, .inl fd)), (g11, .inl (cI, 16, .inl fv))]) A) ([.ref h] : List Value).toArray s 0 0 A) (F0 m 79 ls []) := by
          intro k
          induction k with
          | zero =>
            intro a f hak hH H locs hP hD hS ls hl
            refine lv_iload_n hx hb dd_M_layBody_79 rfl (lv_at hl 2 rfl) ?_
            refine lv_bipush (v := 8) hx hb dd_M_layBody_80 (by decide) ?_
            refine lv_icmp_ge (tgt := 110) hx hb dd_M_layBody_82 (by decide) (fun c_16 => ?_) (fun c_16 => ?_)
            · obtain rfl : a = 8 := by omega
              refine lv_aload_n hx hb dd_M_layBody_110 rfl (lv_at hl 0 rfl) ?_
              refine lv_aload_n hx hb dd_M_layBody_111 rfl (lv_at hl 0 rfl) ?_
              refine va_get (D := (dC, dI)) (ci := 1) (v := .int (nI mn)) (C := RR_M) (T := TT_M) (N := 33) hx hb hw hh_M hown hK hP 0 rfl rfl 6 (by decide) (hw _ qq_585) (fun _ h9 => h9) rfl dd_M_layBody_112 ?_
              have hPc := hP.sub (ws' := [(h, .inr (1, [.int g0, .int g1, .int (nI ac), .int (nI sq), .int (nI cn), .ref g5, .int (nI mn), .ref g7, .ref g8, .ref g9, .ref g10, .ref g11, .int g12, .int g13, .int g14, .ref g15, .int g16, .ref g17, .ref g18, .ref g19, .ref g20, .ref g21, .ref g22, .int g23, .ref g24, .int g25, .int g26, .int g27, .int g28, .ref g29, .int (nI ([nI ac] ++ encUf 4 sq ++ encUf 4 cn ++ [nI (bitsN ac cv 8)] ++ encClk ac cv 8).length), .int g31, .int g32])), (g29, .inl (cB, 1400, .inl f))]) [0, 1] rfl
              have hDc := hD.sub (ws' := [(h, .inr (1, [.int g0, .int g1, .int (nI ac), .int (nI sq), .int (nI cn), .ref g5, .int (nI mn), .ref g7, .ref g8, .ref g9, .ref g10, .ref g11, .int g12, .int g13, .int g14, .ref g15, .int g16, .ref g17, .ref g18, .ref g19, .ref g20, .ref g21, .ref g22, .int g23, .ref g24, .int g25, .int g26, .int g27, .int g28, .ref g29, .int (nI ([nI ac] ++ encUf 4 sq ++ encUf 4 cn ++ [nI (bitsN ac cv 8)] ++ encClk ac cv 8).length), .int g31, .int g32])), (g29, .inl (cB, 1400, .inl f))]) [0, 1] (by decide) rfl
              have hFc := va_free (wc := [(h, .inr (1, [.int g0, .int g1, .int (nI ac), .int (nI sq), .int (nI cn), .ref g5, .int (nI mn), .ref g7, .ref g8, .ref g9, .ref g10, .ref g11, .int g12, .int g13, .int g14, .ref g15, .int g16, .ref g17, .ref g18, .ref g19, .ref g20, .ref g21, .ref g22, .int g23, .ref g24, .int g25, .int g26, .int g27, .int g28, .ref g29, .int (nI ([nI ac] ++ encUf 4 sq ++ encUf 4 cn ++ [nI (bitsN ac cv 8)] ++ encClk ac cv 8).length), .int g31, .int g32])), (g29, .inl (cB, 1400, .inl f))]) hD hS hA [0, 1] rfl
              refine va_callv (va_runV (As := [.int (nI mn)]) (rest := []) ⟨hx, hb, hml, hown, hw⟩ (cb_M_layU l dC dI cB cI cJ H.size h g0 g1 (nI ac) (nI sq) (nI cn) (nI mn) g12 g13 g14 g16 g23 g25 g26 g27 g28 g31 g32 g5 g7 g8 g9 g10 g11 g15 g17 g18 g19 g20 g21 g22 g24 g29 f ([nI ac] ++ encUf 4 sq ++ encUf 4 cn ++ [nI (bitsN ac cv 8)] ++ encClk ac cv 8) hH mn (by omega) (by have h1 := encUf_le 4 sq; have h2 := encUf_le 4 cn; have h3 := encClk_le ac cv 8; have h4 := encUf_le 4 mn; simp only [List.length_append, List.length_cons, List.length_nil, encLk_len]; omega)) (kw_V 1 hw qq_739 qq_5 qq_742 qq_741 qs_M_layU rfl rfl (by decide +kernel) ⟨Nat.le_of_ble_eq_true rfl, Nat.le_of_ble_eq_true rfl⟩) ⟨fun a U g mk q => by obtain ⟨q0, q1, qP, qK, qD⟩ := q; exact ⟨q0, q1, qP, va_K.moved (u := U) (U := U.calling g mk a) (Vm.Alike.refl U.vm) qK, qD⟩, va_recv hK hPc (ci := 1) (q0 := 0) rfl rfl, fun U hU hW => ⟨rfl, by rw [hU], by rw [hU]; exact hPc, va_K.moved hW.alike hK, hDc.weaken (fun _ _ _ _ => trivial)⟩⟩ rfl rfl hl.1 rfl (lv_room (Nat.le_of_ble_eq_true rfl)) dd_M_layBody_115 ⟨by first | exact Nat.le_of_ble_eq_true rfl | (simp only [headSpec]; omega), by first | exact Nat.le_of_ble_eq_true rfl | (simp only [headSpec]; omega)⟩) hS (fun q _ h => hFc q h) hFc (fun f_17 t H1 locs ht hvm hq_18 hB hz1 hk1 hS => ?_)
              obtain ⟨hP1, hK1, hD1⟩ := hB
              rw [ht] at hP1
              obtain ⟨hP, hD⟩ := va_join (wr := [(g5, .inl (cI, 8, .inl fc)), (g7, .inl (cI, 16, .inl ft)), (g8, .inl (cI, 16, .inl fo)), (g9, .inl (cJ, 16, .inr (.inl fk))), (g10, .inl (cI, 16, .inl fd)), (g11, .inl (cI, 16, .inl fv))]) (w1 := [(h, .inr (1, [.int g0, .int g1, .int (nI ac), .int (nI sq), .int (nI cn), .ref g5, .int (nI mn), .ref g7, .ref g8, .ref g9, .ref g10, .ref g11, .int g12, .int g13, .int g14, .ref g15, .int g16, .ref g17, .ref g18, .ref g19, .ref g20, .ref g21, .ref g22, .int g23, .ref g24, .int g25, .int g26, .int g27, .int g28, .ref g29, .int (nI ([nI ac] ++ encUf 4 sq ++ encUf 4 cn ++ [nI (bitsN ac cv 8)] ++ encClk ac cv 8 ++ encUf 4 mn).length), .int g31, .int g32])), (g29, .inl (cB, 1400, .inl f_17))]) hP hD [0, 1] [2, 3, 4, 5, 6, 7] rfl rfl (by decide) (by decide) hk1 hFc hP1 hD1
              clear hP1 hK1 hD1 ht hvm hz1 hk1 hPc hDc hFc
              generalize H1 = H at hP hS ⊢
              have hP : va_P (dC, dI) vcl [(g5, .inl (cI, 8, .inl fc)), (g7, .inl (cI, 16, .inl ft)), (g8, .inl (cI, 16, .inl fo)), (g9, .inl (cJ, 16, .inr (.inl fk))), (g10, .inl (cI, 16, .inl fd)), (g11, .inl (cI, 16, .inl fv)), (h, .inr (1, [.int g0, .int g1, .int (nI ac), .int (nI sq), .int (nI cn), .ref g5, .int (nI mn), .ref g7, .ref g8, .ref g9, .ref g10, .ref g11, .int g12, .int g13, .int g14, .ref g15, .int g16, .ref g17, .ref g18, .ref g19, .ref g20, .ref g21, .ref g22, .int g23, .ref g24, .int g25, .int g26, .int g27, .int g28, .ref g29, .int (nI ([nI ac] ++ encUf 4 sq ++ encUf 4 cn ++ [nI (bitsN ac cv 8)] ++ encClk ac cv 8 ++ encUf 4 mn).length), .int g31, .int g32])), (g29, .inl (cB, 1400, .inl f_17))] H := hP
              have hD : va_D A [(g5, .inl (cI, 8, .inl fc)), (g7, .inl (cI, 16, .inl ft)), (g8, .inl (cI, 16, .inl fo)), (g9, .inl (cJ, 16, .inr (.inl fk))), (g10, .inl (cI, 16, .inl fd)), (g11, .inl (cI, 16, .inl fv)), (h, .inr (1, [.int g0, .int g1, .int (nI ac), .int (nI sq), .int (nI cn), .ref g5, .int (nI mn), .ref g7, .ref g8, .ref g9, .ref g10, .ref g11, .int g12, .int g13, .int g14, .ref g15, .int g16, .ref g17, .ref g18, .ref g19, .ref g20, .ref g21, .ref g22, .int g23, .ref g24, .int g25, .int g26, .int g27, .int g28, .ref g29, .int (nI ([nI ac] ++ encUf 4 sq ++ encUf 4 cn ++ [nI (bitsN ac cv 8)] ++ encClk ac cv 8 ++ encUf 4 mn).length), .int g31, .int g32])), (g29, .inl (cB, 1400, .inl f_17))] := hD
              refine lv_iconst (v := 0) hx hb dd_M_layBody_118 (by decide) ?_
              refine lv_istore_n (lv' := [(2, .int 0), (0, .ref h), (1, .int (nI (bitsN ac cv 8)))]) hx hb dd_M_layBody_119 rfl hl (by decide) rfl (fun ls hl => ?_)
              have hP := hP.sub (ws' := [(h, .inr (1, [.int g0, .int g1, .int (nI ac), .int (nI sq), .int (nI cn), .ref g5, .int (nI mn), .ref g7, .ref g8, .ref g9, .ref g10, .ref g11, .int g12, .int g13, .int g14, .ref g15, .int g16, .ref g17, .ref g18, .ref g19, .ref g20, .ref g21, .ref g22, .int g23, .ref g24, .int g25, .int g26, .int g27, .int g28, .ref g29, .int (nI ([nI ac] ++ encUf 4 sq ++ encUf 4 cn ++ [nI (bitsN ac cv 8)] ++ encClk ac cv 8 ++ encUf 4 mn).length), .int g31, .int g32])), (g29, .inl (cB, 1400, .inl f_17)), (g5, .inl (cI, 8, .inl fc)), (g7, .inl (cI, 16, .inl ft)), (g8, .inl (cI, 16, .inl fo)), (g9, .inl (cJ, 16, .inr (.inl fk))), (g10, .inl (cI, 16, .inl fd)), (g11, .inl (cI, 16, .inl fv))]) [6, 7, 0, 1, 2, 3, 4, 5] rfl
              have hD := hD.sub (ws' := [(h, .inr (1, [.int g0, .int g1, .int (nI ac), .int (nI sq), .int (nI cn), .ref g5, .int (nI mn), .ref g7, .ref g8, .ref g9, .ref g10, .ref g11, .int g12, .int g13, .int g14, .ref g15, .int g16, .ref g17, .ref g18, .ref g19, .ref g20, .ref g21, .ref g22, .int g23, .ref g24, .int g25, .int g26, .int g27, .int g28, .ref g29, .int (nI ([nI ac] ++ encUf 4 sq ++ encUf 4 cn ++ [nI (bitsN ac cv 8)] ++ encClk ac cv 8 ++ encUf 4 mn).length), .int g31, .int g32])), (g29, .inl (cB, 1400, .inl f_17)), (g5, .inl (cI, 8, .inl fc)), (g7, .inl (cI, 16, .inl ft)), (g8, .inl (cI, 16, .inl fo)), (g9, .inl (cJ, 16, .inr (.inl fk))), (g10, .inl (cI, 16, .inl fd)), (g11, .inl (cI, 16, .inl fv))]) [6, 7, 0, 1, 2, 3, 4, 5] (by decide) rfl
              have e_19 : (nI ([nI ac] ++ encUf 4 sq ++ encUf 4 cn ++ [nI (bitsN ac cv 8)] ++ encClk ac cv 8 ++ encUf 4 mn).length : Int32) = nI (encHead ac sq cn mn cv ++ encOps cn ft fd fo fk fv 0).length := (by rw [encOps, List.append_nil, encHead])
              have hP : va_P (dC, dI) vcl [(h, .inr (1, [.int g0, .int g1, .int (nI ac), .int (nI sq), .int (nI cn), .ref g5, .int (nI mn), .ref g7, .ref g8, .ref g9, .ref g10, .ref g11, .int g12, .int g13, .int g14, .ref g15, .int g16, .ref g17, .ref g18, .ref g19, .ref g20, .ref g21, .ref g22, .int g23, .ref g24, .int g25, .int g26, .int g27, .int g28, .ref g29, .int (nI (encHead ac sq cn mn cv ++ encOps cn ft fd fo fk fv 0).length), .int g31, .int g32])), (g29, .inl (cB, 1400, .inl f_17)), (g5, .inl (cI, 8, .inl fc)), (g7, .inl (cI, 16, .inl ft)), (g8, .inl (cI, 16, .inl fo)), (g9, .inl (cJ, 16, .inr (.inl fk))), (g10, .inl (cI, 16, .inl fd)), (g11, .inl (cI, 16, .inl fv))] H := by rw [← e_19]; exact hP
              have hD : va_D A [(h, .inr (1, [.int g0, .int g1, .int (nI ac), .int (nI sq), .int (nI cn), .ref g5, .int (nI mn), .ref g7, .ref g8, .ref g9, .ref g10, .ref g11, .int g12, .int g13, .int g14, .ref g15, .int g16, .ref g17, .ref g18, .ref g19, .ref g20, .ref g21, .ref g22, .int g23, .ref g24, .int g25, .int g26, .int g27, .int g28, .ref g29, .int (nI (encHead ac sq cn mn cv ++ encOps cn ft fd fo fk fv 0).length), .int g31, .int g32])), (g29, .inl (cB, 1400, .inl f_17)), (g5, .inl (cI, 8, .inl fc)), (g7, .inl (cI, 16, .inl ft)), (g8, .inl (cI, 16, .inl fo)), (g9, .inl (cJ, 16, .inr (.inl fk))), (g10, .inl (cI, 16, .inl fd)), (g11, .inl (cI, 16, .inl fv))] := by rw [← e_19]; exact hD
              have lp_20 : ∀ (k : Nat) (a : Nat) (f : Nat → Int32), (a + k = mn) → (Hd (encHead ac sq cn mn cv ++ encOps cn ft fd fo fk fv a) f) → ∀ (H : Heap) (locs : List Loc), va_P (dC, dI) vcl [(h, .inr (1, [.int g0, .int g1, .int (nI ac), .int (nI sq), .int (nI cn), .ref g5, .int (nI mn), .ref g7, .ref g8, .ref g9, .ref g10, .ref g11, .int g12, .int g13, .int g14, .ref g15, .int g16, .ref g17, .ref g18, .ref g19, .ref g20, .ref g21, .ref g22, .int g23, .ref g24, .int g25, .int g26, .int g27, .int g28, .ref g29, .int (nI (encHead ac sq cn mn cv ++ encOps cn ft fd fo fk fv a).length), .int g31, .int g32])), (g29, .inl (cB, 1400, .inl f)), (g5, .inl (cI, 8, .inl fc)), (g7, .inl (cI, 16, .inl ft)), (g8, .inl (cI, 16, .inl fo)), (g9, .inl (cJ, 16, .inr (.inl fk))), (g10, .inl (cI, 16, .inl fd)), (g11, .inl (cI, 16, .inl fv))] H → va_D A [(h, .inr (1, [.int g0, .int g1, .int (nI ac), .int (nI sq), .int (nI cn), .ref g5, .int (nI mn), .ref g7, .ref g8, .ref g9, .ref g10, .ref g11, .int g12, .int g13, .int g14, .ref g15, .int g16, .ref g17, .ref g18, .ref g19, .ref g20, .ref g21, .ref g22, .int g23, .ref g24, .int g25, .int g26, .int g27, .int g28, .ref g29, .int (nI (encHead ac sq cn mn cv ++ encOps cn ft fd fo fk fv a).length), .int g31, .int g32])), (g29, .inl (cB, 1400, .inl f)), (g5, .inl (cI, 8, .inl fc)), (g7, .inl (cI, 16, .inl ft)), (g8, .inl (cI, 16, .inl fo)), (g9, .inl (cJ, 16, .inr (.inl fk))), (g10, .inl (cI, 16, .inl fd)), (g11, .inl (cI, 16, .inl fv))] → va_S A s.heap H locs → ∀ ls : Array Slot, lv_has ls 3 [(0, .ref h), (1, .int (nI (bitsN ac cv 8))), (2, .int (nI a))] → W p l e (headSpec (Cond.code yy_M_layBody cc_M_layBody 3 none :: gw) { frames := 4, cells := 0, slots := 0, locals := 87 }).room s m ([.ref h] : List Value).toArray below meth c H locs 0 0 (MQ below (va_Qv (fun (u : Nat → Int32) => Hd (encBody ac sq cn mn cv ft fd fo fk fv) u) (fun (u : Nat → Int32) => ks_post dC dI [(cB, .byte), (cI, .int), (cJ, .long)] A [(h, .inr (1, [.int g0, .int g1, .int (nI ac), .int (nI sq), .int (nI cn), .ref g5, .int (nI mn), .ref g7, .ref g8, .ref g9, .ref g10, .ref g11, .int g12, .int g13, .int g14, .ref g15, .int g16, .ref g17, .ref g18, .ref g19, .ref g20, .ref g21, .ref g22, .int g23, .ref g24, .int g25, .int g26, .int g27, .int g28, .ref g29, .int (nI (encBody ac sq cn mn cv ft fd fo fk fv).length), .int g31, .int g32])), (g29, .inl (cB, 1400, .inl u)), (g5, .inl (cI, 8, .inl fc)), (g7, .inl (cI, 16, .inl ft)), (g8, .inl (cI, 16, .inl fo)), (g9, .inl (cJ, 16, .inr (.inl fk))), (g10, .inl (cI, 16, .inl fd)), (g11, .inl (cI, 16, .inl fv))]) A) ([.ref h] : List Value).toArray s 0 0 A) (F0 m 120 ls []) := by
                intro k
                induction k with
                | zero =>
                  intro a f hak hH H locs hP hD hS ls hl
                  refine lv_iload_n hx hb dd_M_layBody_120 rfl (lv_at hl 2 rfl) ?_
                  refine lv_aload_n hx hb dd_M_layBody_121 rfl (lv_at hl 0 rfl) ?_
                  refine va_get (D := (dC, dI)) (ci := 1) (v := .int (nI mn)) (C := RR_M) (T := TT_M) (N := 33) hx hb hw hh_M hown hK hP 0 rfl rfl 6 (by decide) (hw _ qq_585) (fun _ h9 => h9) rfl dd_M_layBody_122 ?_
                  refine lv_icmp_ge (tgt := 139) hx hb dd_M_layBody_125 (by decide) (fun c_21 => ?_) (fun c_21 => ?_)
                  · have ea : a = mn := by omega
                    have e_22 : (nI (encHead ac sq cn mn cv ++ encOps cn ft fd fo fk fv a).length : Int32) = nI (encBody ac sq cn mn cv ft fd fo fk fv).length := (by rw [encBody, ea])
                    have hP : va_P (dC, dI) vcl [(h, .inr (1, [.int g0, .int g1, .int (nI ac), .int (nI sq), .int (nI cn), .ref g5, .int (nI mn), .ref g7, .ref g8, .ref g9, .ref g10, .ref g11, .int g12, .int g13, .int g14, .ref g15, .int g16, .ref g17, .ref g18, .ref g19, .ref g20, .ref g21, .ref g22, .int g23, .ref g24, .int g25, .int g26, .int g27, .int g28, .ref g29, .int (nI (encBody ac sq cn mn cv ft fd fo fk fv).length), .int g31, .int g32])), (g29, .inl (cB, 1400, .inl f)), (g5, .inl (cI, 8, .inl fc)), (g7, .inl (cI, 16, .inl ft)), (g8, .inl (cI, 16, .inl fo)), (g9, .inl (cJ, 16, .inr (.inl fk))), (g10, .inl (cI, 16, .inl fd)), (g11, .inl (cI, 16, .inl fv))] H := by rw [← e_22]; exact hP
                    have hD : va_D A [(h, .inr (1, [.int g0, .int g1, .int (nI ac), .int (nI sq), .int (nI cn), .ref g5, .int (nI mn), .ref g7, .ref g8, .ref g9, .ref g10, .ref g11, .int g12, .int g13, .int g14, .ref g15, .int g16, .ref g17, .ref g18, .ref g19, .ref g20, .ref g21, .ref g22, .int g23, .ref g24, .int g25, .int g26, .int g27, .int g28, .ref g29, .int (nI (encBody ac sq cn mn cv ft fd fo fk fv).length), .int g31, .int g32])), (g29, .inl (cB, 1400, .inl f)), (g5, .inl (cI, 8, .inl fc)), (g7, .inl (cI, 16, .inl ft)), (g8, .inl (cI, 16, .inl fo)), (g9, .inl (cJ, 16, .inr (.inl fk))), (g10, .inl (cI, 16, .inl fd)), (g11, .inl (cI, 16, .inl fv))] := by rw [← e_22]; exact hD
                    have hP9 := hP.sub (ws' := [(h, .inr (1, [.int g0, .int g1, .int (nI ac), .int (nI sq), .int (nI cn), .ref g5, .int (nI mn), .ref g7, .ref g8, .ref g9, .ref g10, .ref g11, .int g12, .int g13, .int g14, .ref g15, .int g16, .ref g17, .ref g18, .ref g19, .ref g20, .ref g21, .ref g22, .int g23, .ref g24, .int g25, .int g26, .int g27, .int g28, .ref g29, .int (nI (encBody ac sq cn mn cv ft fd fo fk fv).length), .int g31, .int g32])), (g29, .inl (cB, 1400, .inl f)), (g5, .inl (cI, 8, .inl fc)), (g7, .inl (cI, 16, .inl ft)), (g8, .inl (cI, 16, .inl fo)), (g9, .inl (cJ, 16, .inr (.inl fk))), (g10, .inl (cI, 16, .inl fd)), (g11, .inl (cI, 16, .inl fv))]) [0, 1, 2, 3, 4, 5, 6, 7] rfl
                    have hD9 := hD.sub (ws' := [(h, .inr (1, [.int g0, .int g1, .int (nI ac), .int (nI sq), .int (nI cn), .ref g5, .int (nI mn), .ref g7, .ref g8, .ref g9, .ref g10, .ref g11, .int g12, .int g13, .int g14, .ref g15, .int g16, .ref g17, .ref g18, .ref g19, .ref g20, .ref g21, .ref g22, .int g23, .ref g24, .int g25, .int g26, .int g27, .int g28, .ref g29, .int (nI (encBody ac sq cn mn cv ft fd fo fk fv).length), .int g31, .int g32])), (g29, .inl (cB, 1400, .inl f)), (g5, .inl (cI, 8, .inl fc)), (g7, .inl (cI, 16, .inl ft)), (g8, .inl (cI, 16, .inl fo)), (g9, .inl (cJ, 16, .inr (.inl fk))), (g10, .inl (cI, 16, .inl fd)), (g11, .inl (cI, 16, .inl fv))]) [0, 1, 2, 3, 4, 5, 6, 7] (by decide) rfl
                    refine W.widen (k := 0) (n := 0) (by first | exact Nat.le_refl _ | omega) (by first | exact Nat.le_refl _ | omega) ?_
                    exact W.vret hx hb hr (fun t ht hW => ⟨⟨f, rfl, (by have h9 := hH; rw [ea] at h9; exact h9), by rw [ht]; exact hP9, va_K.moved hW.alike hK, hD9⟩, hS.F ht⟩) hS.2.2 dd_M_layBody_139
                  · exact absurd (nI_le (show mn ≤ a by omega) (by omega)) c_21
                | succ k ih =>
                  intro a f hak hH H locs hP hD hS ls hl
                  refine lv_iload_n hx hb dd_M_layBody_120 rfl (lv_at hl 2 rfl) ?_
                  refine lv_aload_n hx hb dd_M_layBody_121 rfl (lv_at hl 0 rfl) ?_
                  refine va_get (D := (dC, dI)) (ci := 1) (v := .int (nI mn)) (C := RR_M) (T := TT_M) (N := 33) hx hb hw hh_M hown hK hP 0 rfl rfl 6 (by decide) (hw _ qq_585) (fun _ h9 => h9) rfl dd_M_layBody_122 ?_
                  refine lv_icmp_ge (tgt := 139) hx hb dd_M_layBody_125 (by decide) (fun c_23 => ?_) (fun c_23 => ?_)
                  · exact absurd c_23 (nI_ge (show a < mn by omega) (by omega))
                  · refine lv_aload_n hx hb dd_M_layBody_128 rfl (lv_at hl 0 rfl) ?_
                    refine lv_iload_n hx hb dd_M_layBody_129 rfl (lv_at hl 2 rfl) ?_
                    have hPc := hP.sub (ws' := [(h, .inr (1, [.int g0, .int g1, .int (nI ac), .int (nI sq), .int (nI cn), .ref g5, .int (nI mn), .ref g7, .ref g8, .ref g9, .ref g10, .ref g11, .int g12, .int g13, .int g14, .ref g15, .int g16, .ref g17, .ref g18, .ref g19, .ref g20, .ref g21, .ref g22, .int g23, .ref g24, .int g25, .int g26, .int g27, .int g28, .ref g29, .int (nI (encHead ac sq cn mn cv ++ encOps cn ft fd fo fk fv a).length), .int g31, .int g32])), (g29, .inl (cB, 1400, .inl f)), (g7, .inl (cI, 16, .inl ft)), (g8, .inl (cI, 16, .inl fo)), (g9, .inl (cJ, 16, .inr (.inl fk))), (g10, .inl (cI, 16, .inl fd)), (g11, .inl (cI, 16, .inl fv))]) [0, 1, 3, 4, 5, 6, 7] rfl
                    have hDc := hD.sub (ws' := [(h, .inr (1, [.int g0, .int g1, .int (nI ac), .int (nI sq), .int (nI cn), .ref g5, .int (nI mn), .ref g7, .ref g8, .ref g9, .ref g10, .ref g11, .int g12, .int g13, .int g14, .ref g15, .int g16, .ref g17, .ref g18, .ref g19, .ref g20, .ref g21, .ref g22, .int g23, .ref g24, .int g25, .int g26, .int g27, .int g28, .ref g29, .int (nI (encHead ac sq cn mn cv ++ encOps cn ft fd fo fk fv a).length), .int g31, .int g32])), (g29, .inl (cB, 1400, .inl f)), (g7, .inl (cI, 16, .inl ft)), (g8, .inl (cI, 16, .inl fo)), (g9, .inl (cJ, 16, .inr (.inl fk))), (g10, .inl (cI, 16, .inl fd)), (g11, .inl (cI, 16, .inl fv))]) [0, 1, 3, 4, 5, 6, 7] (by decide) rfl
                    have hFc := va_free (wc := [(h, .inr (1, [.int g0, .int g1, .int (nI ac), .int (nI sq), .int (nI cn), .ref g5, .int (nI mn), .ref g7, .ref g8, .ref g9, .ref g10, .ref g11, .int g12, .int g13, .int g14, .ref g15, .int g16, .ref g17, .ref g18, .ref g19, .ref g20, .ref g21, .ref g22, .int g23, .ref g24, .int g25, .int g26, .int g27, .int g28, .ref g29, .int (nI (encHead ac sq cn mn cv ++ encOps cn ft fd fo fk fv a).length), .int g31, .int g32])), (g29, .inl (cB, 1400, .inl f)), (g7, .inl (cI, 16, .inl ft)), (g8, .inl (cI, 16, .inl fo)), (g9, .inl (cJ, 16, .inr (.inl fk))), (g10, .inl (cI, 16, .inl fd)), (g11, .inl (cI, 16, .inl fv))]) hD hS hA [0, 1, 3, 4, 5, 6, 7] rfl
                    refine va_callv (va_runV (As := [.int (nI a)]) (rest := []) ⟨hx, hb, hml, hown, hw⟩ (cb_M_layOperation l dC dI cB cI cJ H.size h g0 g1 (nI ac) (nI sq) (nI mn) g12 g13 g14 g16 g23 g25 g26 g27 g28 g31 g32 g5 g7 g8 g9 g10 g11 g15 g17 g18 g19 g20 g21 g22 g24 g29 f (encHead ac sq cn mn cv ++ encOps cn ft fd fo fk fv a) hH ft fo fd fv fk cn a (by omega) (by omega) (hops a (by omega)) (by have h1 := encHead_le ac sq cn mn cv; have h2 := encOps_le cn ft fd fo fk fv a; rw [List.length_append]; omega)) (kw_V 1 hw qq_743 qq_5 qq_746 qq_745 qs_M_layOperation rfl rfl (by decide +kernel) ⟨Nat.le_of_ble_eq_true rfl, Nat.le_of_ble_eq_true rfl⟩) ⟨fun a U g mk q => by obtain ⟨q0, q1, qP, qK, qD⟩ := q; exact ⟨q0, q1, qP, va_K.moved (u := U) (U := U.calling g mk a) (Vm.Alike.refl U.vm) qK, qD⟩, va_recv hK hPc (ci := 1) (q0 := 0) rfl rfl, fun U hU hW => ⟨rfl, by rw [hU], by rw [hU]; exact hPc, va_K.moved hW.alike hK, hDc.weaken (fun _ _ _ _ => trivial)⟩⟩ rfl rfl hl.1 rfl (lv_room (Nat.le_of_ble_eq_true rfl)) dd_M_layBody_130 ⟨by first | exact Nat.le_of_ble_eq_true rfl | (simp only [headSpec]; omega), by first | exact Nat.le_of_ble_eq_true rfl | (simp only [headSpec]; omega)⟩) hS (fun q _ h => hFc q h) hFc (fun f_24 t H1 locs ht hvm hq_25 hB hz1 hk1 hS => ?_)
                    obtain ⟨hP1, hK1, hD1⟩ := hB
                    rw [ht] at hP1
                    obtain ⟨hP, hD⟩ := va_join (wr := [(g5, .inl (cI, 8, .inl fc))]) (w1 := [(h, .inr (1, [.int g0, .int g1, .int (nI ac), .int (nI sq), .int (nI cn), .ref g5, .int (nI mn), .ref g7, .ref g8, .ref g9, .ref g10, .ref g11, .int g12, .int g13, .int g14, .ref g15, .int g16, .ref g17, .ref g18, .ref g19, .ref g20, .ref g21, .ref g22, .int g23, .ref g24, .int g25, .int g26, .int g27, .int g28, .ref g29, .int (nI (encHead ac sq cn mn cv ++ encOps cn ft fd fo fk fv a ++ encOp (cn + a) (ft a) (fd a) (fo a) (fk a) (fv a)).length), .int g31, .int g32])), (g29, .inl (cB, 1400, .inl f_24)), (g7, .inl (cI, 16, .inl ft)), (g8, .inl (cI, 16, .inl fo)), (g9, .inl (cJ, 16, .inr (.inl fk))), (g10, .inl (cI, 16, .inl fd)), (g11, .inl (cI, 16, .inl fv))]) hP hD [0, 1, 3, 4, 5, 6, 7] [2] rfl rfl (by decide) (by decide) hk1 hFc hP1 hD1
                    clear hP1 hK1 hD1 ht hvm hz1 hk1 hPc hDc hFc
                    generalize H1 = H at hP hS ⊢
                    have hP : va_P (dC, dI) vcl [(g5, .inl (cI, 8, .inl fc)), (h, .inr (1, [.int g0, .int g1, .int (nI ac), .int (nI sq), .int (nI cn), .ref g5, .int (nI mn), .ref g7, .ref g8, .ref g9, .ref g10, .ref g11, .int g12, .int g13, .int g14, .ref g15, .int g16, .ref g17, .ref g18, .ref g19, .ref g20, .ref g21, .ref g22, .int g23, .ref g24, .int g25, .int g26, .int g27, .int g28, .ref g29, .int (nI (encHead ac sq cn mn cv ++ encOps cn ft fd fo fk fv a ++ encOp (cn + a) (ft a) (fd a) (fo a) (fk a) (fv a)).length), .int g31, .int g32])), (g29, .inl (cB, 1400, .inl f_24)), (g7, .inl (cI, 16, .inl ft)), (g8, .inl (cI, 16, .inl fo)), (g9, .inl (cJ, 16, .inr (.inl fk))), (g10, .inl (cI, 16, .inl fd)), (g11, .inl (cI, 16, .inl fv))] H := hP
                    have hD : va_D A [(g5, .inl (cI, 8, .inl fc)), (h, .inr (1, [.int g0, .int g1, .int (nI ac), .int (nI sq), .int (nI cn), .ref g5, .int (nI mn), .ref g7, .ref g8, .ref g9, .ref g10, .ref g11, .int g12, .int g13, .int g14, .ref g15, .int g16, .ref g17, .ref g18, .ref g19, .ref g20, .ref g21, .ref g22, .int g23, .ref g24, .int g25, .int g26, .int g27, .int g28, .ref g29, .int (nI (encHead ac sq cn mn cv ++ encOps cn ft fd fo fk fv a ++ encOp (cn + a) (ft a) (fd a) (fo a) (fk a) (fv a)).length), .int g31, .int g32])), (g29, .inl (cB, 1400, .inl f_24)), (g7, .inl (cI, 16, .inl ft)), (g8, .inl (cI, 16, .inl fo)), (g9, .inl (cJ, 16, .inr (.inl fk))), (g10, .inl (cI, 16, .inl fd)), (g11, .inl (cI, 16, .inl fv))] := hD
                    refine lv_iinc (v := (nI a) + 1) (lv' := [(2, .int ((nI a) + 1)), (0, .ref h), (1, .int (nI (bitsN ac cv 8)))]) hx hb dd_M_layBody_133 hl (k := 2) rfl rfl (by decide) rfl (fun ls hl => ?_)
                    refine lv_goto (tgt := 120) hx hb dd_M_layBody_136 (by decide) ?_
                    have e_26 : ((nI a) + 1 : Int32) = nI (a + 1) := nI_1 a
                    have hl : lv_has ls 3 [(2, .int (nI (a + 1))), (0, .ref h), (1, .int (nI (bitsN ac cv 8)))] := by rw [← e_26]; exact hl
                    have hP := hP.sub (ws' := [(h, .inr (1, [.int g0, .int g1, .int (nI ac), .int (nI sq), .int (nI cn), .ref g5, .int (nI mn), .ref g7, .ref g8, .ref g9, .ref g10, .ref g11, .int g12, .int g13, .int g14, .ref g15, .int g16, .ref g17, .ref g18, .ref g19, .ref g20, .ref g21, .ref g22, .int g23, .ref g24, .int g25, .int g26, .int g27, .int g28, .ref g29, .int (nI (encHead ac sq cn mn cv ++ encOps cn ft fd fo fk fv a ++ encOp (cn + a) (ft a) (fd a) (fo a) (fk a) (fv a)).length), .int g31, .int g32])), (g29, .inl (cB, 1400, .inl f_24)), (g5, .inl (cI, 8, .inl fc)), (g7, .inl (cI, 16, .inl ft)), (g8, .inl (cI, 16, .inl fo)), (g9, .inl (cJ, 16, .inr (.inl fk))), (g10, .inl (cI, 16, .inl fd)), (g11, .inl (cI, 16, .inl fv))]) [1, 2, 0, 3, 4, 5, 6, 7] rfl
                    have hD := hD.sub (ws' := [(h, .inr (1, [.int g0, .int g1, .int (nI ac), .int (nI sq), .int (nI cn), .ref g5, .int (nI mn), .ref g7, .ref g8, .ref g9, .ref g10, .ref g11, .int g12, .int g13, .int g14, .ref g15, .int g16, .ref g17, .ref g18, .ref g19, .ref g20, .ref g21, .ref g22, .int g23, .ref g24, .int g25, .int g26, .int g27, .int g28, .ref g29, .int (nI (encHead ac sq cn mn cv ++ encOps cn ft fd fo fk fv a ++ encOp (cn + a) (ft a) (fd a) (fo a) (fk a) (fv a)).length), .int g31, .int g32])), (g29, .inl (cB, 1400, .inl f_24)), (g5, .inl (cI, 8, .inl fc)), (g7, .inl (cI, 16, .inl ft)), (g8, .inl (cI, 16, .inl fo)), (g9, .inl (cJ, 16, .inr (.inl fk))), (g10, .inl (cI, 16, .inl fd)), (g11, .inl (cI, 16, .inl fv))]) [1, 2, 0, 3, 4, 5, 6, 7] (by decide) rfl
                    have e_27 : (nI (encHead ac sq cn mn cv ++ encOps cn ft fd fo fk fv a ++ encOp (cn + a) (ft a) (fd a) (fo a) (fk a) (fv a)).length : Int32) = nI (encHead ac sq cn mn cv ++ encOps cn ft fd fo fk fv (a + 1)).length := (by rw [encOps, ← List.append_assoc])
                    have hP : va_P (dC, dI) vcl [(h, .inr (1, [.int g0, .int g1, .int (nI ac), .int (nI sq), .int (nI cn), .ref g5, .int (nI mn), .ref g7, .ref g8, .ref g9, .ref g10, .ref g11, .int g12, .int g13, .int g14, .ref g15, .int g16, .ref g17, .ref g18, .ref g19, .ref g20, .ref g21, .ref g22, .int g23, .ref g24, .int g25, .int g26, .int g27, .int g28, .ref g29, .int (nI (encHead ac sq cn mn cv ++ encOps cn ft fd fo fk fv (a + 1)).length), .int g31, .int g32])), (g29, .inl (cB, 1400, .inl f_24)), (g5, .inl (cI, 8, .inl fc)), (g7, .inl (cI, 16, .inl ft)), (g8, .inl (cI, 16, .inl fo)), (g9, .inl (cJ, 16, .inr (.inl fk))), (g10, .inl (cI, 16, .inl fd)), (g11, .inl (cI, 16, .inl fv))] H := by rw [← e_27]; exact hP
                    have hD : va_D A [(h, .inr (1, [.int g0, .int g1, .int (nI ac), .int (nI sq), .int (nI cn), .ref g5, .int (nI mn), .ref g7, .ref g8, .ref g9, .ref g10, .ref g11, .int g12, .int g13, .int g14, .ref g15, .int g16, .ref g17, .ref g18, .ref g19, .ref g20, .ref g21, .ref g22, .int g23, .ref g24, .int g25, .int g26, .int g27, .int g28, .ref g29, .int (nI (encHead ac sq cn mn cv ++ encOps cn ft fd fo fk fv (a + 1)).length), .int g31, .int g32])), (g29, .inl (cB, 1400, .inl f_24)), (g5, .inl (cI, 8, .inl fc)), (g7, .inl (cI, 16, .inl ft)), (g8, .inl (cI, 16, .inl fo)), (g9, .inl (cJ, 16, .inr (.inl fk))), (g10, .inl (cI, 16, .inl fd)), (g11, .inl (cI, 16, .inl fv))] := by rw [← e_27]; exact hD
                    exact ih (a + 1) f_24 (by omega) (by rw [encOps, ← List.append_assoc]; exact hq_25) _ _ hP hD hS _ (lv_sub hl [1, 2, 0] rfl)
              exact lp_20 mn 0 f_17 (by omega) (by rw [encOps, List.append_nil, encHead]; exact hq_18) _ _ hP hD hS _ (lv_sub hl [1, 2, 0] rfl)
            · exact absurd (nI_le (show 8 ≤ a by omega) (by omega)) c_16
          | succ k ih =>
            intro a f hak hH H locs hP hD hS ls hl
            refine lv_iload_n hx hb dd_M_layBody_79 rfl (lv_at hl 2 rfl) ?_
            refine lv_bipush (v := 8) hx hb dd_M_layBody_80 (by decide) ?_
            refine lv_icmp_ge (tgt := 110) hx hb dd_M_layBody_82 (by decide) (fun c_28 => ?_) (fun c_28 => ?_)
            · exact absurd c_28 (nI_ge (show a < 8 by omega) (by decide))
            · refine lv_iload_n hx hb dd_M_layBody_85 rfl (lv_at hl 1 rfl) ?_
              refine lv_iload_n hx hb dd_M_layBody_86 rfl (lv_at hl 2 rfl) ?_
              refine lv_ishr hx hb dd_M_layBody_87 ?_
              refine lv_iconst (v := 1) hx hb dd_M_layBody_88 (by decide) ?_
              refine lv_iand hx hb dd_M_layBody_89 ?_
              refine lv_iconst (v := 1) hx hb dd_M_layBody_90 (by decide) ?_
              refine lv_icmp_ne (tgt := 104) hx hb dd_M_layBody_91 (by decide) (fun c_29 => ?_) (fun c_29 => ?_)
              · have hon : ¬ onB ac cv a = true := fun z => c_29 ((bit_is (by omega)).mpr z)
                refine lv_iinc (v := (nI a) + 1) (lv' := [(2, .int ((nI a) + 1)), (0, .ref h), (1, .int (nI (bitsN ac cv 8)))]) hx hb dd_M_layBody_104 hl (k := 2) rfl rfl (by decide) rfl (fun ls hl => ?_)
                refine lv_goto (tgt := 79) hx hb dd_M_layBody_107 (by decide) ?_
                have e_30 : ((nI a) + 1 : Int32) = nI (a + 1) := nI_1 a
                have hl : lv_has ls 3 [(2, .int (nI (a + 1))), (0, .ref h), (1, .int (nI (bitsN ac cv 8)))] := by rw [← e_30]; exact hl
                have e_31 : (nI ([nI ac] ++ encUf 4 sq ++ encUf 4 cn ++ [nI (bitsN ac cv 8)] ++ encClk ac cv a).length : Int32) = nI ([nI ac] ++ encUf 4 sq ++ encUf 4 cn ++ [nI (bitsN ac cv 8)] ++ encClk ac cv (a + 1)).length := (by rw [encClk]; rw [if_neg hon, List.append_nil])
                have hP : va_P (dC, dI) vcl [(h, .inr (1, [.int g0, .int g1, .int (nI ac), .int (nI sq), .int (nI cn), .ref g5, .int (nI mn), .ref g7, .ref g8, .ref g9, .ref g10, .ref g11, .int g12, .int g13, .int g14, .ref g15, .int g16, .ref g17, .ref g18, .ref g19, .ref g20, .ref g21, .ref g22, .int g23, .ref g24, .int g25, .int g26, .int g27, .int g28, .ref g29, .int (nI ([nI ac] ++ encUf 4 sq ++ encUf 4 cn ++ [nI (bitsN ac cv 8)] ++ encClk ac cv (a + 1)).length), .int g31, .int g32])), (g29, .inl (cB, 1400, .inl f)), (g5, .inl (cI, 8, .inl fc)), (g7, .inl (cI, 16, .inl ft)), (g8, .inl (cI, 16, .inl fo)), (g9, .inl (cJ, 16, .inr (.inl fk))), (g10, .inl (cI, 16, .inl fd)), (g11, .inl (cI, 16, .inl fv))] H := by rw [← e_31]; exact hP
                have hD : va_D A [(h, .inr (1, [.int g0, .int g1, .int (nI ac), .int (nI sq), .int (nI cn), .ref g5, .int (nI mn), .ref g7, .ref g8, .ref g9, .ref g10, .ref g11, .int g12, .int g13, .int g14, .ref g15, .int g16, .ref g17, .ref g18, .ref g19, .ref g20, .ref g21, .ref g22, .int g23, .ref g24, .int g25, .int g26, .int g27, .int g28, .ref g29, .int (nI ([nI ac] ++ encUf 4 sq ++ encUf 4 cn ++ [nI (bitsN ac cv 8)] ++ encClk ac cv (a + 1)).length), .int g31, .int g32])), (g29, .inl (cB, 1400, .inl f)), (g5, .inl (cI, 8, .inl fc)), (g7, .inl (cI, 16, .inl ft)), (g8, .inl (cI, 16, .inl fo)), (g9, .inl (cJ, 16, .inr (.inl fk))), (g10, .inl (cI, 16, .inl fd)), (g11, .inl (cI, 16, .inl fv))] := by rw [← e_31]; exact hD
                exact ih (a + 1) f (by omega) (by rw [encClk, if_neg hon, List.append_nil]; exact hH) _ _ hP hD hS _ (lv_sub hl [1, 2, 0] rfl)
              · have hon : onB ac cv a = true := (bit_is (by omega)).mp c_29
                refine lv_aload_n hx hb dd_M_layBody_94 rfl (lv_at hl 0 rfl) ?_
                refine lv_aload_n hx hb dd_M_layBody_95 rfl (lv_at hl 0 rfl) ?_
                refine va_get (D := (dC, dI)) (ci := 1) (v := .ref g5) (C := RR_M) (T := TT_M) (N := 33) hx hb hw hh_M hown hK hP 0 rfl rfl 5 (by decide) (hw _ qq_584) (fun _ h9 => h9) rfl dd_M_layBody_96 ?_
                refine lv_iload_n hx hb dd_M_layBody_99 rfl (lv_at hl 2 rfl) ?_
                refine va_iald hx hb hK hP 2 1 rfl rfl (vp_in_nI (by omega) (by decide)) dd_M_layBody_100 ?_
                refine lv_topi (fun z_32 hz_32 => ?_)
                obtain rfl : z_32 = fc a := hz_32.trans ((by rw [nI_clamp (by omega)]))
                refine lv_topi (fun z_33 hz_33 => ?_)
                obtain rfl : z_33 = nI (cv a) := hz_33.trans ((hcv a (by omega)).1)
                have hPc := hP.sub (ws' := [(h, .inr (1, [.int g0, .int g1, .int (nI ac), .int (nI sq), .int (nI cn), .ref g5, .int (nI mn), .ref g7, .ref g8, .ref g9, .ref g10, .ref g11, .int g12, .int g13, .int g14, .ref g15, .int g16, .ref g17, .ref g18, .ref g19, .ref g20, .ref g21, .ref g22, .int g23, .ref g24, .int g25, .int g26, .int g27, .int g28, .ref g29, .int (nI ([nI ac] ++ encUf 4 sq ++ encUf 4 cn ++ [nI (bitsN ac cv 8)] ++ encClk ac cv a).length), .int g31, .int g32])), (g29, .inl (cB, 1400, .inl f))]) [0, 1] rfl
                have hDc := hD.sub (ws' := [(h, .inr (1, [.int g0, .int g1, .int (nI ac), .int (nI sq), .int (nI cn), .ref g5, .int (nI mn), .ref g7, .ref g8, .ref g9, .ref g10, .ref g11, .int g12, .int g13, .int g14, .ref g15, .int g16, .ref g17, .ref g18, .ref g19, .ref g20, .ref g21, .ref g22, .int g23, .ref g24, .int g25, .int g26, .int g27, .int g28, .ref g29, .int (nI ([nI ac] ++ encUf 4 sq ++ encUf 4 cn ++ [nI (bitsN ac cv 8)] ++ encClk ac cv a).length), .int g31, .int g32])), (g29, .inl (cB, 1400, .inl f))]) [0, 1] (by decide) rfl
                have hFc := va_free (wc := [(h, .inr (1, [.int g0, .int g1, .int (nI ac), .int (nI sq), .int (nI cn), .ref g5, .int (nI mn), .ref g7, .ref g8, .ref g9, .ref g10, .ref g11, .int g12, .int g13, .int g14, .ref g15, .int g16, .ref g17, .ref g18, .ref g19, .ref g20, .ref g21, .ref g22, .int g23, .ref g24, .int g25, .int g26, .int g27, .int g28, .ref g29, .int (nI ([nI ac] ++ encUf 4 sq ++ encUf 4 cn ++ [nI (bitsN ac cv 8)] ++ encClk ac cv a).length), .int g31, .int g32])), (g29, .inl (cB, 1400, .inl f))]) hD hS hA [0, 1] rfl
                refine va_callv (va_runV (As := [.int (nI (cv a))]) (rest := []) ⟨hx, hb, hml, hown, hw⟩ (cb_M_layU l dC dI cB cI cJ H.size h g0 g1 (nI ac) (nI sq) (nI cn) (nI mn) g12 g13 g14 g16 g23 g25 g26 g27 g28 g31 g32 g5 g7 g8 g9 g10 g11 g15 g17 g18 g19 g20 g21 g22 g24 g29 f ([nI ac] ++ encUf 4 sq ++ encUf 4 cn ++ [nI (bitsN ac cv 8)] ++ encClk ac cv a) hH (cv a) (by have := (hcv a (by omega)).2; omega) (by have h1 := encUf_le 4 sq; have h2 := encUf_le 4 cn; have h3 := encClk_le ac cv a; have h4 := encUf_le 4 (cv a); simp only [List.length_append, List.length_cons, List.length_nil, encLk_len]; omega)) (kw_V 1 hw qq_739 qq_5 qq_742 qq_741 qs_M_layU rfl rfl (by decide +kernel) ⟨Nat.le_of_ble_eq_true rfl, Nat.le_of_ble_eq_true rfl⟩) ⟨fun a U g mk q => by obtain ⟨q0, q1, qP, qK, qD⟩ := q; exact ⟨q0, q1, qP, va_K.moved (u := U) (U := U.calling g mk a) (Vm.Alike.refl U.vm) qK, qD⟩, va_recv hK hPc (ci := 1) (q0 := 0) rfl rfl, fun U hU hW => ⟨rfl, by rw [hU], by rw [hU]; exact hPc, va_K.moved hW.alike hK, hDc.weaken (fun _ _ _ _ => trivial)⟩⟩ rfl rfl hl.1 rfl (lv_room (Nat.le_of_ble_eq_true rfl)) dd_M_layBody_101 ⟨by first | exact Nat.le_of_ble_eq_true rfl | (simp only [headSpec]; omega), by first | exact Nat.le_of_ble_eq_true rfl | (simp only [headSpec]; omega)⟩) hS (fun q _ h => hFc q h) hFc (fun f_34 t H1 locs ht hvm hq_35 hB hz1 hk1 hS => ?_)
                obtain ⟨hP1, hK1, hD1⟩ := hB
                rw [ht] at hP1
                obtain ⟨hP, hD⟩ := va_join (wr := [(g5, .inl (cI, 8, .inl fc)), (g7, .inl (cI, 16, .inl ft)), (g8, .inl (cI, 16, .inl fo)), (g9, .inl (cJ, 16, .inr (.inl fk))), (g10, .inl (cI, 16, .inl fd)), (g11, .inl (cI, 16, .inl fv))]) (w1 := [(h, .inr (1, [.int g0, .int g1, .int (nI ac), .int (nI sq), .int (nI cn), .ref g5, .int (nI mn), .ref g7, .ref g8, .ref g9, .ref g10, .ref g11, .int g12, .int g13, .int g14, .ref g15, .int g16, .ref g17, .ref g18, .ref g19, .ref g20, .ref g21, .ref g22, .int g23, .ref g24, .int g25, .int g26, .int g27, .int g28, .ref g29, .int (nI ([nI ac] ++ encUf 4 sq ++ encUf 4 cn ++ [nI (bitsN ac cv 8)] ++ encClk ac cv a ++ encUf 4 (cv a)).length), .int g31, .int g32])), (g29, .inl (cB, 1400, .inl f_34))]) hP hD [0, 1] [2, 3, 4, 5, 6, 7] rfl rfl (by decide) (by decide) hk1 hFc hP1 hD1
                clear hP1 hK1 hD1 ht hvm hz1 hk1 hPc hDc hFc
                generalize H1 = H at hP hS ⊢
                have hP : va_P (dC, dI) vcl [(g5, .inl (cI, 8, .inl fc)), (g7, .inl (cI, 16, .inl ft)), (g8, .inl (cI, 16, .inl fo)), (g9, .inl (cJ, 16, .inr (.inl fk))), (g10, .inl (cI, 16, .inl fd)), (g11, .inl (cI, 16, .inl fv)), (h, .inr (1, [.int g0, .int g1, .int (nI ac), .int (nI sq), .int (nI cn), .ref g5, .int (nI mn), .ref g7, .ref g8, .ref g9, .ref g10, .ref g11, .int g12, .int g13, .int g14, .ref g15, .int g16, .ref g17, .ref g18, .ref g19, .ref g20, .ref g21, .ref g22, .int g23, .ref g24, .int g25, .int g26, .int g27, .int g28, .ref g29, .int (nI ([nI ac] ++ encUf 4 sq ++ encUf 4 cn ++ [nI (bitsN ac cv 8)] ++ encClk ac cv a ++ encUf 4 (cv a)).length), .int g31, .int g32])), (g29, .inl (cB, 1400, .inl f_34))] H := hP
                have hD : va_D A [(g5, .inl (cI, 8, .inl fc)), (g7, .inl (cI, 16, .inl ft)), (g8, .inl (cI, 16, .inl fo)), (g9, .inl (cJ, 16, .inr (.inl fk))), (g10, .inl (cI, 16, .inl fd)), (g11, .inl (cI, 16, .inl fv)), (h, .inr (1, [.int g0, .int g1, .int (nI ac), .int (nI sq), .int (nI cn), .ref g5, .int (nI mn), .ref g7, .ref g8, .ref g9, .ref g10, .ref g11, .int g12, .int g13, .int g14, .ref g15, .int g16, .ref g17, .ref g18, .ref g19, .ref g20, .ref g21, .ref g22, .int g23, .ref g24, .int g25, .int g26, .int g27, .int g28, .ref g29, .int (nI ([nI ac] ++ encUf 4 sq ++ encUf 4 cn ++ [nI (bitsN ac cv 8)] ++ encClk ac cv a ++ encUf 4 (cv a)).length), .int g31, .int g32])), (g29, .inl (cB, 1400, .inl f_34))] := hD
                refine lv_iinc (v := (nI a) + 1) (lv' := [(2, .int ((nI a) + 1)), (0, .ref h), (1, .int (nI (bitsN ac cv 8)))]) hx hb dd_M_layBody_104 hl (k := 2) rfl rfl (by decide) rfl (fun ls hl => ?_)
                refine lv_goto (tgt := 79) hx hb dd_M_layBody_107 (by decide) ?_
                have e_36 : ((nI a) + 1 : Int32) = nI (a + 1) := nI_1 a
                have hl : lv_has ls 3 [(2, .int (nI (a + 1))), (0, .ref h), (1, .int (nI (bitsN ac cv 8)))] := by rw [← e_36]; exact hl
                have hP := hP.sub (ws' := [(h, .inr (1, [.int g0, .int g1, .int (nI ac), .int (nI sq), .int (nI cn), .ref g5, .int (nI mn), .ref g7, .ref g8, .ref g9, .ref g10, .ref g11, .int g12, .int g13, .int g14, .ref g15, .int g16, .ref g17, .ref g18, .ref g19, .ref g20, .ref g21, .ref g22, .int g23, .ref g24, .int g25, .int g26, .int g27, .int g28, .ref g29, .int (nI ([nI ac] ++ encUf 4 sq ++ encUf 4 cn ++ [nI (bitsN ac cv 8)] ++ encClk ac cv a ++ encUf 4 (cv a)).length), .int g31, .int g32])), (g29, .inl (cB, 1400, .inl f_34)), (g5, .inl (cI, 8, .inl fc)), (g7, .inl (cI, 16, .inl ft)), (g8, .inl (cI, 16, .inl fo)), (g9, .inl (cJ, 16, .inr (.inl fk))), (g10, .inl (cI, 16, .inl fd)), (g11, .inl (cI, 16, .inl fv))]) [6, 7, 0, 1, 2, 3, 4, 5] rfl
                have hD := hD.sub (ws' := [(h, .inr (1, [.int g0, .int g1, .int (nI ac), .int (nI sq), .int (nI cn), .ref g5, .int (nI mn), .ref g7, .ref g8, .ref g9, .ref g10, .ref g11, .int g12, .int g13, .int g14, .ref g15, .int g16, .ref g17, .ref g18, .ref g19, .ref g20, .ref g21, .ref g22, .int g23, .ref g24, .int g25, .int g26, .int g27, .int g28, .ref g29, .int (nI ([nI ac] ++ encUf 4 sq ++ encUf 4 cn ++ [nI (bitsN ac cv 8)] ++ encClk ac cv a ++ encUf 4 (cv a)).length), .int g31, .int g32])), (g29, .inl (cB, 1400, .inl f_34)), (g5, .inl (cI, 8, .inl fc)), (g7, .inl (cI, 16, .inl ft)), (g8, .inl (cI, 16, .inl fo)), (g9, .inl (cJ, 16, .inr (.inl fk))), (g10, .inl (cI, 16, .inl fd)), (g11, .inl (cI, 16, .inl fv))]) [6, 7, 0, 1, 2, 3, 4, 5] (by decide) rfl
                have e_37 : (nI ([nI ac] ++ encUf 4 sq ++ encUf 4 cn ++ [nI (bitsN ac cv 8)] ++ encClk ac cv a ++ encUf 4 (cv a)).length : Int32) = nI ([nI ac] ++ encUf 4 sq ++ encUf 4 cn ++ [nI (bitsN ac cv 8)] ++ encClk ac cv (a + 1)).length := (by rw [encClk]; rw [if_pos hon, ← List.append_assoc])
                have hP : va_P (dC, dI) vcl [(h, .inr (1, [.int g0, .int g1, .int (nI ac), .int (nI sq), .int (nI cn), .ref g5, .int (nI mn), .ref g7, .ref g8, .ref g9, .ref g10, .ref g11, .int g12, .int g13, .int g14, .ref g15, .int g16, .ref g17, .ref g18, .ref g19, .ref g20, .ref g21, .ref g22, .int g23, .ref g24, .int g25, .int g26, .int g27, .int g28, .ref g29, .int (nI ([nI ac] ++ encUf 4 sq ++ encUf 4 cn ++ [nI (bitsN ac cv 8)] ++ encClk ac cv (a + 1)).length), .int g31, .int g32])), (g29, .inl (cB, 1400, .inl f_34)), (g5, .inl (cI, 8, .inl fc)), (g7, .inl (cI, 16, .inl ft)), (g8, .inl (cI, 16, .inl fo)), (g9, .inl (cJ, 16, .inr (.inl fk))), (g10, .inl (cI, 16, .inl fd)), (g11, .inl (cI, 16, .inl fv))] H := by rw [← e_37]; exact hP
                have hD : va_D A [(h, .inr (1, [.int g0, .int g1, .int (nI ac), .int (nI sq), .int (nI cn), .ref g5, .int (nI mn), .ref g7, .ref g8, .ref g9, .ref g10, .ref g11, .int g12, .int g13, .int g14, .ref g15, .int g16, .ref g17, .ref g18, .ref g19, .ref g20, .ref g21, .ref g22, .int g23, .ref g24, .int g25, .int g26, .int g27, .int g28, .ref g29, .int (nI ([nI ac] ++ encUf 4 sq ++ encUf 4 cn ++ [nI (bitsN ac cv 8)] ++ encClk ac cv (a + 1)).length), .int g31, .int g32])), (g29, .inl (cB, 1400, .inl f_34)), (g5, .inl (cI, 8, .inl fc)), (g7, .inl (cI, 16, .inl ft)), (g8, .inl (cI, 16, .inl fo)), (g9, .inl (cJ, 16, .inr (.inl fk))), (g10, .inl (cI, 16, .inl fd)), (g11, .inl (cI, 16, .inl fv))] := by rw [← e_37]; exact hD
                exact ih (a + 1) f_34 (by omega) (by rw [encClk, if_pos hon, ← List.append_assoc]; exact hq_35) _ _ hP hD hS _ (lv_sub hl [1, 2, 0] rfl)
        exact lp_15 8 0 f_11 rfl (by rw [encClk, List.append_nil]; exact hq_12) _ _ hP hD hS _ (lv_sub hl [1, 2, 0] rfl)
      · exact absurd (nI_le (show 8 ≤ a by omega) (by omega)) c_10
    | succ k ih =>
      intro a hak H locs hP hD hS ls hl
      refine lv_iload_n hx hb dd_M_layBody_33 rfl (lv_at hl 2 rfl) ?_
      refine lv_bipush (v := 8) hx hb dd_M_layBody_34 (by decide) ?_
      refine lv_icmp_ge (tgt := 72) hx hb dd_M_layBody_36 (by decide) (fun c_38 => ?_) (fun c_38 => ?_)
      · exact absurd c_38 (nI_ge (show a < 8 by omega) (by decide))
      · refine lv_iload_n hx hb dd_M_layBody_39 rfl (lv_at hl 1 rfl) ?_
        refine lv_iload_n hx hb dd_M_layBody_40 rfl (lv_at hl 2 rfl) ?_
        refine lv_aload_n hx hb dd_M_layBody_41 rfl (lv_at hl 0 rfl) ?_
        refine va_get (D := (dC, dI)) (ci := 1) (v := .int (nI ac)) (C := RR_M) (T := TT_M) (N := 33) hx hb hw hh_M hown hK hP 0 rfl rfl 2 (by decide) (hw _ qq_581) (fun _ h9 => h9) rfl dd_M_layBody_42 ?_
        refine lv_icmp_eq (tgt := 63) hx hb dd_M_layBody_45 (by decide) (fun c_39 => ?_) (fun c_39 => ?_)
        · refine lv_iconst (v := 0) hx hb dd_M_layBody_63 (by decide) ?_
          refine lv_topi (fun z_40 hz_40 => ?_)
          obtain rfl : z_40 = (if onB ac cv a then nI (2 ^ a) else 0) := hz_40.trans ((by rw [if_neg (by have hz : a = ac := (nI_eq (by omega) (by omega)).mp c_39; simp [onB, hz])]))
          refine lv_iadd hx hb dd_M_layBody_64 ?_
          refine lv_topi (fun z_41 hz_41 => ?_)
          obtain rfl : z_41 = nI (bitsN ac cv (a + 1)) := hz_41.trans ((by rw [bitsN]; split <;> simp [nI_add, nI_0]))
          refine lv_istore_n (lv' := [(1, .int (nI (bitsN ac cv (a + 1)))), (0, .ref h), (2, .int (nI a))]) hx hb dd_M_layBody_65 rfl hl (by decide) rfl (fun ls hl => ?_)
          refine lv_iinc (v := (nI a) + 1) (lv' := [(2, .int ((nI a) + 1)), (1, .int (nI (bitsN ac cv (a + 1)))), (0, .ref h)]) hx hb dd_M_layBody_66 hl (k := 2) rfl rfl (by decide) rfl (fun ls hl => ?_)
          refine lv_goto (tgt := 33) hx hb dd_M_layBody_69 (by decide) ?_
          have e_42 : ((nI a) + 1 : Int32) = nI (a + 1) := nI_1 a
          have hl : lv_has ls 3 [(2, .int (nI (a + 1))), (1, .int (nI (bitsN ac cv (a + 1)))), (0, .ref h)] := by rw [← e_42]; exact hl
          exact ih (a + 1) (by omega) _ _ hP hD hS _ (lv_sub hl [2, 1, 0] rfl)
        · have hna : a ≠ ac := fun z => c_39 (by rw [z])
          refine lv_aload_n hx hb dd_M_layBody_48 rfl (lv_at hl 0 rfl) ?_
          refine va_get (D := (dC, dI)) (ci := 1) (v := .ref g5) (C := RR_M) (T := TT_M) (N := 33) hx hb hw hh_M hown hK hP 0 rfl rfl 5 (by decide) (hw _ qq_584) (fun _ h9 => h9) rfl dd_M_layBody_49 ?_
          refine lv_iload_n hx hb dd_M_layBody_52 rfl (lv_at hl 2 rfl) ?_
          refine va_iald hx hb hK hP 2 1 rfl rfl (vp_in_nI (by omega) (by decide)) dd_M_layBody_53 ?_
          refine lv_topi (fun z_43 hz_43 => ?_)
          obtain rfl : z_43 = fc a := hz_43.trans ((by rw [nI_clamp (by omega)]))
          refine lv_if_le (tgt := 63) hx hb dd_M_layBody_54 (by decide) (fun c_44 => ?_) (fun c_44 => ?_)
          · refine lv_iconst (v := 0) hx hb dd_M_layBody_63 (by decide) ?_
            refine lv_topi (fun z_45 hz_45 => ?_)
            obtain rfl : z_45 = (if onB ac cv a then nI (2 ^ a) else 0) := hz_45.trans ((by rw [if_neg (by have hz : ¬ 0 < cv a := fun z => absurd c_44 (by rw [(hcv a (by omega)).1]; exact nI_nle z (by have := (hcv a (by omega)).2; omega)); simp only [onB, Bool.and_eq_true, decide_eq_true_eq]; exact fun z => hz z.2)]))
            refine lv_iadd hx hb dd_M_layBody_64 ?_
            refine lv_topi (fun z_46 hz_46 => ?_)
            obtain rfl : z_46 = nI (bitsN ac cv (a + 1)) := hz_46.trans ((by rw [bitsN]; split <;> simp [nI_add, nI_0]))
            refine lv_istore_n (lv' := [(1, .int (nI (bitsN ac cv (a + 1)))), (0, .ref h), (2, .int (nI a))]) hx hb dd_M_layBody_65 rfl hl (by decide) rfl (fun ls hl => ?_)
            refine lv_iinc (v := (nI a) + 1) (lv' := [(2, .int ((nI a) + 1)), (1, .int (nI (bitsN ac cv (a + 1)))), (0, .ref h)]) hx hb dd_M_layBody_66 hl (k := 2) rfl rfl (by decide) rfl (fun ls hl => ?_)
            refine lv_goto (tgt := 33) hx hb dd_M_layBody_69 (by decide) ?_
            have e_47 : ((nI a) + 1 : Int32) = nI (a + 1) := nI_1 a
            have hl : lv_has ls 3 [(2, .int (nI (a + 1))), (1, .int (nI (bitsN ac cv (a + 1)))), (0, .ref h)] := by rw [← e_47]; exact hl
            exact ih (a + 1) (by omega) _ _ hP hD hS _ (lv_sub hl [2, 1, 0] rfl)
          · have hcp : 0 < cv a := by
              rcases Nat.eq_zero_or_pos (cv a) with z | z
              · exact absurd (by rw [(hcv a (by omega)).1, z]; decide) c_44
              · exact z
            refine lv_iconst (v := 1) hx hb dd_M_layBody_57 (by decide) ?_
            refine lv_iload_n hx hb dd_M_layBody_58 rfl (lv_at hl 2 rfl) ?_
            refine lv_ishl hx hb dd_M_layBody_59 ?_
            refine lv_goto (tgt := 64) hx hb dd_M_layBody_60 (by decide) ?_
            refine lv_topi (fun z_48 hz_48 => ?_)
            obtain rfl : z_48 = (if onB ac cv a then nI (2 ^ a) else 0) := hz_48.trans ((by rw [if_pos (by simp only [onB, Bool.and_eq_true, decide_eq_true_eq]; exact ⟨hna, hcp⟩)]; exact bit_shl a (by omega)))
            refine lv_iadd hx hb dd_M_layBody_64 ?_
            refine lv_topi (fun z_49 hz_49 => ?_)
            obtain rfl : z_49 = nI (bitsN ac cv (a + 1)) := hz_49.trans ((by rw [bitsN]; split <;> simp [nI_add, nI_0]))
            refine lv_istore_n (lv' := [(1, .int (nI (bitsN ac cv (a + 1)))), (0, .ref h), (2, .int (nI a))]) hx hb dd_M_layBody_65 rfl hl (by decide) rfl (fun ls hl => ?_)
            refine lv_iinc (v := (nI a) + 1) (lv' := [(2, .int ((nI a) + 1)), (1, .int (nI (bitsN ac cv (a + 1)))), (0, .ref h)]) hx hb dd_M_layBody_66 hl (k := 2) rfl rfl (by decide) rfl (fun ls hl => ?_)
            refine lv_goto (tgt := 33) hx hb dd_M_layBody_69 (by decide) ?_
            have e_50 : ((nI a) + 1 : Int32) = nI (a + 1) := nI_1 a
            have hl : lv_has ls 3 [(2, .int (nI (a + 1))), (1, .int (nI (bitsN ac cv (a + 1)))), (0, .ref h)] := by rw [← e_50]; exact hl
            exact ih (a + 1) (by omega) _ _ hP hD hS _ (lv_sub hl [2, 1, 0] rfl)
  exact lp_9 8 0 rfl _ _ hP hD hS _ (lv_sub hl [2, 1, 0] rfl)
end
section
set_option maxHeartbeats 4000000 in
set_option maxRecDepth 100000 in
/-- checkOf(row, from, to) -/
theorem cp_M_checkOf (l : Launch) (dC : Nat → ClassId) (dI : Nat → Nat → Nat) (cB cI cJ : ClassId) (q N : Nat) (f : Nat → Int32) (bs : List Int32) (hH : Hd bs f) (hN : bs.length ≤ N) (hN2 : N < 2147483648) (a0 n0 : Nat) (han : a0 + n0 ≤ bs.length) : Met l yy_M_checkOf (Cond.code yy_M_checkOf cc_M_checkOf 6 (some .int) :: gw) { frames := 0, cells := 0, slots := 0, locals := 0 } (va_Pc [.ref q, .int (nI a0), .int (nI (a0 + n0))] (kr_pre dC dI [(cB, .byte), (cI, .int), (cJ, .long)] [(q, .inl (cB, N, .inl f))])) (QcRead (crcR bs (-1) a0 n0 ^^^ (-1))) 0 0 (fun _ => False) := by
  refine Met.ofW (cc := cc_M_checkOf) (maxL := 6) (ret := (some .int)) (by decide) rfl ?_
  intro p e s m args below meth c s₁ B hml hv
  obtain ⟨rfl, hP, hK⟩ := hv
  have hx := B.exec
  have hb := B.bytes
  have hr := B.returns
  have hw : ∀ w ∈ gw, w.before _ s = true := fun w h => atoms_spec (ws := (Cond.code yy_M_checkOf cc_M_checkOf 6 (some .int) :: gw)) B.pre w (List.mem_cons_of_mem _ h)
  have hown : s.vm.findClass RR_M = some m.cls := findClass_of_methodNamed B.named
  have hlocks := B.notSynchronized
  have hP : va_P (dC, dI) vcl [(q, .inl (cB, N, .inl f))] s.heap := hP
  have hl := lv_entry ([.ref q, .int (nI a0), .int (nI (a0 + n0))]) (n := 6) (Nat.le_of_ble_eq_true rfl)
  rw [lg_entry_eq]
  generalize (lg_sl ([.ref q, .int (nI a0), .int (nI (a0 + n0))]) ++ List.replicate (6 - (lg_sl ([.ref q, .int (nI a0), .int (nI (a0 + n0))])).length) Slot.unset).toArray = ls at hl ⊢
  have hl : lv_has ls 6 [(0, .ref q), (1, .int (nI a0)), (2, .int (nI (a0 + n0)))] := hl
  refine lv_iconst (v := -1) hx hb dd_M_checkOf_0 (by decide) ?_
  refine lv_istore_n (lv' := [(3, .int (-1)), (0, .ref q), (1, .int (nI a0)), (2, .int (nI (a0 + n0)))]) hx hb dd_M_checkOf_1 rfl hl (by decide) rfl (fun ls hl => ?_)
  refine lv_iload_n hx hb dd_M_checkOf_2 rfl (lv_at hl 2 rfl) ?_
  refine lv_istore (lv' := [(4, .int (nI a0)), (3, .int (-1)), (0, .ref q), (1, .int (nI a0)), (2, .int (nI (a0 + n0)))]) hx hb dd_M_checkOf_3 hl (by decide) rfl (fun ls hl => ?_)
  have lp_1 : ∀ (k : Nat) (a : Nat) (c1 : Int32), (a + k = a0 + n0) → (crcR bs (-1) a0 n0 = crcR bs c1 a k) → ∀ ls : Array Slot, lv_has ls 6 [(0, .ref q), (1, .int (nI a0)), (2, .int (nI (a0 + n0))), (3, .int c1), (4, .int (nI a))] → W p l e (headSpec (Cond.code yy_M_checkOf cc_M_checkOf 6 (some .int) :: gw) { frames := 0, cells := 0, slots := 0, locals := 0 }).room s m ([.ref q, .int (nI a0), .int (nI (a0 + n0))] : List Value).toArray below meth c s.heap [] 0 0 (MQ below (QcRead (crcR bs (-1) a0 n0 ^^^ (-1))) ([.ref q, .int (nI a0), .int (nI (a0 + n0))] : List Value).toArray s 0 0 (fun _ => False)) (F0 m 5 ls []) := by
    intro k
    induction k with
    | zero =>
      intro a c1 hak hU ls hl
      refine lv_iload hx hb dd_M_checkOf_5 (lv_at hl 4 rfl) ?_
      refine lv_iload_n hx hb dd_M_checkOf_7 rfl (lv_at hl 2 rfl) ?_
      refine lv_icmp_ge (tgt := 64) hx hb dd_M_checkOf_8 (by decide) (fun c_2 => ?_) (fun c_2 => ?_)
      · refine lv_iload_n hx hb dd_M_checkOf_64 rfl (lv_at hl 3 rfl) ?_
        refine lv_iconst (v := -1) hx hb dd_M_checkOf_65 (by decide) ?_
        refine lv_ixor hx hb dd_M_checkOf_66 ?_
        refine lv_topi (fun z_3 hz_3 => ?_)
        obtain rfl : z_3 = crcR bs (-1) a0 n0 ^^^ (-1) := hz_3.trans ((by rw [hU, crcR]))
        exact W.iret (v := crcR bs (-1) a0 n0 ^^^ (-1)) hx hb hr (fun t ht hW => ⟨rfl, ht⟩) (fun q h => by cases h) dd_M_checkOf_67
      · exact absurd (nI_le (show a0 + n0 ≤ a by omega) (by omega)) c_2
    | succ k ih =>
      intro a c1 hak hU ls hl
      refine lv_iload hx hb dd_M_checkOf_5 (lv_at hl 4 rfl) ?_
      refine lv_iload_n hx hb dd_M_checkOf_7 rfl (lv_at hl 2 rfl) ?_
      refine lv_icmp_ge (tgt := 64) hx hb dd_M_checkOf_8 (by decide) (fun c_4 => ?_) (fun c_4 => ?_)
      · exact absurd c_4 (nI_ge (show a < a0 + n0 by omega) (by omega))
      · refine lv_iload_n hx hb dd_M_checkOf_11 rfl (lv_at hl 3 rfl) ?_
        refine lv_aload_n hx hb dd_M_checkOf_12 rfl (lv_at hl 0 rfl) ?_
        refine lv_iload hx hb dd_M_checkOf_13 (lv_at hl 4 rfl) ?_
        refine va_bald hx hb hK hP 0 0 rfl rfl (vp_in_nI (by omega) (by omega)) dd_M_checkOf_15 ?_
        refine lv_topi (fun z_5 hz_5 => ?_)
        obtain rfl : z_5 = f a := hz_5.trans ((by rw [nI_clamp (by omega)]))
        refine lv_sipush (v := 255) hx hb dd_M_checkOf_16 (by decide) ?_
        refine lv_iand hx hb dd_M_checkOf_19 ?_
        refine lv_topi (fun z_6 hz_6 => ?_)
        obtain rfl : z_6 = bs.getD a 0 &&& 255 := hz_6.trans ((by rw [hH a (by omega)]; exact by8_and _))
        refine lv_ixor hx hb dd_M_checkOf_20 ?_
        refine lv_istore_n (lv' := [(3, .int (c1 ^^^ (bs.getD a 0 &&& 255))), (0, .ref q), (1, .int (nI a0)), (2, .int (nI (a0 + n0))), (4, .int (nI a))]) hx hb dd_M_checkOf_21 rfl hl (by decide) rfl (fun ls hl => ?_)
        refine lv_iconst (v := 0) hx hb dd_M_checkOf_22 (by decide) ?_
        refine lv_istore (lv' := [(5, .int 0), (3, .int (c1 ^^^ (bs.getD a 0 &&& 255))), (0, .ref q), (1, .int (nI a0)), (2, .int (nI (a0 + n0))), (4, .int (nI a))]) hx hb dd_M_checkOf_23 hl (by decide) rfl (fun ls hl => ?_)
        have lp_7 : ∀ (k2 : Nat) (j : Nat) (c2 : Int32), (j + k2 = 8) → (crcN 8 (c1 ^^^ (bs.getD a 0 &&& 255)) = crcN k2 c2) → ∀ ls : Array Slot, lv_has ls 6 [(0, .ref q), (1, .int (nI a0)), (2, .int (nI (a0 + n0))), (3, .int c2), (4, .int (nI a)), (5, .int (nI j))] → W p l e (headSpec (Cond.code yy_M_checkOf cc_M_checkOf 6 (some .int) :: gw) { frames := 0, cells := 0, slots := 0, locals := 0 }).room s m ([.ref q, .int (nI a0), .int (nI (a0 + n0))] : List Value).toArray below meth c s.heap [] 0 0 (MQ below (QcRead (crcR bs (-1) a0 n0 ^^^ (-1))) ([.ref q, .int (nI a0), .int (nI (a0 + n0))] : List Value).toArray s 0 0 (fun _ => False)) (F0 m 25 ls []) := by
          intro k2
          induction k2 with
          | zero =>
            intro j c2 hjk hV ls hl
            refine lv_iload hx hb dd_M_checkOf_25 (lv_at hl 5 rfl) ?_
            refine lv_bipush (v := 8) hx hb dd_M_checkOf_27 (by decide) ?_
            refine lv_icmp_ge (tgt := 58) hx hb dd_M_checkOf_29 (by decide) (fun c_8 => ?_) (fun c_8 => ?_)
            · refine lv_iinc (v := (nI a) + 1) (lv' := [(4, .int ((nI a) + 1)), (0, .ref q), (1, .int (nI a0)), (2, .int (nI (a0 + n0))), (3, .int c2), (5, .int (nI j))]) hx hb dd_M_checkOf_58 hl (k := 4) rfl rfl (by decide) rfl (fun ls hl => ?_)
              refine lv_goto (tgt := 5) hx hb dd_M_checkOf_61 (by decide) ?_
              have e_9 : ((nI a) + 1 : Int32) = nI (a + 1) := nI_1 a
              have hl : lv_has ls 6 [(4, .int (nI (a + 1))), (0, .ref q), (1, .int (nI a0)), (2, .int (nI (a0 + n0))), (3, .int c2), (5, .int (nI j))] := by rw [← e_9]; exact hl
              exact ih (a + 1) c2 (by omega) (by rw [hU, crcR, hV, crcN]) _ (lv_sub hl [1, 2, 3, 4, 0] rfl)
            · exact absurd (nI_le (show 8 ≤ j by omega) (by omega)) c_8
          | succ k2 ih =>
            intro j c2 hjk hV ls hl
            refine lv_iload hx hb dd_M_checkOf_25 (lv_at hl 5 rfl) ?_
            refine lv_bipush (v := 8) hx hb dd_M_checkOf_27 (by decide) ?_
            refine lv_icmp_ge (tgt := 58) hx hb dd_M_checkOf_29 (by decide) (fun c_10 => ?_) (fun c_10 => ?_)
            · exact absurd c_10 (nI_ge (show j < 8 by omega) (by decide))
            · refine lv_iload_n hx hb dd_M_checkOf_32 rfl (lv_at hl 3 rfl) ?_
              refine lv_iconst (v := 1) hx hb dd_M_checkOf_33 (by decide) ?_
              refine lv_iand hx hb dd_M_checkOf_34 ?_
              refine lv_iconst (v := 1) hx hb dd_M_checkOf_35 (by decide) ?_
              refine lv_icmp_ne (tgt := 48) hx hb dd_M_checkOf_36 (by decide) (fun c_11 => ?_) (fun c_11 => ?_)
              · refine lv_iload_n hx hb dd_M_checkOf_48 rfl (lv_at hl 3 rfl) ?_
                refine lv_iconst (v := 1) hx hb dd_M_checkOf_49 (by decide) ?_
                refine lv_iushr (v := (c2.toUInt32 >>> ((1 : Int32).toUInt32 &&& Int32.toUInt32 31)).toInt32) hx hb dd_M_checkOf_50 rfl ?_
                refine lv_topi (fun z_12 hz_12 => ?_)
                obtain rfl : z_12 = crc1 c2 := hz_12.trans ((by rw [crc1, if_neg c_11]))
                refine lv_istore_n (lv' := [(3, .int (crc1 c2)), (0, .ref q), (1, .int (nI a0)), (2, .int (nI (a0 + n0))), (4, .int (nI a)), (5, .int (nI j))]) hx hb dd_M_checkOf_51 rfl hl (by decide) rfl (fun ls hl => ?_)
                refine lv_iinc (v := (nI j) + 1) (lv' := [(5, .int ((nI j) + 1)), (3, .int (crc1 c2)), (0, .ref q), (1, .int (nI a0)), (2, .int (nI (a0 + n0))), (4, .int (nI a))]) hx hb dd_M_checkOf_52 hl (k := 5) rfl rfl (by decide) rfl (fun ls hl => ?_)
                refine lv_goto (tgt := 25) hx hb dd_M_checkOf_55 (by decide) ?_
                have e_13 : ((nI j) + 1 : Int32) = nI (j + 1) := nI_1 j
                have hl : lv_has ls 6 [(5, .int (nI (j + 1))), (3, .int (crc1 c2)), (0, .ref q), (1, .int (nI a0)), (2, .int (nI (a0 + n0))), (4, .int (nI a))] := by rw [← e_13]; exact hl
                exact ih (j + 1) (crc1 c2) (by omega) (by rw [hV, crcN]) _ (lv_sub hl [2, 3, 4, 1, 5, 0] rfl)
              · refine lv_iload_n hx hb dd_M_checkOf_39 rfl (lv_at hl 3 rfl) ?_
                refine lv_iconst (v := 1) hx hb dd_M_checkOf_40 (by decide) ?_
                refine lv_iushr (v := (c2.toUInt32 >>> ((1 : Int32).toUInt32 &&& Int32.toUInt32 31)).toInt32) hx hb dd_M_checkOf_41 rfl ?_
                refine lv_ldc (v := -306674912) hx hb hown (hw _ qq_770) dd_M_checkOf_42 ?_
                refine lv_ixor hx hb dd_M_checkOf_44 ?_
                refine lv_goto (tgt := 51) hx hb dd_M_checkOf_45 (by decide) ?_
                refine lv_topi (fun z_14 hz_14 => ?_)
                obtain rfl : z_14 = crc1 c2 := hz_14.trans ((by rw [crc1, if_pos c_11]))
                refine lv_istore_n (lv' := [(3, .int (crc1 c2)), (0, .ref q), (1, .int (nI a0)), (2, .int (nI (a0 + n0))), (4, .int (nI a)), (5, .int (nI j))]) hx hb dd_M_checkOf_51 rfl hl (by decide) rfl (fun ls hl => ?_)
                refine lv_iinc (v := (nI j) + 1) (lv' := [(5, .int ((nI j) + 1)), (3, .int (crc1 c2)), (0, .ref q), (1, .int (nI a0)), (2, .int (nI (a0 + n0))), (4, .int (nI a))]) hx hb dd_M_checkOf_52 hl (k := 5) rfl rfl (by decide) rfl (fun ls hl => ?_)
                refine lv_goto (tgt := 25) hx hb dd_M_checkOf_55 (by decide) ?_
                have e_15 : ((nI j) + 1 : Int32) = nI (j + 1) := nI_1 j
                have hl : lv_has ls 6 [(5, .int (nI (j + 1))), (3, .int (crc1 c2)), (0, .ref q), (1, .int (nI a0)), (2, .int (nI (a0 + n0))), (4, .int (nI a))] := by rw [← e_15]; exact hl
                exact ih (j + 1) (crc1 c2) (by omega) (by rw [hV, crcN]) _ (lv_sub hl [2, 3, 4, 1, 5, 0] rfl)
        exact lp_7 8 0 _ rfl rfl _ (lv_sub hl [2, 3, 4, 1, 5, 0] rfl)
  exact lp_1 n0 a0 (-1) rfl rfl _ (lv_sub hl [2, 3, 4, 1, 0] rfl)

set_option maxHeartbeats 4000000 in
set_option maxRecDepth 100000 in
/-- thrown() -/
theorem cp_M_thrown (l : Launch) (dC : Nat → ClassId) (dI : Nat → Nat → Nat) (cB cI cJ : ClassId) (h : Nat) (g0 g1 g2 g3 g4 g6 g12 g13 g14 g16 g23 g25 g26 g27 g28 g30 g31 g32 : Int32) (g5 g7 g8 g9 g10 g11 g15 g17 g18 g19 g20 g21 g22 g24 g29 : Nat) : Met l yy_M_thrown (Cond.code yy_M_thrown cc_M_thrown 1 (some .int) :: gw) { frames := 0, cells := 0, slots := 0, locals := 0 } (va_Pc [.ref h] (kr_pre dC dI [(cB, .byte), (cI, .int), (cJ, .long)] [(h, .inr (1, [.int g0, .int g1, .int g2, .int g3, .int g4, .ref g5, .int g6, .ref g7, .ref g8, .ref g9, .ref g10, .ref g11, .int g12, .int g13, .int g14, .ref g15, .int g16, .ref g17, .ref g18, .ref g19, .ref g20, .ref g21, .ref g22, .int g23, .ref g24, .int g25, .int g26, .int g27, .int g28, .ref g29, .int g30, .int g31, .int g32]))])) (QcRead (g0)) 0 0 (fun _ => False) := by
  refine Met.ofW (cc := cc_M_thrown) (maxL := 1) (ret := (some .int)) (by decide) rfl ?_
  intro p e s m args below meth c s₁ B hml hv
  obtain ⟨rfl, hP, hK⟩ := hv
  have hx := B.exec
  have hb := B.bytes
  have hr := B.returns
  have hw : ∀ w ∈ gw, w.before _ s = true := fun w h => atoms_spec (ws := (Cond.code yy_M_thrown cc_M_thrown 1 (some .int) :: gw)) B.pre w (List.mem_cons_of_mem _ h)
  have hown : s.vm.findClass RR_M = some m.cls := findClass_of_methodNamed B.named
  have hlocks := B.notSynchronized
  have hP : va_P (dC, dI) vcl [(h, .inr (1, [.int g0, .int g1, .int g2, .int g3, .int g4, .ref g5, .int g6, .ref g7, .ref g8, .ref g9, .ref g10, .ref g11, .int g12, .int g13, .int g14, .ref g15, .int g16, .ref g17, .ref g18, .ref g19, .ref g20, .ref g21, .ref g22, .int g23, .ref g24, .int g25, .int g26, .int g27, .int g28, .ref g29, .int g30, .int g31, .int g32]))] s.heap := hP
  have hl := lv_entry ([.ref h]) (n := 1) (Nat.le_of_ble_eq_true rfl)
  rw [lg_entry_eq]
  generalize (lg_sl ([.ref h]) ++ List.replicate (1 - (lg_sl ([.ref h])).length) Slot.unset).toArray = ls at hl ⊢
  have hl : lv_has ls 1 [(0, .ref h)] := hl
  refine lv_aload_n hx hb dd_M_thrown_0 rfl (lv_at hl 0 rfl) ?_
  refine va_get (D := (dC, dI)) (ci := 1) (v := .int g0) (C := RR_M) (T := TT_M) (N := 33) hx hb hw hh_M hown hK hP 0 rfl rfl 0 (by decide) (hw _ qq_579) (fun _ h9 => h9) rfl dd_M_thrown_1 ?_
  exact W.iret (v := g0) hx hb hr (fun t ht hW => ⟨rfl, ht⟩) (fun q h => by cases h) dd_M_thrown_4

set_option maxHeartbeats 4000000 in
set_option maxRecDepth 100000 in
/-- ahead() -/
theorem cp_M_ahead (l : Launch) (dC : Nat → ClassId) (dI : Nat → Nat → Nat) (cB cI cJ : ClassId) (h : Nat) (g0 g1 g2 g3 g4 g6 g12 g13 g14 g16 g23 g25 g26 g27 g28 g31 g32 : Int32) (g5 g7 g8 g9 g10 g11 g15 g17 g18 g19 g20 g21 g22 g24 g29 : Nat) (n : Nat) (hn : n < 2147483648) : Met l yy_M_ahead (Cond.code yy_M_ahead cc_M_ahead 1 (some .int) :: gw) { frames := 0, cells := 0, slots := 0, locals := 0 } (va_Pc [.ref h] (kr_pre dC dI [(cB, .byte), (cI, .int), (cJ, .long)] [(h, .inr (1, [.int g0, .int g1, .int g2, .int g3, .int g4, .ref g5, .int g6, .ref g7, .ref g8, .ref g9, .ref g10, .ref g11, .int g12, .int g13, .int g14, .ref g15, .int g16, .ref g17, .ref g18, .ref g19, .ref g20, .ref g21, .ref g22, .int g23, .ref g24, .int g25, .int g26, .int g27, .int g28, .ref g29, .int (nI n), .int g31, .int g32]))])) (QcRead ((if n < 128 then 1 else 2))) 0 0 (fun _ => False) := by
  refine Met.ofW (cc := cc_M_ahead) (maxL := 1) (ret := (some .int)) (by decide) rfl ?_
  intro p e s m args below meth c s₁ B hml hv
  obtain ⟨rfl, hP, hK⟩ := hv
  have hx := B.exec
  have hb := B.bytes
  have hr := B.returns
  have hw : ∀ w ∈ gw, w.before _ s = true := fun w h => atoms_spec (ws := (Cond.code yy_M_ahead cc_M_ahead 1 (some .int) :: gw)) B.pre w (List.mem_cons_of_mem _ h)
  have hown : s.vm.findClass RR_M = some m.cls := findClass_of_methodNamed B.named
  have hlocks := B.notSynchronized
  have hP : va_P (dC, dI) vcl [(h, .inr (1, [.int g0, .int g1, .int g2, .int g3, .int g4, .ref g5, .int g6, .ref g7, .ref g8, .ref g9, .ref g10, .ref g11, .int g12, .int g13, .int g14, .ref g15, .int g16, .ref g17, .ref g18, .ref g19, .ref g20, .ref g21, .ref g22, .int g23, .ref g24, .int g25, .int g26, .int g27, .int g28, .ref g29, .int (nI n), .int g31, .int g32]))] s.heap := hP
  have hl := lv_entry ([.ref h]) (n := 1) (Nat.le_of_ble_eq_true rfl)
  rw [lg_entry_eq]
  generalize (lg_sl ([.ref h]) ++ List.replicate (1 - (lg_sl ([.ref h])).length) Slot.unset).toArray = ls at hl ⊢
  have hl : lv_has ls 1 [(0, .ref h)] := hl
  refine lv_aload_n hx hb dd_M_ahead_0 rfl (lv_at hl 0 rfl) ?_
  refine va_get (D := (dC, dI)) (ci := 1) (v := .int (nI n)) (C := RR_M) (T := TT_M) (N := 33) hx hb hw hh_M hown hK hP 0 rfl rfl 30 (by decide) (hw _ qq_609) (fun _ h9 => h9) rfl dd_M_ahead_1 ?_
  refine lv_bipush (v := 127) hx hb dd_M_ahead_4 (by decide) ?_
  refine lv_icmp_le (tgt := 13) hx hb dd_M_ahead_6 (by decide) (fun c_1 => ?_) (fun c_1 => ?_)
  · refine lv_iconst (v := 1) hx hb dd_M_ahead_13 (by decide) ?_
    refine lv_topi (fun z_2 hz_2 => ?_)
    obtain rfl : z_2 = (if n < 128 then 1 else 2) := hz_2.trans ((by rw [if_pos ((nI_127 (by omega)).mp c_1)]))
    exact W.iret (v := (if n < 128 then 1 else 2)) hx hb hr (fun t ht hW => ⟨rfl, ht⟩) (fun q h => by cases h) dd_M_ahead_14
  · refine lv_iconst (v := 2) hx hb dd_M_ahead_9 (by decide) ?_
    refine lv_goto (tgt := 14) hx hb dd_M_ahead_10 (by decide) ?_
    refine lv_topi (fun z_3 hz_3 => ?_)
    obtain rfl : z_3 = (if n < 128 then 1 else 2) := hz_3.trans ((by rw [if_neg (fun z => c_1 ((nI_127 (by omega)).mpr z))]))
    exact W.iret (v := (if n < 128 then 1 else 2)) hx hb hr (fun t ht hW => ⟨rfl, ht⟩) (fun q h => by cases h) dd_M_ahead_14

set_option maxHeartbeats 4000000 in
set_option maxRecDepth 100000 in
/-- isIn(i) -/
theorem cp_M_isIn (l : Launch) (dC : Nat → ClassId) (dI : Nat → Nat → Nat) (cB cI cJ : ClassId) (h : Nat) (g0 g1 g2 g3 g4 g6 g12 g13 g14 g16 g23 g25 g26 g27 g28 g30 g31 g32 : Int32) (g5 g7 g8 g9 g10 g11 g15 g17 g18 g19 g20 g21 g22 g24 g29 : Nat) (p0 : Int32) : Met l yy_M_isIn (Cond.code yy_M_isIn cc_M_isIn 2 (some .boolean) :: gw) { frames := 0, cells := 0, slots := 0, locals := 0 } (va_Pc [.ref h, .int p0] (kr_pre dC dI [(cB, .byte), (cI, .int), (cJ, .long)] [(h, .inr (1, [.int g0, .int g1, .int g2, .int g3, .int g4, .ref g5, .int g6, .ref g7, .ref g8, .ref g9, .ref g10, .ref g11, .int g12, .int g13, .int g14, .ref g15, .int g16, .ref g17, .ref g18, .ref g19, .ref g20, .ref g21, .ref g22, .int g23, .ref g24, .int g25, .int g26, .int g27, .int g28, .ref g29, .int g30, .int g31, .int g32]))])) (QcRead (b2i (decide (¬ g1 = 0 ∧ ¬ p0 < 0 ∧ ¬ g6 ≤ p0)))) 0 0 (fun _ => False) := by
  refine Met.ofW (cc := cc_M_isIn) (maxL := 2) (ret := (some .boolean)) (by decide) rfl ?_
  intro p e s m args below meth c s₁ B hml hv
  obtain ⟨rfl, hP, hK⟩ := hv
  have hx := B.exec
  have hb := B.bytes
  have hr := B.returns
  have hw : ∀ w ∈ gw, w.before _ s = true := fun w h => atoms_spec (ws := (Cond.code yy_M_isIn cc_M_isIn 2 (some .boolean) :: gw)) B.pre w (List.mem_cons_of_mem _ h)
  have hown : s.vm.findClass RR_M = some m.cls := findClass_of_methodNamed B.named
  have hlocks := B.notSynchronized
  have hP : va_P (dC, dI) vcl [(h, .inr (1, [.int g0, .int g1, .int g2, .int g3, .int g4, .ref g5, .int g6, .ref g7, .ref g8, .ref g9, .ref g10, .ref g11, .int g12, .int g13, .int g14, .ref g15, .int g16, .ref g17, .ref g18, .ref g19, .ref g20, .ref g21, .ref g22, .int g23, .ref g24, .int g25, .int g26, .int g27, .int g28, .ref g29, .int g30, .int g31, .int g32]))] s.heap := hP
  have hl := lv_entry ([.ref h, .int p0]) (n := 2) (Nat.le_of_ble_eq_true rfl)
  rw [lg_entry_eq]
  generalize (lg_sl ([.ref h, .int p0]) ++ List.replicate (2 - (lg_sl ([.ref h, .int p0])).length) Slot.unset).toArray = ls at hl ⊢
  have hl : lv_has ls 2 [(0, .ref h), (1, .int p0)] := hl
  refine lv_aload_n hx hb dd_M_isIn_0 rfl (lv_at hl 0 rfl) ?_
  refine va_get (D := (dC, dI)) (ci := 1) (v := .int g1) (C := RR_M) (T := TT_M) (N := 33) hx hb hw hh_M hown hK hP 0 rfl rfl 1 (by decide) (hw _ qq_580) (fun _ h9 => h9) rfl dd_M_isIn_1 ?_
  refine lv_if_eq (tgt := 23) hx hb dd_M_isIn_4 (by decide) (fun c_1 => ?_) (fun c_1 => ?_)
  · refine lv_iconst (v := 0) hx hb dd_M_isIn_23 (by decide) ?_
    refine lv_topi (fun z_2 hz_2 => ?_)
    obtain rfl : z_2 = b2i (decide (¬ g1 = 0 ∧ ¬ p0 < 0 ∧ ¬ g6 ≤ p0)) := hz_2.trans (b2i_f (by simp [c_1]))
    exact W.zret (ty := .boolean) (v := b2i (decide (¬ g1 = 0 ∧ ¬ p0 < 0 ∧ ¬ g6 ≤ p0))) hx hb hr (b2i_n _) (fun t ht hW => ⟨rfl, ht⟩) (fun q h => by cases h) dd_M_isIn_24
  · refine lv_iload_n hx hb dd_M_isIn_7 rfl (lv_at hl 1 rfl) ?_
    refine lv_if_lt (tgt := 23) hx hb dd_M_isIn_8 (by decide) (fun c_3 => ?_) (fun c_3 => ?_)
    · refine lv_iconst (v := 0) hx hb dd_M_isIn_23 (by decide) ?_
      refine lv_topi (fun z_4 hz_4 => ?_)
      obtain rfl : z_4 = b2i (decide (¬ g1 = 0 ∧ ¬ p0 < 0 ∧ ¬ g6 ≤ p0)) := hz_4.trans (b2i_f (by simp [c_1, c_3]))
      exact W.zret (ty := .boolean) (v := b2i (decide (¬ g1 = 0 ∧ ¬ p0 < 0 ∧ ¬ g6 ≤ p0))) hx hb hr (b2i_n _) (fun t ht hW => ⟨rfl, ht⟩) (fun q h => by cases h) dd_M_isIn_24
    · refine lv_iload_n hx hb dd_M_isIn_11 rfl (lv_at hl 1 rfl) ?_
      refine lv_aload_n hx hb dd_M_isIn_12 rfl (lv_at hl 0 rfl) ?_
      refine va_get (D := (dC, dI)) (ci := 1) (v := .int g6) (C := RR_M) (T := TT_M) (N := 33) hx hb hw hh_M hown hK hP 0 rfl rfl 6 (by decide) (hw _ qq_585) (fun _ h9 => h9) rfl dd_M_isIn_13 ?_
      refine lv_icmp_ge (tgt := 23) hx hb dd_M_isIn_16 (by decide) (fun c_5 => ?_) (fun c_5 => ?_)
      · refine lv_iconst (v := 0) hx hb dd_M_isIn_23 (by decide) ?_
        refine lv_topi (fun z_6 hz_6 => ?_)
        obtain rfl : z_6 = b2i (decide (¬ g1 = 0 ∧ ¬ p0 < 0 ∧ ¬ g6 ≤ p0)) := hz_6.trans (b2i_f (by simp [c_1, c_3, c_5]))
        exact W.zret (ty := .boolean) (v := b2i (decide (¬ g1 = 0 ∧ ¬ p0 < 0 ∧ ¬ g6 ≤ p0))) hx hb hr (b2i_n _) (fun t ht hW => ⟨rfl, ht⟩) (fun q h => by cases h) dd_M_isIn_24
      · refine lv_iconst (v := 1) hx hb dd_M_isIn_19 (by decide) ?_
        refine lv_goto (tgt := 24) hx hb dd_M_isIn_20 (by decide) ?_
        refine lv_topi (fun z_7 hz_7 => ?_)
        obtain rfl : z_7 = b2i (decide (¬ g1 = 0 ∧ ¬ p0 < 0 ∧ ¬ g6 ≤ p0)) := hz_7.trans (b2i_t (by simp [c_1, c_3, c_5]))
        exact W.zret (ty := .boolean) (v := b2i (decide (¬ g1 = 0 ∧ ¬ p0 < 0 ∧ ¬ g6 ≤ p0))) hx hb hr (b2i_n _) (fun t ht hW => ⟨rfl, ht⟩) (fun q h => by cases h) dd_M_isIn_24

set_option maxHeartbeats 4000000 in
set_option maxRecDepth 100000 in
/-- clear() -/
theorem cb_M_clear (l : Launch) (dC : Nat → ClassId) (dI : Nat → Nat → Nat) (cB cI cJ : ClassId) (sz : Nat) (h : Nat) (g0 g1 g2 g3 g4 g6 g12 g13 g14 g16 g23 g25 g26 g27 g28 g30 g31 g32 : Int32) (g5 g7 g8 g9 g10 g11 g15 g17 g18 g19 g20 g21 g22 g24 g29 : Nat) : Met l yy_M_clear (Cond.code yy_M_clear cc_M_clear 1 none :: gw) { frames := 0, cells := 0, slots := 0, locals := 0 } (va_Pc [.ref h] (ks_pre dC dI [(cB, .byte), (cI, .int), (cJ, .long)] [(h, .inr (1, [.int g0, .int g1, .int g2, .int g3, .int g4, .ref g5, .int g6, .ref g7, .ref g8, .ref g9, .ref g10, .ref g11, .int g12, .int g13, .int g14, .ref g15, .int g16, .ref g17, .ref g18, .ref g19, .ref g20, .ref g21, .ref g22, .int g23, .ref g24, .int g25, .int g26, .int g27, .int g28, .ref g29, .int g30, .int g31, .int g32]))] sz)) (va_Qv (fun (_u : Unit) => True) (fun (_u : Unit) => ks_post dC dI [(cB, .byte), (cI, .int), (cJ, .long)] (va_A [(h, .inr (1, [.int g0, .int g1, .int g2, .int g3, .int g4, .ref g5, .int g6, .ref g7, .ref g8, .ref g9, .ref g10, .ref g11, .int g12, .int g13, .int g14, .ref g15, .int g16, .ref g17, .ref g18, .ref g19, .ref g20, .ref g21, .ref g22, .int g23, .ref g24, .int g25, .int g26, .int g27, .int g28, .ref g29, .int g30, .int g31, .int g32]))] sz) [(h, .inr (1, [.int 0, .int g1, .int g2, .int g3, .int g4, .ref g5, .int g6, .ref g7, .ref g8, .ref g9, .ref g10, .ref g11, .int g12, .int g13, .int g14, .ref g15, .int g16, .ref g17, .ref g18, .ref g19, .ref g20, .ref g21, .ref g22, .int 0, .ref g24, .int g25, .int g26, .int g27, .int g28, .ref g29, .int g30, .int g31, .int g32]))]) (va_A [(h, .inr (1, [.int g0, .int g1, .int g2, .int g3, .int g4, .ref g5, .int g6, .ref g7, .ref g8, .ref g9, .ref g10, .ref g11, .int g12, .int g13, .int g14, .ref g15, .int g16, .ref g17, .ref g18, .ref g19, .ref g20, .ref g21, .ref g22, .int g23, .ref g24, .int g25, .int g26, .int g27, .int g28, .ref g29, .int g30, .int g31, .int g32]))] sz)) 0 0 (va_A [(h, .inr (1, [.int g0, .int g1, .int g2, .int g3, .int g4, .ref g5, .int g6, .ref g7, .ref g8, .ref g9, .ref g10, .ref g11, .int g12, .int g13, .int g14, .ref g15, .int g16, .ref g17, .ref g18, .ref g19, .ref g20, .ref g21, .ref g22, .int g23, .ref g24, .int g25, .int g26, .int g27, .int g28, .ref g29, .int g30, .int g31, .int g32]))] sz) := by
  refine Met.ofW (cc := cc_M_clear) (maxL := 1) (ret := none) (by decide) rfl ?_
  intro p e s m args below meth c s₁ B hml hv
  obtain ⟨rfl, hsz, hP, hK, hD0⟩ := hv
  have hx := B.exec
  have hb := B.bytes
  have hr := B.returns
  have hw : ∀ w ∈ gw, w.before _ s = true := fun w h => atoms_spec (ws := (Cond.code yy_M_clear cc_M_clear 1 none :: gw)) B.pre w (List.mem_cons_of_mem _ h)
  have hown : s.vm.findClass RR_M = some m.cls := findClass_of_methodNamed B.named
  have hlocks := B.notSynchronized
  subst hsz
  have hD := hD0.self (sz := s.heap.size)
  generalize hAe : va_A [(h, .inr (1, [.int g0, .int g1, .int g2, .int g3, .int g4, .ref g5, .int g6, .ref g7, .ref g8, .ref g9, .ref g10, .ref g11, .int g12, .int g13, .int g14, .ref g15, .int g16, .ref g17, .ref g18, .ref g19, .ref g20, .ref g21, .ref g22, .int g23, .ref g24, .int g25, .int g26, .int g27, .int g28, .ref g29, .int g30, .int g31, .int g32]))] s.heap.size = A at hD ⊢
  have hA : ∀ q : Nat, s.heap.size ≤ q → A q := fun q h => by rw [← hAe]; exact Or.inr h
  have hS : va_S A s.heap s.heap [] := va_S.rf
  have hP : va_P (dC, dI) vcl [(h, .inr (1, [.int g0, .int g1, .int g2, .int g3, .int g4, .ref g5, .int g6, .ref g7, .ref g8, .ref g9, .ref g10, .ref g11, .int g12, .int g13, .int g14, .ref g15, .int g16, .ref g17, .ref g18, .ref g19, .ref g20, .ref g21, .ref g22, .int g23, .ref g24, .int g25, .int g26, .int g27, .int g28, .ref g29, .int g30, .int g31, .int g32]))] s.heap := hP
  have hl := lv_entry ([.ref h]) (n := 1) (Nat.le_of_ble_eq_true rfl)
  rw [lg_entry_eq]
  generalize (lg_sl ([.ref h]) ++ List.replicate (1 - (lg_sl ([.ref h])).length) Slot.unset).toArray = ls at hl ⊢
  have hl : lv_has ls 1 [(0, .ref h)] := hl
  refine lv_aload_n hx hb dd_M_clear_0 rfl (lv_at hl 0 rfl) ?_
  refine lv_iconst (v := 0) hx hb dd_M_clear_1 (by decide) ?_
  refine va_put (D := (dC, dI)) (ci := 1) (v := .int 0) (ty := .int) (C := RR_M) (T := TT_M) (N := 33) hx hb hw hh_M ty_M ty_M_ok nm_M hown hK hP hD hS 0 rfl rfl 0 (by decide) (hw _ qq_579) (fun _ h9 => h9) rfl (by decide +kernel) rfl rfl (Nat.le_of_ble_eq_true rfl) dd_M_clear_2 (fun H locs hP hD hS => ?_)
  have hP : va_P (dC, dI) vcl [(h, .inr (1, [.int 0, .int g1, .int g2, .int g3, .int g4, .ref g5, .int g6, .ref g7, .ref g8, .ref g9, .ref g10, .ref g11, .int g12, .int g13, .int g14, .ref g15, .int g16, .ref g17, .ref g18, .ref g19, .ref g20, .ref g21, .ref g22, .int g23, .ref g24, .int g25, .int g26, .int g27, .int g28, .ref g29, .int g30, .int g31, .int g32]))] H := hP
  have hD : va_D A [(h, .inr (1, [.int 0, .int g1, .int g2, .int g3, .int g4, .ref g5, .int g6, .ref g7, .ref g8, .ref g9, .ref g10, .ref g11, .int g12, .int g13, .int g14, .ref g15, .int g16, .ref g17, .ref g18, .ref g19, .ref g20, .ref g21, .ref g22, .int g23, .ref g24, .int g25, .int g26, .int g27, .int g28, .ref g29, .int g30, .int g31, .int g32]))] := hD
  refine lv_aload_n hx hb dd_M_clear_5 rfl (lv_at hl 0 rfl) ?_
  refine lv_iconst (v := 0) hx hb dd_M_clear_6 (by decide) ?_
  refine va_put (D := (dC, dI)) (ci := 1) (v := .int 0) (ty := .int) (C := RR_M) (T := TT_M) (N := 33) hx hb hw hh_M ty_M ty_M_ok nm_M hown hK hP hD hS 0 rfl rfl 23 (by decide) (hw _ qq_602) (fun _ h9 => h9) rfl (by decide +kernel) rfl rfl (Nat.le_of_ble_eq_true rfl) dd_M_clear_7 (fun H locs hP hD hS => ?_)
  have hP : va_P (dC, dI) vcl [(h, .inr (1, [.int 0, .int g1, .int g2, .int g3, .int g4, .ref g5, .int g6, .ref g7, .ref g8, .ref g9, .ref g10, .ref g11, .int g12, .int g13, .int g14, .ref g15, .int g16, .ref g17, .ref g18, .ref g19, .ref g20, .ref g21, .ref g22, .int 0, .ref g24, .int g25, .int g26, .int g27, .int g28, .ref g29, .int g30, .int g31, .int g32]))] H := hP
  have hD : va_D A [(h, .inr (1, [.int 0, .int g1, .int g2, .int g3, .int g4, .ref g5, .int g6, .ref g7, .ref g8, .ref g9, .ref g10, .ref g11, .int g12, .int g13, .int g14, .ref g15, .int g16, .ref g17, .ref g18, .ref g19, .ref g20, .ref g21, .ref g22, .int 0, .ref g24, .int g25, .int g26, .int g27, .int g28, .ref g29, .int g30, .int g31, .int g32]))] := hD
  have hP9 := hP.sub (ws' := [(h, .inr (1, [.int 0, .int g1, .int g2, .int g3, .int g4, .ref g5, .int g6, .ref g7, .ref g8, .ref g9, .ref g10, .ref g11, .int g12, .int g13, .int g14, .ref g15, .int g16, .ref g17, .ref g18, .ref g19, .ref g20, .ref g21, .ref g22, .int 0, .ref g24, .int g25, .int g26, .int g27, .int g28, .ref g29, .int g30, .int g31, .int g32]))]) [0] rfl
  have hD9 := hD.sub (ws' := [(h, .inr (1, [.int 0, .int g1, .int g2, .int g3, .int g4, .ref g5, .int g6, .ref g7, .ref g8, .ref g9, .ref g10, .ref g11, .int g12, .int g13, .int g14, .ref g15, .int g16, .ref g17, .ref g18, .ref g19, .ref g20, .ref g21, .ref g22, .int 0, .ref g24, .int g25, .int g26, .int g27, .int g28, .ref g29, .int g30, .int g31, .int g32]))]) [0] (by decide) rfl
  refine W.widen (k := 0) (n := 0) (by first | exact Nat.le_refl _ | omega) (by first | exact Nat.le_refl _ | omega) ?_
  exact W.vret hx hb hr (fun t ht hW => ⟨⟨(), rfl, trivial, by rw [ht]; exact hP9, va_K.moved hW.alike hK, hD9⟩, hS.F ht⟩) hS.2.2 dd_M_clear_10
end
section
set_option maxHeartbeats 4000000 in
set_option maxRecDepth 100000 in
/-- begin(a, s, c) as it should be -/
theorem cb_M_begin_y (l : Launch) (dC : Nat → ClassId) (dI : Nat → Nat → Nat) (cB cI cJ : ClassId) (sz : Nat) (h : Nat) (g0 g1 g2 g3 g4 g6 g12 g13 g14 g16 g23 g25 g26 g27 g28 g30 g31 g32 : Int32) (g5 g7 g8 g9 g10 g11 g15 g17 g18 g19 g20 g21 g22 g24 g29 : Nat) (fc : Nat → Int32) (p0 p1 p2 : Int32) (hC : ((¬ p0 < 0 ∧ ¬ 8 ≤ p0) ∧ ¬ p1 < 1 ∧ ¬ 10000 < p1 ∧ ¬ p2 < 1 ∧ ¬ 100000 < p2)) : Met l yy_M_begin (Cond.code yy_M_begin cc_M_begin 5 none :: gw) { frames := 1, cells := 0, slots := 0, locals := 20 } (va_Pc [.ref h, .int p0, .int p1, .int p2] (ks_pre dC dI [(cB, .byte), (cI, .int), (cJ, .long)] [(h, .inr (1, [.int g0, .int g1, .int g2, .int g3, .int g4, .ref g5, .int g6, .ref g7, .ref g8, .ref g9, .ref g10, .ref g11, .int g12, .int g13, .int g14, .ref g15, .int g16, .ref g17, .ref g18, .ref g19, .ref g20, .ref g21, .ref g22, .int g23, .ref g24, .int g25, .int g26, .int g27, .int g28, .ref g29, .int g30, .int g31, .int g32])), (g5, .inl (cI, 8, .inl fc))] sz)) (va_Qv (fun (u : Nat → Int32) => ∀ j, j < 8 → u j = if nI j = p0 then p1 - 1 else 0) (fun (u : Nat → Int32) => ks_post dC dI [(cB, .byte), (cI, .int), (cJ, .long)] (va_A [(h, .inr (1, [.int g0, .int g1, .int g2, .int g3, .int g4, .ref g5, .int g6, .ref g7, .ref g8, .ref g9, .ref g10, .ref g11, .int g12, .int g13, .int g14, .ref g15, .int g16, .ref g17, .ref g18, .ref g19, .ref g20, .ref g21, .ref g22, .int g23, .ref g24, .int g25, .int g26, .int g27, .int g28, .ref g29, .int g30, .int g31, .int g32])), (g5, .inl (cI, 8, .inl fc))] sz) [(h, .inr (1, [.int 0, .int 1, .int p0, .int p1, .int p2, .ref g5, .int 0, .ref g7, .ref g8, .ref g9, .ref g10, .ref g11, .int g12, .int g13, .int g14, .ref g15, .int g16, .ref g17, .ref g18, .ref g19, .ref g20, .ref g21, .ref g22, .int g23, .ref g24, .int g25, .int g26, .int g27, .int g28, .ref g29, .int g30, .int g31, .int g32])), (g5, .inl (cI, 8, .inl u))]) (va_A [(h, .inr (1, [.int g0, .int g1, .int g2, .int g3, .int g4, .ref g5, .int g6, .ref g7, .ref g8, .ref g9, .ref g10, .ref g11, .int g12, .int g13, .int g14, .ref g15, .int g16, .ref g17, .ref g18, .ref g19, .ref g20, .ref g21, .ref g22, .int g23, .ref g24, .int g25, .int g26, .int g27, .int g28, .ref g29, .int g30, .int g31, .int g32])), (g5, .inl (cI, 8, .inl fc))] sz)) 0 0 (va_A [(h, .inr (1, [.int g0, .int g1, .int g2, .int g3, .int g4, .ref g5, .int g6, .ref g7, .ref g8, .ref g9, .ref g10, .ref g11, .int g12, .int g13, .int g14, .ref g15, .int g16, .ref g17, .ref g18, .ref g19, .ref g20, .ref g21, .ref g22, .int g23, .ref g24, .int g25, .int g26, .int g27, .int g28, .ref g29, .int g30, .int g31, .int g32])), (g5, .inl (cI, 8, .inl fc))] sz) := by
  refine Met.ofW (cc := cc_M_begin) (maxL := 5) (ret := none) (by decide) rfl ?_
  intro p e s m args below meth c s₁ B hml hv
  obtain ⟨rfl, hsz, hP, hK, hD0⟩ := hv
  have hx := B.exec
  have hb := B.bytes
  have hr := B.returns
  have hw : ∀ w ∈ gw, w.before _ s = true := fun w h => atoms_spec (ws := (Cond.code yy_M_begin cc_M_begin 5 none :: gw)) B.pre w (List.mem_cons_of_mem _ h)
  have hown : s.vm.findClass RR_M = some m.cls := findClass_of_methodNamed B.named
  have hlocks := B.notSynchronized
  subst hsz
  have hD := hD0.self (sz := s.heap.size)
  generalize hAe : va_A [(h, .inr (1, [.int g0, .int g1, .int g2, .int g3, .int g4, .ref g5, .int g6, .ref g7, .ref g8, .ref g9, .ref g10, .ref g11, .int g12, .int g13, .int g14, .ref g15, .int g16, .ref g17, .ref g18, .ref g19, .ref g20, .ref g21, .ref g22, .int g23, .ref g24, .int g25, .int g26, .int g27, .int g28, .ref g29, .int g30, .int g31, .int g32])), (g5, .inl (cI, 8, .inl fc))] s.heap.size = A at hD ⊢
  have hA : ∀ q : Nat, s.heap.size ≤ q → A q := fun q h => by rw [← hAe]; exact Or.inr h
  have hS : va_S A s.heap s.heap [] := va_S.rf
  have hP : va_P (dC, dI) vcl [(h, .inr (1, [.int g0, .int g1, .int g2, .int g3, .int g4, .ref g5, .int g6, .ref g7, .ref g8, .ref g9, .ref g10, .ref g11, .int g12, .int g13, .int g14, .ref g15, .int g16, .ref g17, .ref g18, .ref g19, .ref g20, .ref g21, .ref g22, .int g23, .ref g24, .int g25, .int g26, .int g27, .int g28, .ref g29, .int g30, .int g31, .int g32])), (g5, .inl (cI, 8, .inl fc))] s.heap := hP
  have hl := lv_entry ([.ref h, .int p0, .int p1, .int p2]) (n := 5) (Nat.le_of_ble_eq_true rfl)
  rw [lg_entry_eq]
  generalize (lg_sl ([.ref h, .int p0, .int p1, .int p2]) ++ List.replicate (5 - (lg_sl ([.ref h, .int p0, .int p1, .int p2])).length) Slot.unset).toArray = ls at hl ⊢
  have hl : lv_has ls 5 [(0, .ref h), (1, .int p0), (2, .int p1), (3, .int p2)] := hl
  refine lv_aload_n hx hb dd_M_begin_0 rfl (lv_at hl 0 rfl) ?_
  refine lv_iload_n hx hb dd_M_begin_1 rfl (lv_at hl 1 rfl) ?_
  refine W.callR (W.runS (As := [.int p0]) (rest := [.ref h]) ⟨hx, hb, hml, hown, hw⟩ (cp_M_isActor l p0) (kw_S 1 hw qq_687 qq_5 qq_689 qq_688 rfl rfl (by decide +kernel) ⟨Nat.le_of_ble_eq_true rfl, Nat.le_of_ble_eq_true rfl⟩) ⟨fun a U g mk q => ⟨q.1, trivial⟩, fun U hU hW => ⟨rfl, trivial⟩⟩ rfl rfl hl.1 rfl (lv_room (Nat.le_of_ble_eq_true rfl)) dd_M_begin_2 ⟨by first | exact Nat.le_of_ble_eq_true rfl | (simp only [headSpec]; omega), by first | exact Nat.le_of_ble_eq_true rfl | (simp only [headSpec]; omega)⟩) ?_
  refine W.eq (g2 := F0 m 5 ls [.int (b2i (decide (¬ p0 < 0 ∧ ¬ 8 ≤ p0))), .ref h]) rfl ?_
  refine lv_if_eq (tgt := 35) hx hb dd_M_begin_5 (by decide) (fun c_1 => ?_) (fun c_1 => ?_)
  · have c_1 := b2i_1.mp c_1
    exact absurd hC (by rintro ⟨z0, z1, z2, z3, z4⟩; contradiction)
  · have c_1 := Classical.not_not.mp (mt b2i_1.mpr c_1)
    refine lv_iload_n hx hb dd_M_begin_8 rfl (lv_at hl 2 rfl) ?_
    refine lv_iconst (v := 1) hx hb dd_M_begin_9 (by decide) ?_
    refine lv_icmp_lt (tgt := 35) hx hb dd_M_begin_10 (by decide) (fun c_2 => ?_) (fun c_2 => ?_)
    · exact absurd hC (by rintro ⟨z0, z1, z2, z3, z4⟩; contradiction)
    · refine lv_iload_n hx hb dd_M_begin_13 rfl (lv_at hl 2 rfl) ?_
      refine lv_sipush (v := 10000) hx hb dd_M_begin_14 (by decide) ?_
      refine lv_icmp_gt (tgt := 35) hx hb dd_M_begin_17 (by decide) (fun c_3 => ?_) (fun c_3 => ?_)
      · exact absurd hC (by rintro ⟨z0, z1, z2, z3, z4⟩; contradiction)
      · refine lv_iload_n hx hb dd_M_begin_20 rfl (lv_at hl 3 rfl) ?_
        refine lv_iconst (v := 1) hx hb dd_M_begin_21 (by decide) ?_
        refine lv_icmp_lt (tgt := 35) hx hb dd_M_begin_22 (by decide) (fun c_4 => ?_) (fun c_4 => ?_)
        · exact absurd hC (by rintro ⟨z0, z1, z2, z3, z4⟩; contradiction)
        · refine lv_iload_n hx hb dd_M_begin_25 rfl (lv_at hl 3 rfl) ?_
          refine lv_ldc (v := 100000) hx hb hown (hw _ qq_690) dd_M_begin_26 ?_
          refine lv_icmp_gt (tgt := 35) hx hb dd_M_begin_28 (by decide) (fun c_5 => ?_) (fun c_5 => ?_)
          · exact absurd hC (by rintro ⟨z0, z1, z2, z3, z4⟩; contradiction)
          · refine lv_iconst (v := 0) hx hb dd_M_begin_31 (by decide) ?_
            refine lv_goto (tgt := 36) hx hb dd_M_begin_32 (by decide) ?_
            refine va_put (D := (dC, dI)) (ci := 1) (v := .int 0) (ty := .int) (C := RR_M) (T := TT_M) (N := 33) hx hb hw hh_M ty_M ty_M_ok nm_M hown hK hP hD hS 0 rfl rfl 0 (by decide) (hw _ qq_579) (fun _ h9 => h9) rfl (by decide +kernel) rfl rfl (Nat.le_of_ble_eq_true rfl) dd_M_begin_36 (fun H locs hP hD hS => ?_)
            have hP : va_P (dC, dI) vcl [(h, .inr (1, [.int 0, .int g1, .int g2, .int g3, .int g4, .ref g5, .int g6, .ref g7, .ref g8, .ref g9, .ref g10, .ref g11, .int g12, .int g13, .int g14, .ref g15, .int g16, .ref g17, .ref g18, .ref g19, .ref g20, .ref g21, .ref g22, .int g23, .ref g24, .int g25, .int g26, .int g27, .int g28, .ref g29, .int g30, .int g31, .int g32])), (g5, .inl (cI, 8, .inl fc))] H := hP
            have hD : va_D A [(h, .inr (1, [.int 0, .int g1, .int g2, .int g3, .int g4, .ref g5, .int g6, .ref g7, .ref g8, .ref g9, .ref g10, .ref g11, .int g12, .int g13, .int g14, .ref g15, .int g16, .ref g17, .ref g18, .ref g19, .ref g20, .ref g21, .ref g22, .int g23, .ref g24, .int g25, .int g26, .int g27, .int g28, .ref g29, .int g30, .int g31, .int g32])), (g5, .inl (cI, 8, .inl fc))] := hD
            refine lv_aload_n hx hb dd_M_begin_39 rfl (lv_at hl 0 rfl) ?_
            refine va_get (D := (dC, dI)) (ci := 1) (v := .int 0) (C := RR_M) (T := TT_M) (N := 33) hx hb hw hh_M hown hK hP 0 rfl rfl 0 (by decide) (hw _ qq_579) (fun _ h9 => h9) rfl dd_M_begin_40 ?_
            refine lv_if_le (tgt := 47) hx hb dd_M_begin_43 (by decide) (fun c_6 => ?_) (fun c_6 => ?_)
            · refine lv_aload_n hx hb dd_M_begin_47 rfl (lv_at hl 0 rfl) ?_
              refine lv_iconst (v := 1) hx hb dd_M_begin_48 (by decide) ?_
              refine va_put (D := (dC, dI)) (ci := 1) (v := .int 1) (ty := .boolean) (C := RR_M) (T := TT_M) (N := 33) hx hb hw hh_M ty_M ty_M_ok nm_M hown hK hP hD hS 0 rfl rfl 1 (by decide) (hw _ qq_580) (fun _ h9 => h9) rfl (by decide +kernel) rfl rfl (Nat.le_of_ble_eq_true rfl) dd_M_begin_49 (fun H locs hP hD hS => ?_)
              have hP : va_P (dC, dI) vcl [(h, .inr (1, [.int 0, .int 1, .int g2, .int g3, .int g4, .ref g5, .int g6, .ref g7, .ref g8, .ref g9, .ref g10, .ref g11, .int g12, .int g13, .int g14, .ref g15, .int g16, .ref g17, .ref g18, .ref g19, .ref g20, .ref g21, .ref g22, .int g23, .ref g24, .int g25, .int g26, .int g27, .int g28, .ref g29, .int g30, .int g31, .int g32])), (g5, .inl (cI, 8, .inl fc))] H := hP
              have hD : va_D A [(h, .inr (1, [.int 0, .int 1, .int g2, .int g3, .int g4, .ref g5, .int g6, .ref g7, .ref g8, .ref g9, .ref g10, .ref g11, .int g12, .int g13, .int g14, .ref g15, .int g16, .ref g17, .ref g18, .ref g19, .ref g20, .ref g21, .ref g22, .int g23, .ref g24, .int g25, .int g26, .int g27, .int g28, .ref g29, .int g30, .int g31, .int g32])), (g5, .inl (cI, 8, .inl fc))] := hD
              refine lv_aload_n hx hb dd_M_begin_52 rfl (lv_at hl 0 rfl) ?_
              refine lv_iload_n hx hb dd_M_begin_53 rfl (lv_at hl 1 rfl) ?_
              refine va_put (D := (dC, dI)) (ci := 1) (v := .int p0) (ty := .int) (C := RR_M) (T := TT_M) (N := 33) hx hb hw hh_M ty_M ty_M_ok nm_M hown hK hP hD hS 0 rfl rfl 2 (by decide) (hw _ qq_581) (fun _ h9 => h9) rfl (by decide +kernel) rfl rfl (Nat.le_of_ble_eq_true rfl) dd_M_begin_54 (fun H locs hP hD hS => ?_)
              have hP : va_P (dC, dI) vcl [(h, .inr (1, [.int 0, .int 1, .int p0, .int g3, .int g4, .ref g5, .int g6, .ref g7, .ref g8, .ref g9, .ref g10, .ref g11, .int g12, .int g13, .int g14, .ref g15, .int g16, .ref g17, .ref g18, .ref g19, .ref g20, .ref g21, .ref g22, .int g23, .ref g24, .int g25, .int g26, .int g27, .int g28, .ref g29, .int g30, .int g31, .int g32])), (g5, .inl (cI, 8, .inl fc))] H := hP
              have hD : va_D A [(h, .inr (1, [.int 0, .int 1, .int p0, .int g3, .int g4, .ref g5, .int g6, .ref g7, .ref g8, .ref g9, .ref g10, .ref g11, .int g12, .int g13, .int g14, .ref g15, .int g16, .ref g17, .ref g18, .ref g19, .ref g20, .ref g21, .ref g22, .int g23, .ref g24, .int g25, .int g26, .int g27, .int g28, .ref g29, .int g30, .int g31, .int g32])), (g5, .inl (cI, 8, .inl fc))] := hD
              refine lv_aload_n hx hb dd_M_begin_57 rfl (lv_at hl 0 rfl) ?_
              refine lv_iload_n hx hb dd_M_begin_58 rfl (lv_at hl 2 rfl) ?_
              refine va_put (D := (dC, dI)) (ci := 1) (v := .int p1) (ty := .int) (C := RR_M) (T := TT_M) (N := 33) hx hb hw hh_M ty_M ty_M_ok nm_M hown hK hP hD hS 0 rfl rfl 3 (by decide) (hw _ qq_582) (fun _ h9 => h9) rfl (by decide +kernel) rfl rfl (Nat.le_of_ble_eq_true rfl) dd_M_begin_59 (fun H locs hP hD hS => ?_)
              have hP : va_P (dC, dI) vcl [(h, .inr (1, [.int 0, .int 1, .int p0, .int p1, .int g4, .ref g5, .int g6, .ref g7, .ref g8, .ref g9, .ref g10, .ref g11, .int g12, .int g13, .int g14, .ref g15, .int g16, .ref g17, .ref g18, .ref g19, .ref g20, .ref g21, .ref g22, .int g23, .ref g24, .int g25, .int g26, .int g27, .int g28, .ref g29, .int g30, .int g31, .int g32])), (g5, .inl (cI, 8, .inl fc))] H := hP
              have hD : va_D A [(h, .inr (1, [.int 0, .int 1, .int p0, .int p1, .int g4, .ref g5, .int g6, .ref g7, .ref g8, .ref g9, .ref g10, .ref g11, .int g12, .int g13, .int g14, .ref g15, .int g16, .ref g17, .ref g18, .ref g19, .ref g20, .ref g21, .ref g22, .int g23, .ref g24, .int g25, .int g26, .int g27, .int g28, .ref g29, .int g30, .int g31, .int g32])), (g5, .inl (cI, 8, .inl fc))] := hD
              refine lv_aload_n hx hb dd_M_begin_62 rfl (lv_at hl 0 rfl) ?_
              refine lv_iload_n hx hb dd_M_begin_63 rfl (lv_at hl 3 rfl) ?_
              refine va_put (D := (dC, dI)) (ci := 1) (v := .int p2) (ty := .int) (C := RR_M) (T := TT_M) (N := 33) hx hb hw hh_M ty_M ty_M_ok nm_M hown hK hP hD hS 0 rfl rfl 4 (by decide) (hw _ qq_583) (fun _ h9 => h9) rfl (by decide +kernel) rfl rfl (Nat.le_of_ble_eq_true rfl) dd_M_begin_64 (fun H locs hP hD hS => ?_)
              have hP : va_P (dC, dI) vcl [(h, .inr (1, [.int 0, .int 1, .int p0, .int p1, .int p2, .ref g5, .int g6, .ref g7, .ref g8, .ref g9, .ref g10, .ref g11, .int g12, .int g13, .int g14, .ref g15, .int g16, .ref g17, .ref g18, .ref g19, .ref g20, .ref g21, .ref g22, .int g23, .ref g24, .int g25, .int g26, .int g27, .int g28, .ref g29, .int g30, .int g31, .int g32])), (g5, .inl (cI, 8, .inl fc))] H := hP
              have hD : va_D A [(h, .inr (1, [.int 0, .int 1, .int p0, .int p1, .int p2, .ref g5, .int g6, .ref g7, .ref g8, .ref g9, .ref g10, .ref g11, .int g12, .int g13, .int g14, .ref g15, .int g16, .ref g17, .ref g18, .ref g19, .ref g20, .ref g21, .ref g22, .int g23, .ref g24, .int g25, .int g26, .int g27, .int g28, .ref g29, .int g30, .int g31, .int g32])), (g5, .inl (cI, 8, .inl fc))] := hD
              refine lv_aload_n hx hb dd_M_begin_67 rfl (lv_at hl 0 rfl) ?_
              refine lv_iconst (v := 0) hx hb dd_M_begin_68 (by decide) ?_
              refine va_put (D := (dC, dI)) (ci := 1) (v := .int 0) (ty := .int) (C := RR_M) (T := TT_M) (N := 33) hx hb hw hh_M ty_M ty_M_ok nm_M hown hK hP hD hS 0 rfl rfl 6 (by decide) (hw _ qq_585) (fun _ h9 => h9) rfl (by decide +kernel) rfl rfl (Nat.le_of_ble_eq_true rfl) dd_M_begin_69 (fun H locs hP hD hS => ?_)
              have hP : va_P (dC, dI) vcl [(h, .inr (1, [.int 0, .int 1, .int p0, .int p1, .int p2, .ref g5, .int 0, .ref g7, .ref g8, .ref g9, .ref g10, .ref g11, .int g12, .int g13, .int g14, .ref g15, .int g16, .ref g17, .ref g18, .ref g19, .ref g20, .ref g21, .ref g22, .int g23, .ref g24, .int g25, .int g26, .int g27, .int g28, .ref g29, .int g30, .int g31, .int g32])), (g5, .inl (cI, 8, .inl fc))] H := hP
              have hD : va_D A [(h, .inr (1, [.int 0, .int 1, .int p0, .int p1, .int p2, .ref g5, .int 0, .ref g7, .ref g8, .ref g9, .ref g10, .ref g11, .int g12, .int g13, .int g14, .ref g15, .int g16, .ref g17, .ref g18, .ref g19, .ref g20, .ref g21, .ref g22, .int g23, .ref g24, .int g25, .int g26, .int g27, .int g28, .ref g29, .int g30, .int g31, .int g32])), (g5, .inl (cI, 8, .inl fc))] := hD
              refine lv_iconst (v := 0) hx hb dd_M_begin_72 (by decide) ?_
              refine lv_istore (lv' := [(4, .int 0), (0, .ref h), (1, .int p0), (2, .int p1), (3, .int p2)]) hx hb dd_M_begin_73 hl (by decide) rfl (fun ls hl => ?_)
              have lp_7 : ∀ (k : Nat) (a : Nat) (f : Nat → Int32), (a + k = 8) → (∀ j, j < a → f j = if nI j = p0 then p1 - 1 else 0) → ∀ (H : Heap) (locs : List Loc), va_P (dC, dI) vcl [(h, .inr (1, [.int 0, .int 1, .int p0, .int p1, .int p2, .ref g5, .int 0, .ref g7, .ref g8, .ref g9, .ref g10, .ref g11, .int g12, .int g13, .int g14, .ref g15, .int g16, .ref g17, .ref g18, .ref g19, .ref g20, .ref g21, .ref g22, .int g23, .ref g24, .int g25, .int g26, .int g27, .int g28, .ref g29, .int g30, .int g31, .int g32])), (g5, .inl (cI, 8, .inl f))] H → va_D A [(h, .inr (1, [.int 0, .int 1, .int p0, .int p1, .int p2, .ref g5, .int 0, .ref g7, .ref g8, .ref g9, .ref g10, .ref g11, .int g12, .int g13, .int g14, .ref g15, .int g16, .ref g17, .ref g18, .ref g19, .ref g20, .ref g21, .ref g22, .int g23, .ref g24, .int g25, .int g26, .int g27, .int g28, .ref g29, .int g30, .int g31, .int g32])), (g5, .inl (cI, 8, .inl f))] → va_S A s.heap H locs → ∀ ls : Array Slot, lv_has ls 5 [(0, .ref h), (1, .int p0), (2, .int p1), (3, .int p2), (4, .int (nI a))] → W p l e (headSpec (Cond.code yy_M_begin cc_M_begin 5 none :: gw) { frames := 1, cells := 0, slots := 0, locals := 20 }).room s m ([.ref h, .int p0, .int p1, .int p2] : List Value).toArray below meth c H locs 0 0 (MQ below (va_Qv (fun (u : Nat → Int32) => ∀ j, j < 8 → u j = if nI j = p0 then p1 - 1 else 0) (fun (u : Nat → Int32) => ks_post dC dI [(cB, .byte), (cI, .int), (cJ, .long)] A [(h, .inr (1, [.int 0, .int 1, .int p0, .int p1, .int p2, .ref g5, .int 0, .ref g7, .ref g8, .ref g9, .ref g10, .ref g11, .int g12, .int g13, .int g14, .ref g15, .int g16, .ref g17, .ref g18, .ref g19, .ref g20, .ref g21, .ref g22, .int g23, .ref g24, .int g25, .int g26, .int g27, .int g28, .ref g29, .int g30, .int g31, .int g32])), (g5, .inl (cI, 8, .inl u))]) A) ([.ref h, .int p0, .int p1, .int p2] : List Value).toArray s 0 0 A) (F0 m 75 ls []) := by
                intro k
                induction k with
                | zero =>
                  intro a f hak hF H locs hP hD hS ls hl
                  refine lv_iload hx hb dd_M_begin_75 (lv_at hl 4 rfl) ?_
                  refine lv_bipush (v := 8) hx hb dd_M_begin_77 (by decide) ?_
                  refine lv_icmp_ge (tgt := 108) hx hb dd_M_begin_79 (by decide) (fun c_8 => ?_) (fun c_8 => ?_)
                  · have hP9 := hP.sub (ws' := [(h, .inr (1, [.int 0, .int 1, .int p0, .int p1, .int p2, .ref g5, .int 0, .ref g7, .ref g8, .ref g9, .ref g10, .ref g11, .int g12, .int g13, .int g14, .ref g15, .int g16, .ref g17, .ref g18, .ref g19, .ref g20, .ref g21, .ref g22, .int g23, .ref g24, .int g25, .int g26, .int g27, .int g28, .ref g29, .int g30, .int g31, .int g32])), (g5, .inl (cI, 8, .inl f))]) [0, 1] rfl
                    have hD9 := hD.sub (ws' := [(h, .inr (1, [.int 0, .int 1, .int p0, .int p1, .int p2, .ref g5, .int 0, .ref g7, .ref g8, .ref g9, .ref g10, .ref g11, .int g12, .int g13, .int g14, .ref g15, .int g16, .ref g17, .ref g18, .ref g19, .ref g20, .ref g21, .ref g22, .int g23, .ref g24, .int g25, .int g26, .int g27, .int g28, .ref g29, .int g30, .int g31, .int g32])), (g5, .inl (cI, 8, .inl f))]) [0, 1] (by decide) rfl
                    refine W.widen (k := 0) (n := 0) (by first | exact Nat.le_refl _ | omega) (by first | exact Nat.le_refl _ | omega) ?_
                    exact W.vret hx hb hr (fun t ht hW => ⟨⟨f, rfl, (fun j hj => hF j (by omega)), by rw [ht]; exact hP9, va_K.moved hW.alike hK, hD9⟩, hS.F ht⟩) hS.2.2 dd_M_begin_108
                  · exact absurd (nI_le (show 8 ≤ a by omega) (by omega)) c_8
                | succ k ih =>
                  intro a f hak hF H locs hP hD hS ls hl
                  refine lv_iload hx hb dd_M_begin_75 (lv_at hl 4 rfl) ?_
                  refine lv_bipush (v := 8) hx hb dd_M_begin_77 (by decide) ?_
                  refine lv_icmp_ge (tgt := 108) hx hb dd_M_begin_79 (by decide) (fun c_9 => ?_) (fun c_9 => ?_)
                  · exact absurd c_9 (nI_ge (show a < 8 by omega) (by decide))
                  · refine lv_aload_n hx hb dd_M_begin_82 rfl (lv_at hl 0 rfl) ?_
                    refine va_get (D := (dC, dI)) (ci := 1) (v := .ref g5) (C := RR_M) (T := TT_M) (N := 33) hx hb hw hh_M hown hK hP 0 rfl rfl 5 (by decide) (hw _ qq_584) (fun _ h9 => h9) rfl dd_M_begin_83 ?_
                    refine lv_iload hx hb dd_M_begin_86 (lv_at hl 4 rfl) ?_
                    refine lv_iload hx hb dd_M_begin_88 (lv_at hl 4 rfl) ?_
                    refine lv_iload_n hx hb dd_M_begin_90 rfl (lv_at hl 1 rfl) ?_
                    refine lv_icmp_ne (tgt := 100) hx hb dd_M_begin_91 (by decide) (fun c_10 => ?_) (fun c_10 => ?_)
                    · refine lv_iconst (v := 0) hx hb dd_M_begin_100 (by decide) ?_
                      refine va_iast hx hb hK hP hD hS 1 1 rfl rfl (vp_in_nI (by omega) (by decide)) dd_M_begin_101 (fun H locs hP hD hS => ?_)
                      have hP : va_P (dC, dI) vcl [(h, .inr (1, [.int 0, .int 1, .int p0, .int p1, .int p2, .ref g5, .int 0, .ref g7, .ref g8, .ref g9, .ref g10, .ref g11, .int g12, .int g13, .int g14, .ref g15, .int g16, .ref g17, .ref g18, .ref g19, .ref g20, .ref g21, .ref g22, .int g23, .ref g24, .int g25, .int g26, .int g27, .int g28, .ref g29, .int g30, .int g31, .int g32])), (g5, .inl (cI, 8, .inl (upd f (nI a).toNatClampNeg 0)))] H := hP
                      have hD : va_D A [(h, .inr (1, [.int 0, .int 1, .int p0, .int p1, .int p2, .ref g5, .int 0, .ref g7, .ref g8, .ref g9, .ref g10, .ref g11, .int g12, .int g13, .int g14, .ref g15, .int g16, .ref g17, .ref g18, .ref g19, .ref g20, .ref g21, .ref g22, .int g23, .ref g24, .int g25, .int g26, .int g27, .int g28, .ref g29, .int g30, .int g31, .int g32])), (g5, .inl (cI, 8, .inl (upd f (nI a).toNatClampNeg 0)))] := hD
                      refine lv_iinc (v := (nI a) + 1) (lv' := [(4, .int ((nI a) + 1)), (0, .ref h), (1, .int p0), (2, .int p1), (3, .int p2)]) hx hb dd_M_begin_102 hl (k := 4) rfl rfl (by decide) rfl (fun ls hl => ?_)
                      refine lv_goto (tgt := 75) hx hb dd_M_begin_105 (by decide) ?_
                      have e_11 : ((nI a) + 1 : Int32) = nI (a + 1) := nI_1 a
                      have hl : lv_has ls 5 [(4, .int (nI (a + 1))), (0, .ref h), (1, .int p0), (2, .int p1), (3, .int p2)] := by rw [← e_11]; exact hl
                      exact ih (a + 1) (upd f (nI a).toNatClampNeg 0) (by omega) (lt_s (fun j hj => by rw [pk_un (by rw [nI_clamp (by omega)]; omega)]; exact hF j hj) (by rw [nI_clamp (by omega), pk_us, if_neg c_10])) _ _ hP hD hS _ (lv_sub hl [1, 2, 3, 4, 0] rfl)
                    · refine lv_iload_n hx hb dd_M_begin_94 rfl (lv_at hl 2 rfl) ?_
                      refine lv_iconst (v := 1) hx hb dd_M_begin_95 (by decide) ?_
                      refine lv_isub hx hb dd_M_begin_96 ?_
                      refine lv_goto (tgt := 101) hx hb dd_M_begin_97 (by decide) ?_
                      refine va_iast hx hb hK hP hD hS 1 1 rfl rfl (vp_in_nI (by omega) (by decide)) dd_M_begin_101 (fun H locs hP hD hS => ?_)
                      have hP : va_P (dC, dI) vcl [(h, .inr (1, [.int 0, .int 1, .int p0, .int p1, .int p2, .ref g5, .int 0, .ref g7, .ref g8, .ref g9, .ref g10, .ref g11, .int g12, .int g13, .int g14, .ref g15, .int g16, .ref g17, .ref g18, .ref g19, .ref g20, .ref g21, .ref g22, .int g23, .ref g24, .int g25, .int g26, .int g27, .int g28, .ref g29, .int g30, .int g31, .int g32])), (g5, .inl (cI, 8, .inl (upd f (nI a).toNatClampNeg (p1 - 1))))] H := hP
                      have hD : va_D A [(h, .inr (1, [.int 0, .int 1, .int p0, .int p1, .int p2, .ref g5, .int 0, .ref g7, .ref g8, .ref g9, .ref g10, .ref g11, .int g12, .int g13, .int g14, .ref g15, .int g16, .ref g17, .ref g18, .ref g19, .ref g20, .ref g21, .ref g22, .int g23, .ref g24, .int g25, .int g26, .int g27, .int g28, .ref g29, .int g30, .int g31, .int g32])), (g5, .inl (cI, 8, .inl (upd f (nI a).toNatClampNeg (p1 - 1))))] := hD
                      refine lv_iinc (v := (nI a) + 1) (lv' := [(4, .int ((nI a) + 1)), (0, .ref h), (1, .int p0), (2, .int p1), (3, .int p2)]) hx hb dd_M_begin_102 hl (k := 4) rfl rfl (by decide) rfl (fun ls hl => ?_)
                      refine lv_goto (tgt := 75) hx hb dd_M_begin_105 (by decide) ?_
                      have e_12 : ((nI a) + 1 : Int32) = nI (a + 1) := nI_1 a
                      have hl : lv_has ls 5 [(4, .int (nI (a + 1))), (0, .ref h), (1, .int p0), (2, .int p1), (3, .int p2)] := by rw [← e_12]; exact hl
                      exact ih (a + 1) (upd f (nI a).toNatClampNeg (p1 - 1)) (by omega) (lt_s (fun j hj => by rw [pk_un (by rw [nI_clamp (by omega)]; omega)]; exact hF j hj) (by rw [nI_clamp (by omega), pk_us, if_pos c_10])) _ _ hP hD hS _ (lv_sub hl [1, 2, 3, 4, 0] rfl)
              exact lp_7 8 0 fc rfl lt_0 _ _ hP hD hS _ (lv_sub hl [1, 2, 3, 4, 0] rfl)
            · exact absurd (by decide) c_6

set_option maxHeartbeats 4000000 in
set_option maxRecDepth 100000 in
/-- begin(a, s, c) as it should not be -/
theorem cb_M_begin_n (l : Launch) (dC : Nat → ClassId) (dI : Nat → Nat → Nat) (cB cI cJ : ClassId) (sz : Nat) (h : Nat) (g0 g1 g2 g3 g4 g6 g12 g13 g14 g16 g23 g25 g26 g27 g28 g30 g31 g32 : Int32) (g5 g7 g8 g9 g10 g11 g15 g17 g18 g19 g20 g21 g22 g24 g29 : Nat) (p0 p1 p2 : Int32) (hC : ¬ ((¬ p0 < 0 ∧ ¬ 8 ≤ p0) ∧ ¬ p1 < 1 ∧ ¬ 10000 < p1 ∧ ¬ p2 < 1 ∧ ¬ 100000 < p2)) : Met l yy_M_begin (Cond.code yy_M_begin cc_M_begin 5 none :: gw) { frames := 1, cells := 0, slots := 0, locals := 20 } (va_Pc [.ref h, .int p0, .int p1, .int p2] (ks_pre dC dI [(cB, .byte), (cI, .int), (cJ, .long)] [(h, .inr (1, [.int g0, .int g1, .int g2, .int g3, .int g4, .ref g5, .int g6, .ref g7, .ref g8, .ref g9, .ref g10, .ref g11, .int g12, .int g13, .int g14, .ref g15, .int g16, .ref g17, .ref g18, .ref g19, .ref g20, .ref g21, .ref g22, .int g23, .ref g24, .int g25, .int g26, .int g27, .int g28, .ref g29, .int g30, .int g31, .int g32]))] sz)) (va_Qv (fun (_u : Unit) => True) (fun (_u : Unit) => ks_post dC dI [(cB, .byte), (cI, .int), (cJ, .long)] (va_A [(h, .inr (1, [.int g0, .int g1, .int g2, .int g3, .int g4, .ref g5, .int g6, .ref g7, .ref g8, .ref g9, .ref g10, .ref g11, .int g12, .int g13, .int g14, .ref g15, .int g16, .ref g17, .ref g18, .ref g19, .ref g20, .ref g21, .ref g22, .int g23, .ref g24, .int g25, .int g26, .int g27, .int g28, .ref g29, .int g30, .int g31, .int g32]))] sz) [(h, .inr (1, [.int 1, .int g1, .int g2, .int g3, .int g4, .ref g5, .int g6, .ref g7, .ref g8, .ref g9, .ref g10, .ref g11, .int g12, .int g13, .int g14, .ref g15, .int g16, .ref g17, .ref g18, .ref g19, .ref g20, .ref g21, .ref g22, .int g23, .ref g24, .int g25, .int g26, .int g27, .int g28, .ref g29, .int g30, .int g31, .int g32]))]) (va_A [(h, .inr (1, [.int g0, .int g1, .int g2, .int g3, .int g4, .ref g5, .int g6, .ref g7, .ref g8, .ref g9, .ref g10, .ref g11, .int g12, .int g13, .int g14, .ref g15, .int g16, .ref g17, .ref g18, .ref g19, .ref g20, .ref g21, .ref g22, .int g23, .ref g24, .int g25, .int g26, .int g27, .int g28, .ref g29, .int g30, .int g31, .int g32]))] sz)) 0 0 (va_A [(h, .inr (1, [.int g0, .int g1, .int g2, .int g3, .int g4, .ref g5, .int g6, .ref g7, .ref g8, .ref g9, .ref g10, .ref g11, .int g12, .int g13, .int g14, .ref g15, .int g16, .ref g17, .ref g18, .ref g19, .ref g20, .ref g21, .ref g22, .int g23, .ref g24, .int g25, .int g26, .int g27, .int g28, .ref g29, .int g30, .int g31, .int g32]))] sz) := by
  refine Met.ofW (cc := cc_M_begin) (maxL := 5) (ret := none) (by decide) rfl ?_
  intro p e s m args below meth c s₁ B hml hv
  obtain ⟨rfl, hsz, hP, hK, hD0⟩ := hv
  have hx := B.exec
  have hb := B.bytes
  have hr := B.returns
  have hw : ∀ w ∈ gw, w.before _ s = true := fun w h => atoms_spec (ws := (Cond.code yy_M_begin cc_M_begin 5 none :: gw)) B.pre w (List.mem_cons_of_mem _ h)
  have hown : s.vm.findClass RR_M = some m.cls := findClass_of_methodNamed B.named
  have hlocks := B.notSynchronized
  subst hsz
  have hD := hD0.self (sz := s.heap.size)
  generalize hAe : va_A [(h, .inr (1, [.int g0, .int g1, .int g2, .int g3, .int g4, .ref g5, .int g6, .ref g7, .ref g8, .ref g9, .ref g10, .ref g11, .int g12, .int g13, .int g14, .ref g15, .int g16, .ref g17, .ref g18, .ref g19, .ref g20, .ref g21, .ref g22, .int g23, .ref g24, .int g25, .int g26, .int g27, .int g28, .ref g29, .int g30, .int g31, .int g32]))] s.heap.size = A at hD ⊢
  have hA : ∀ q : Nat, s.heap.size ≤ q → A q := fun q h => by rw [← hAe]; exact Or.inr h
  have hS : va_S A s.heap s.heap [] := va_S.rf
  have hP : va_P (dC, dI) vcl [(h, .inr (1, [.int g0, .int g1, .int g2, .int g3, .int g4, .ref g5, .int g6, .ref g7, .ref g8, .ref g9, .ref g10, .ref g11, .int g12, .int g13, .int g14, .ref g15, .int g16, .ref g17, .ref g18, .ref g19, .ref g20, .ref g21, .ref g22, .int g23, .ref g24, .int g25, .int g26, .int g27, .int g28, .ref g29, .int g30, .int g31, .int g32]))] s.heap := hP
  have hl := lv_entry ([.ref h, .int p0, .int p1, .int p2]) (n := 5) (Nat.le_of_ble_eq_true rfl)
  rw [lg_entry_eq]
  generalize (lg_sl ([.ref h, .int p0, .int p1, .int p2]) ++ List.replicate (5 - (lg_sl ([.ref h, .int p0, .int p1, .int p2])).length) Slot.unset).toArray = ls at hl ⊢
  have hl : lv_has ls 5 [(0, .ref h), (1, .int p0), (2, .int p1), (3, .int p2)] := hl
  refine lv_aload_n hx hb dd_M_begin_0 rfl (lv_at hl 0 rfl) ?_
  refine lv_iload_n hx hb dd_M_begin_1 rfl (lv_at hl 1 rfl) ?_
  refine W.callR (W.runS (As := [.int p0]) (rest := [.ref h]) ⟨hx, hb, hml, hown, hw⟩ (cp_M_isActor l p0) (kw_S 1 hw qq_687 qq_5 qq_689 qq_688 rfl rfl (by decide +kernel) ⟨Nat.le_of_ble_eq_true rfl, Nat.le_of_ble_eq_true rfl⟩) ⟨fun a U g mk q => ⟨q.1, trivial⟩, fun U hU hW => ⟨rfl, trivial⟩⟩ rfl rfl hl.1 rfl (lv_room (Nat.le_of_ble_eq_true rfl)) dd_M_begin_2 ⟨by first | exact Nat.le_of_ble_eq_true rfl | (simp only [headSpec]; omega), by first | exact Nat.le_of_ble_eq_true rfl | (simp only [headSpec]; omega)⟩) ?_
  refine W.eq (g2 := F0 m 5 ls [.int (b2i (decide (¬ p0 < 0 ∧ ¬ 8 ≤ p0))), .ref h]) rfl ?_
  refine lv_if_eq (tgt := 35) hx hb dd_M_begin_5 (by decide) (fun c_1 => ?_) (fun c_1 => ?_)
  · have c_1 := b2i_1.mp c_1
    refine lv_iconst (v := 1) hx hb dd_M_begin_35 (by decide) ?_
    refine va_put (D := (dC, dI)) (ci := 1) (v := .int 1) (ty := .int) (C := RR_M) (T := TT_M) (N := 33) hx hb hw hh_M ty_M ty_M_ok nm_M hown hK hP hD hS 0 rfl rfl 0 (by decide) (hw _ qq_579) (fun _ h9 => h9) rfl (by decide +kernel) rfl rfl (Nat.le_of_ble_eq_true rfl) dd_M_begin_36 (fun H locs hP hD hS => ?_)
    have hP : va_P (dC, dI) vcl [(h, .inr (1, [.int 1, .int g1, .int g2, .int g3, .int g4, .ref g5, .int g6, .ref g7, .ref g8, .ref g9, .ref g10, .ref g11, .int g12, .int g13, .int g14, .ref g15, .int g16, .ref g17, .ref g18, .ref g19, .ref g20, .ref g21, .ref g22, .int g23, .ref g24, .int g25, .int g26, .int g27, .int g28, .ref g29, .int g30, .int g31, .int g32]))] H := hP
    have hD : va_D A [(h, .inr (1, [.int 1, .int g1, .int g2, .int g3, .int g4, .ref g5, .int g6, .ref g7, .ref g8, .ref g9, .ref g10, .ref g11, .int g12, .int g13, .int g14, .ref g15, .int g16, .ref g17, .ref g18, .ref g19, .ref g20, .ref g21, .ref g22, .int g23, .ref g24, .int g25, .int g26, .int g27, .int g28, .ref g29, .int g30, .int g31, .int g32]))] := hD
    refine lv_aload_n hx hb dd_M_begin_39 rfl (lv_at hl 0 rfl) ?_
    refine va_get (D := (dC, dI)) (ci := 1) (v := .int 1) (C := RR_M) (T := TT_M) (N := 33) hx hb hw hh_M hown hK hP 0 rfl rfl 0 (by decide) (hw _ qq_579) (fun _ h9 => h9) rfl dd_M_begin_40 ?_
    refine lv_if_le (tgt := 47) hx hb dd_M_begin_43 (by decide) (fun c_2 => ?_) (fun c_2 => ?_)
    · exact absurd c_2 (by decide)
    · have hP9 := hP.sub (ws' := [(h, .inr (1, [.int 1, .int g1, .int g2, .int g3, .int g4, .ref g5, .int g6, .ref g7, .ref g8, .ref g9, .ref g10, .ref g11, .int g12, .int g13, .int g14, .ref g15, .int g16, .ref g17, .ref g18, .ref g19, .ref g20, .ref g21, .ref g22, .int g23, .ref g24, .int g25, .int g26, .int g27, .int g28, .ref g29, .int g30, .int g31, .int g32]))]) [0] rfl
      have hD9 := hD.sub (ws' := [(h, .inr (1, [.int 1, .int g1, .int g2, .int g3, .int g4, .ref g5, .int g6, .ref g7, .ref g8, .ref g9, .ref g10, .ref g11, .int g12, .int g13, .int g14, .ref g15, .int g16, .ref g17, .ref g18, .ref g19, .ref g20, .ref g21, .ref g22, .int g23, .ref g24, .int g25, .int g26, .int g27, .int g28, .ref g29, .int g30, .int g31, .int g32]))]) [0] (by decide) rfl
      refine W.widen (k := 0) (n := 0) (by first | exact Nat.le_refl _ | omega) (by first | exact Nat.le_refl _ | omega) ?_
      exact W.vret hx hb hr (fun t ht hW => ⟨⟨(), rfl, trivial, by rw [ht]; exact hP9, va_K.moved hW.alike hK, hD9⟩, hS.F ht⟩) hS.2.2 dd_M_begin_46
  · have c_1 := Classical.not_not.mp (mt b2i_1.mpr c_1)
    refine lv_iload_n hx hb dd_M_begin_8 rfl (lv_at hl 2 rfl) ?_
    refine lv_iconst (v := 1) hx hb dd_M_begin_9 (by decide) ?_
    refine lv_icmp_lt (tgt := 35) hx hb dd_M_begin_10 (by decide) (fun c_3 => ?_) (fun c_3 => ?_)
    · refine lv_iconst (v := 1) hx hb dd_M_begin_35 (by decide) ?_
      refine va_put (D := (dC, dI)) (ci := 1) (v := .int 1) (ty := .int) (C := RR_M) (T := TT_M) (N := 33) hx hb hw hh_M ty_M ty_M_ok nm_M hown hK hP hD hS 0 rfl rfl 0 (by decide) (hw _ qq_579) (fun _ h9 => h9) rfl (by decide +kernel) rfl rfl (Nat.le_of_ble_eq_true rfl) dd_M_begin_36 (fun H locs hP hD hS => ?_)
      have hP : va_P (dC, dI) vcl [(h, .inr (1, [.int 1, .int g1, .int g2, .int g3, .int g4, .ref g5, .int g6, .ref g7, .ref g8, .ref g9, .ref g10, .ref g11, .int g12, .int g13, .int g14, .ref g15, .int g16, .ref g17, .ref g18, .ref g19, .ref g20, .ref g21, .ref g22, .int g23, .ref g24, .int g25, .int g26, .int g27, .int g28, .ref g29, .int g30, .int g31, .int g32]))] H := hP
      have hD : va_D A [(h, .inr (1, [.int 1, .int g1, .int g2, .int g3, .int g4, .ref g5, .int g6, .ref g7, .ref g8, .ref g9, .ref g10, .ref g11, .int g12, .int g13, .int g14, .ref g15, .int g16, .ref g17, .ref g18, .ref g19, .ref g20, .ref g21, .ref g22, .int g23, .ref g24, .int g25, .int g26, .int g27, .int g28, .ref g29, .int g30, .int g31, .int g32]))] := hD
      refine lv_aload_n hx hb dd_M_begin_39 rfl (lv_at hl 0 rfl) ?_
      refine va_get (D := (dC, dI)) (ci := 1) (v := .int 1) (C := RR_M) (T := TT_M) (N := 33) hx hb hw hh_M hown hK hP 0 rfl rfl 0 (by decide) (hw _ qq_579) (fun _ h9 => h9) rfl dd_M_begin_40 ?_
      refine lv_if_le (tgt := 47) hx hb dd_M_begin_43 (by decide) (fun c_4 => ?_) (fun c_4 => ?_)
      · exact absurd c_4 (by decide)
      · have hP9 := hP.sub (ws' := [(h, .inr (1, [.int 1, .int g1, .int g2, .int g3, .int g4, .ref g5, .int g6, .ref g7, .ref g8, .ref g9, .ref g10, .ref g11, .int g12, .int g13, .int g14, .ref g15, .int g16, .ref g17, .ref g18, .ref g19, .ref g20, .ref g21, .ref g22, .int g23, .ref g24, .int g25, .int g26, .int g27, .int g28, .ref g29, .int g30, .int g31, .int g32]))]) [0] rfl
        have hD9 := hD.sub (ws' := [(h, .inr (1, [.int 1, .int g1, .int g2, .int g3, .int g4, .ref g5, .int g6, .ref g7, .ref g8, .ref g9, .ref g10, .ref g11, .int g12, .int g13, .int g14, .ref g15, .int g16, .ref g17, .ref g18, .ref g19, .ref g20, .ref g21, .ref g22, .int g23, .ref g24, .int g25, .int g26, .int g27, .int g28, .ref g29, .int g30, .int g31, .int g32]))]) [0] (by decide) rfl
        refine W.widen (k := 0) (n := 0) (by first | exact Nat.le_refl _ | omega) (by first | exact Nat.le_refl _ | omega) ?_
        exact W.vret hx hb hr (fun t ht hW => ⟨⟨(), rfl, trivial, by rw [ht]; exact hP9, va_K.moved hW.alike hK, hD9⟩, hS.F ht⟩) hS.2.2 dd_M_begin_46
    · refine lv_iload_n hx hb dd_M_begin_13 rfl (lv_at hl 2 rfl) ?_
      refine lv_sipush (v := 10000) hx hb dd_M_begin_14 (by decide) ?_
      refine lv_icmp_gt (tgt := 35) hx hb dd_M_begin_17 (by decide) (fun c_5 => ?_) (fun c_5 => ?_)
      · refine lv_iconst (v := 1) hx hb dd_M_begin_35 (by decide) ?_
        refine va_put (D := (dC, dI)) (ci := 1) (v := .int 1) (ty := .int) (C := RR_M) (T := TT_M) (N := 33) hx hb hw hh_M ty_M ty_M_ok nm_M hown hK hP hD hS 0 rfl rfl 0 (by decide) (hw _ qq_579) (fun _ h9 => h9) rfl (by decide +kernel) rfl rfl (Nat.le_of_ble_eq_true rfl) dd_M_begin_36 (fun H locs hP hD hS => ?_)
        have hP : va_P (dC, dI) vcl [(h, .inr (1, [.int 1, .int g1, .int g2, .int g3, .int g4, .ref g5, .int g6, .ref g7, .ref g8, .ref g9, .ref g10, .ref g11, .int g12, .int g13, .int g14, .ref g15, .int g16, .ref g17, .ref g18, .ref g19, .ref g20, .ref g21, .ref g22, .int g23, .ref g24, .int g25, .int g26, .int g27, .int g28, .ref g29, .int g30, .int g31, .int g32]))] H := hP
        have hD : va_D A [(h, .inr (1, [.int 1, .int g1, .int g2, .int g3, .int g4, .ref g5, .int g6, .ref g7, .ref g8, .ref g9, .ref g10, .ref g11, .int g12, .int g13, .int g14, .ref g15, .int g16, .ref g17, .ref g18, .ref g19, .ref g20, .ref g21, .ref g22, .int g23, .ref g24, .int g25, .int g26, .int g27, .int g28, .ref g29, .int g30, .int g31, .int g32]))] := hD
        refine lv_aload_n hx hb dd_M_begin_39 rfl (lv_at hl 0 rfl) ?_
        refine va_get (D := (dC, dI)) (ci := 1) (v := .int 1) (C := RR_M) (T := TT_M) (N := 33) hx hb hw hh_M hown hK hP 0 rfl rfl 0 (by decide) (hw _ qq_579) (fun _ h9 => h9) rfl dd_M_begin_40 ?_
        refine lv_if_le (tgt := 47) hx hb dd_M_begin_43 (by decide) (fun c_6 => ?_) (fun c_6 => ?_)
        · exact absurd c_6 (by decide)
        · have hP9 := hP.sub (ws' := [(h, .inr (1, [.int 1, .int g1, .int g2, .int g3, .int g4, .ref g5, .int g6, .ref g7, .ref g8, .ref g9, .ref g10, .ref g11, .int g12, .int g13, .int g14, .ref g15, .int g16, .ref g17, .ref g18, .ref g19, .ref g20, .ref g21, .ref g22, .int g23, .ref g24, .int g25, .int g26, .int g27, .int g28, .ref g29, .int g30, .int g31, .int g32]))]) [0] rfl
          have hD9 := hD.sub (ws' := [(h, .inr (1, [.int 1, .int g1, .int g2, .int g3, .int g4, .ref g5, .int g6, .ref g7, .ref g8, .ref g9, .ref g10, .ref g11, .int g12, .int g13, .int g14, .ref g15, .int g16, .ref g17, .ref g18, .ref g19, .ref g20, .ref g21, .ref g22, .int g23, .ref g24, .int g25, .int g26, .int g27, .int g28, .ref g29, .int g30, .int g31, .int g32]))]) [0] (by decide) rfl
          refine W.widen (k := 0) (n := 0) (by first | exact Nat.le_refl _ | omega) (by first | exact Nat.le_refl _ | omega) ?_
          exact W.vret hx hb hr (fun t ht hW => ⟨⟨(), rfl, trivial, by rw [ht]; exact hP9, va_K.moved hW.alike hK, hD9⟩, hS.F ht⟩) hS.2.2 dd_M_begin_46
      · refine lv_iload_n hx hb dd_M_begin_20 rfl (lv_at hl 3 rfl) ?_
        refine lv_iconst (v := 1) hx hb dd_M_begin_21 (by decide) ?_
        refine lv_icmp_lt (tgt := 35) hx hb dd_M_begin_22 (by decide) (fun c_7 => ?_) (fun c_7 => ?_)
        · refine lv_iconst (v := 1) hx hb dd_M_begin_35 (by decide) ?_
          refine va_put (D := (dC, dI)) (ci := 1) (v := .int 1) (ty := .int) (C := RR_M) (T := TT_M) (N := 33) hx hb hw hh_M ty_M ty_M_ok nm_M hown hK hP hD hS 0 rfl rfl 0 (by decide) (hw _ qq_579) (fun _ h9 => h9) rfl (by decide +kernel) rfl rfl (Nat.le_of_ble_eq_true rfl) dd_M_begin_36 (fun H locs hP hD hS => ?_)
          have hP : va_P (dC, dI) vcl [(h, .inr (1, [.int 1, .int g1, .int g2, .int g3, .int g4, .ref g5, .int g6, .ref g7, .ref g8, .ref g9, .ref g10, .ref g11, .int g12, .int g13, .int g14, .ref g15, .int g16, .ref g17, .ref g18, .ref g19, .ref g20, .ref g21, .ref g22, .int g23, .ref g24, .int g25, .int g26, .int g27, .int g28, .ref g29, .int g30, .int g31, .int g32]))] H := hP
          have hD : va_D A [(h, .inr (1, [.int 1, .int g1, .int g2, .int g3, .int g4, .ref g5, .int g6, .ref g7, .ref g8, .ref g9, .ref g10, .ref g11, .int g12, .int g13, .int g14, .ref g15, .int g16, .ref g17, .ref g18, .ref g19, .ref g20, .ref g21, .ref g22, .int g23, .ref g24, .int g25, .int g26, .int g27, .int g28, .ref g29, .int g30, .int g31, .int g32]))] := hD
          refine lv_aload_n hx hb dd_M_begin_39 rfl (lv_at hl 0 rfl) ?_
          refine va_get (D := (dC, dI)) (ci := 1) (v := .int 1) (C := RR_M) (T := TT_M) (N := 33) hx hb hw hh_M hown hK hP 0 rfl rfl 0 (by decide) (hw _ qq_579) (fun _ h9 => h9) rfl dd_M_begin_40 ?_
          refine lv_if_le (tgt := 47) hx hb dd_M_begin_43 (by decide) (fun c_8 => ?_) (fun c_8 => ?_)
          · exact absurd c_8 (by decide)
          · have hP9 := hP.sub (ws' := [(h, .inr (1, [.int 1, .int g1, .int g2, .int g3, .int g4, .ref g5, .int g6, .ref g7, .ref g8, .ref g9, .ref g10, .ref g11, .int g12, .int g13, .int g14, .ref g15, .int g16, .ref g17, .ref g18, .ref g19, .ref g20, .ref g21, .ref g22, .int g23, .ref g24, .int g25, .int g26, .int g27, .int g28, .ref g29, .int g30, .int g31, .int g32]))]) [0] rfl
            have hD9 := hD.sub (ws' := [(h, .inr (1, [.int 1, .int g1, .int g2, .int g3, .int g4, .ref g5, .int g6, .ref g7, .ref g8, .ref g9, .ref g10, .ref g11, .int g12, .int g13, .int g14, .ref g15, .int g16, .ref g17, .ref g18, .ref g19, .ref g20, .ref g21, .ref g22, .int g23, .ref g24, .int g25, .int g26, .int g27, .int g28, .ref g29, .int g30, .int g31, .int g32]))]) [0] (by decide) rfl
            refine W.widen (k := 0) (n := 0) (by first | exact Nat.le_refl _ | omega) (by first | exact Nat.le_refl _ | omega) ?_
            exact W.vret hx hb hr (fun t ht hW => ⟨⟨(), rfl, trivial, by rw [ht]; exact hP9, va_K.moved hW.alike hK, hD9⟩, hS.F ht⟩) hS.2.2 dd_M_begin_46
        · refine lv_iload_n hx hb dd_M_begin_25 rfl (lv_at hl 3 rfl) ?_
          refine lv_ldc (v := 100000) hx hb hown (hw _ qq_690) dd_M_begin_26 ?_
          refine lv_icmp_gt (tgt := 35) hx hb dd_M_begin_28 (by decide) (fun c_9 => ?_) (fun c_9 => ?_)
          · refine lv_iconst (v := 1) hx hb dd_M_begin_35 (by decide) ?_
            refine va_put (D := (dC, dI)) (ci := 1) (v := .int 1) (ty := .int) (C := RR_M) (T := TT_M) (N := 33) hx hb hw hh_M ty_M ty_M_ok nm_M hown hK hP hD hS 0 rfl rfl 0 (by decide) (hw _ qq_579) (fun _ h9 => h9) rfl (by decide +kernel) rfl rfl (Nat.le_of_ble_eq_true rfl) dd_M_begin_36 (fun H locs hP hD hS => ?_)
            have hP : va_P (dC, dI) vcl [(h, .inr (1, [.int 1, .int g1, .int g2, .int g3, .int g4, .ref g5, .int g6, .ref g7, .ref g8, .ref g9, .ref g10, .ref g11, .int g12, .int g13, .int g14, .ref g15, .int g16, .ref g17, .ref g18, .ref g19, .ref g20, .ref g21, .ref g22, .int g23, .ref g24, .int g25, .int g26, .int g27, .int g28, .ref g29, .int g30, .int g31, .int g32]))] H := hP
            have hD : va_D A [(h, .inr (1, [.int 1, .int g1, .int g2, .int g3, .int g4, .ref g5, .int g6, .ref g7, .ref g8, .ref g9, .ref g10, .ref g11, .int g12, .int g13, .int g14, .ref g15, .int g16, .ref g17, .ref g18, .ref g19, .ref g20, .ref g21, .ref g22, .int g23, .ref g24, .int g25, .int g26, .int g27, .int g28, .ref g29, .int g30, .int g31, .int g32]))] := hD
            refine lv_aload_n hx hb dd_M_begin_39 rfl (lv_at hl 0 rfl) ?_
            refine va_get (D := (dC, dI)) (ci := 1) (v := .int 1) (C := RR_M) (T := TT_M) (N := 33) hx hb hw hh_M hown hK hP 0 rfl rfl 0 (by decide) (hw _ qq_579) (fun _ h9 => h9) rfl dd_M_begin_40 ?_
            refine lv_if_le (tgt := 47) hx hb dd_M_begin_43 (by decide) (fun c_10 => ?_) (fun c_10 => ?_)
            · exact absurd c_10 (by decide)
            · have hP9 := hP.sub (ws' := [(h, .inr (1, [.int 1, .int g1, .int g2, .int g3, .int g4, .ref g5, .int g6, .ref g7, .ref g8, .ref g9, .ref g10, .ref g11, .int g12, .int g13, .int g14, .ref g15, .int g16, .ref g17, .ref g18, .ref g19, .ref g20, .ref g21, .ref g22, .int g23, .ref g24, .int g25, .int g26, .int g27, .int g28, .ref g29, .int g30, .int g31, .int g32]))]) [0] rfl
              have hD9 := hD.sub (ws' := [(h, .inr (1, [.int 1, .int g1, .int g2, .int g3, .int g4, .ref g5, .int g6, .ref g7, .ref g8, .ref g9, .ref g10, .ref g11, .int g12, .int g13, .int g14, .ref g15, .int g16, .ref g17, .ref g18, .ref g19, .ref g20, .ref g21, .ref g22, .int g23, .ref g24, .int g25, .int g26, .int g27, .int g28, .ref g29, .int g30, .int g31, .int g32]))]) [0] (by decide) rfl
              refine W.widen (k := 0) (n := 0) (by first | exact Nat.le_refl _ | omega) (by first | exact Nat.le_refl _ | omega) ?_
              exact W.vret hx hb hr (fun t ht hW => ⟨⟨(), rfl, trivial, by rw [ht]; exact hP9, va_K.moved hW.alike hK, hD9⟩, hS.F ht⟩) hS.2.2 dd_M_begin_46
          · exact absurd (show ((¬ p0 < 0 ∧ ¬ 8 ≤ p0) ∧ ¬ p1 < 1 ∧ ¬ 10000 < p1 ∧ ¬ p2 < 1 ∧ ¬ 100000 < p2) from (by repeat' (first | assumption | apply And.intro))) hC

set_option maxHeartbeats 4000000 in
set_option maxRecDepth 100000 in
/-- hangs(a, n) -/
theorem cb_M_hangs (l : Launch) (dC : Nat → ClassId) (dI : Nat → Nat → Nat) (cB cI cJ : ClassId) (sz : Nat) (h : Nat) (g0 g1 g2 g3 g4 g6 g12 g13 g14 g16 g23 g25 g26 g27 g28 g30 g31 g32 : Int32) (g5 g7 g8 g9 g10 g11 g15 g17 g18 g19 g20 g21 g22 g24 g29 : Nat) (fc : Nat → Int32) (p0 p1 : Int32) : Met l yy_M_hangs (Cond.code yy_M_hangs cc_M_hangs 3 (some .boolean) :: gw) { frames := 1, cells := 0, slots := 0, locals := 20 } (va_Pc [.ref h, .int p0, .int p1] (ks_pre dC dI [(cB, .byte), (cI, .int), (cJ, .long)] [(h, .inr (1, [.int g0, .int g1, .int g2, .int g3, .int g4, .ref g5, .int g6, .ref g7, .ref g8, .ref g9, .ref g10, .ref g11, .int g12, .int g13, .int g14, .ref g15, .int g16, .ref g17, .ref g18, .ref g19, .ref g20, .ref g21, .ref g22, .int g23, .ref g24, .int g25, .int g26, .int g27, .int g28, .ref g29, .int g30, .int g31, .int g32])), (g5, .inl (cI, 8, .inl fc))] sz)) (va_Qi (fun r (_u : Unit) => r = b2i (decide (¬ g1 = 0 ∧ (¬ p0 < 0 ∧ ¬ 8 ≤ p0) ∧ ¬ p0 = g2 ∧ ¬ p1 < 0 ∧ p1 ≤ 10000))) (fun (_u : Unit) => ks_post dC dI [(cB, .byte), (cI, .int), (cJ, .long)] (va_A [(h, .inr (1, [.int g0, .int g1, .int g2, .int g3, .int g4, .ref g5, .int g6, .ref g7, .ref g8, .ref g9, .ref g10, .ref g11, .int g12, .int g13, .int g14, .ref g15, .int g16, .ref g17, .ref g18, .ref g19, .ref g20, .ref g21, .ref g22, .int g23, .ref g24, .int g25, .int g26, .int g27, .int g28, .ref g29, .int g30, .int g31, .int g32])), (g5, .inl (cI, 8, .inl fc))] sz) [(h, .inr (1, [.int 0, .int g1, .int g2, .int g3, .int g4, .ref g5, .int g6, .ref g7, .ref g8, .ref g9, .ref g10, .ref g11, .int g12, .int g13, .int g14, .ref g15, .int g16, .ref g17, .ref g18, .ref g19, .ref g20, .ref g21, .ref g22, .int g23, .ref g24, .int g25, .int g26, .int g27, .int g28, .ref g29, .int g30, .int g31, .int g32])), (g5, .inl (cI, 8, .inl (if (¬ g1 = 0 ∧ (¬ p0 < 0 ∧ ¬ 8 ≤ p0) ∧ ¬ p0 = g2 ∧ ¬ p1 < 0 ∧ p1 ≤ 10000) then upd fc p0.toNatClampNeg p1 else fc)))]) (va_A [(h, .inr (1, [.int g0, .int g1, .int g2, .int g3, .int g4, .ref g5, .int g6, .ref g7, .ref g8, .ref g9, .ref g10, .ref g11, .int g12, .int g13, .int g14, .ref g15, .int g16, .ref g17, .ref g18, .ref g19, .ref g20, .ref g21, .ref g22, .int g23, .ref g24, .int g25, .int g26, .int g27, .int g28, .ref g29, .int g30, .int g31, .int g32])), (g5, .inl (cI, 8, .inl fc))] sz)) 0 0 (va_A [(h, .inr (1, [.int g0, .int g1, .int g2, .int g3, .int g4, .ref g5, .int g6, .ref g7, .ref g8, .ref g9, .ref g10, .ref g11, .int g12, .int g13, .int g14, .ref g15, .int g16, .ref g17, .ref g18, .ref g19, .ref g20, .ref g21, .ref g22, .int g23, .ref g24, .int g25, .int g26, .int g27, .int g28, .ref g29, .int g30, .int g31, .int g32])), (g5, .inl (cI, 8, .inl fc))] sz) := by
  refine Met.ofW (cc := cc_M_hangs) (maxL := 3) (ret := (some .boolean)) (by decide) rfl ?_
  intro p e s m args below meth c s₁ B hml hv
  obtain ⟨rfl, hsz, hP, hK, hD0⟩ := hv
  have hx := B.exec
  have hb := B.bytes
  have hr := B.returns
  have hw : ∀ w ∈ gw, w.before _ s = true := fun w h => atoms_spec (ws := (Cond.code yy_M_hangs cc_M_hangs 3 (some .boolean) :: gw)) B.pre w (List.mem_cons_of_mem _ h)
  have hown : s.vm.findClass RR_M = some m.cls := findClass_of_methodNamed B.named
  have hlocks := B.notSynchronized
  subst hsz
  have hD := hD0.self (sz := s.heap.size)
  generalize hAe : va_A [(h, .inr (1, [.int g0, .int g1, .int g2, .int g3, .int g4, .ref g5, .int g6, .ref g7, .ref g8, .ref g9, .ref g10, .ref g11, .int g12, .int g13, .int g14, .ref g15, .int g16, .ref g17, .ref g18, .ref g19, .ref g20, .ref g21, .ref g22, .int g23, .ref g24, .int g25, .int g26, .int g27, .int g28, .ref g29, .int g30, .int g31, .int g32])), (g5, .inl (cI, 8, .inl fc))] s.heap.size = A at hD ⊢
  have hA : ∀ q : Nat, s.heap.size ≤ q → A q := fun q h => by rw [← hAe]; exact Or.inr h
  have hS : va_S A s.heap s.heap [] := va_S.rf
  have hP : va_P (dC, dI) vcl [(h, .inr (1, [.int g0, .int g1, .int g2, .int g3, .int g4, .ref g5, .int g6, .ref g7, .ref g8, .ref g9, .ref g10, .ref g11, .int g12, .int g13, .int g14, .ref g15, .int g16, .ref g17, .ref g18, .ref g19, .ref g20, .ref g21, .ref g22, .int g23, .ref g24, .int g25, .int g26, .int g27, .int g28, .ref g29, .int g30, .int g31, .int g32])), (g5, .inl (cI, 8, .inl fc))] s.heap := hP
  have hl := lv_entry ([.ref h, .int p0, .int p1]) (n := 3) (Nat.le_of_ble_eq_true rfl)
  rw [lg_entry_eq]
  generalize (lg_sl ([.ref h, .int p0, .int p1]) ++ List.replicate (3 - (lg_sl ([.ref h, .int p0, .int p1])).length) Slot.unset).toArray = ls at hl ⊢
  have hl : lv_has ls 3 [(0, .ref h), (1, .int p0), (2, .int p1)] := hl
  refine lv_aload_n hx hb dd_M_hangs_0 rfl (lv_at hl 0 rfl) ?_
  refine lv_iconst (v := 0) hx hb dd_M_hangs_1 (by decide) ?_
  refine va_put (D := (dC, dI)) (ci := 1) (v := .int 0) (ty := .int) (C := RR_M) (T := TT_M) (N := 33) hx hb hw hh_M ty_M ty_M_ok nm_M hown hK hP hD hS 0 rfl rfl 0 (by decide) (hw _ qq_579) (fun _ h9 => h9) rfl (by decide +kernel) rfl rfl (Nat.le_of_ble_eq_true rfl) dd_M_hangs_2 (fun H locs hP hD hS => ?_)
  have hP : va_P (dC, dI) vcl [(h, .inr (1, [.int 0, .int g1, .int g2, .int g3, .int g4, .ref g5, .int g6, .ref g7, .ref g8, .ref g9, .ref g10, .ref g11, .int g12, .int g13, .int g14, .ref g15, .int g16, .ref g17, .ref g18, .ref g19, .ref g20, .ref g21, .ref g22, .int g23, .ref g24, .int g25, .int g26, .int g27, .int g28, .ref g29, .int g30, .int g31, .int g32])), (g5, .inl (cI, 8, .inl fc))] H := hP
  have hD : va_D A [(h, .inr (1, [.int 0, .int g1, .int g2, .int g3, .int g4, .ref g5, .int g6, .ref g7, .ref g8, .ref g9, .ref g10, .ref g11, .int g12, .int g13, .int g14, .ref g15, .int g16, .ref g17, .ref g18, .ref g19, .ref g20, .ref g21, .ref g22, .int g23, .ref g24, .int g25, .int g26, .int g27, .int g28, .ref g29, .int g30, .int g31, .int g32])), (g5, .inl (cI, 8, .inl fc))] := hD
  refine lv_aload_n hx hb dd_M_hangs_5 rfl (lv_at hl 0 rfl) ?_
  refine va_get (D := (dC, dI)) (ci := 1) (v := .int g1) (C := RR_M) (T := TT_M) (N := 33) hx hb hw hh_M hown hK hP 0 rfl rfl 1 (by decide) (hw _ qq_580) (fun _ h9 => h9) rfl dd_M_hangs_6 ?_
  refine lv_if_eq (tgt := 38) hx hb dd_M_hangs_9 (by decide) (fun c_1 => ?_) (fun c_1 => ?_)
  · refine lv_iconst (v := 0) hx hb dd_M_hangs_38 (by decide) ?_
    have e_2 : fc = (if (¬ g1 = 0 ∧ (¬ p0 < 0 ∧ ¬ 8 ≤ p0) ∧ ¬ p0 = g2 ∧ ¬ p1 < 0 ∧ p1 ≤ 10000) then upd fc p0.toNatClampNeg p1 else fc) := (if_neg (by rintro ⟨z0, z1, z2, z3, z4⟩; contradiction)).symm
    have hP : va_P (dC, dI) vcl [(h, .inr (1, [.int 0, .int g1, .int g2, .int g3, .int g4, .ref g5, .int g6, .ref g7, .ref g8, .ref g9, .ref g10, .ref g11, .int g12, .int g13, .int g14, .ref g15, .int g16, .ref g17, .ref g18, .ref g19, .ref g20, .ref g21, .ref g22, .int g23, .ref g24, .int g25, .int g26, .int g27, .int g28, .ref g29, .int g30, .int g31, .int g32])), (g5, .inl (cI, 8, .inl (if (¬ g1 = 0 ∧ (¬ p0 < 0 ∧ ¬ 8 ≤ p0) ∧ ¬ p0 = g2 ∧ ¬ p1 < 0 ∧ p1 ≤ 10000) then upd fc p0.toNatClampNeg p1 else fc)))] H := by rw [← e_2]; exact hP
    have hD : va_D A [(h, .inr (1, [.int 0, .int g1, .int g2, .int g3, .int g4, .ref g5, .int g6, .ref g7, .ref g8, .ref g9, .ref g10, .ref g11, .int g12, .int g13, .int g14, .ref g15, .int g16, .ref g17, .ref g18, .ref g19, .ref g20, .ref g21, .ref g22, .int g23, .ref g24, .int g25, .int g26, .int g27, .int g28, .ref g29, .int g30, .int g31, .int g32])), (g5, .inl (cI, 8, .inl (if (¬ g1 = 0 ∧ (¬ p0 < 0 ∧ ¬ 8 ≤ p0) ∧ ¬ p0 = g2 ∧ ¬ p1 < 0 ∧ p1 ≤ 10000) then upd fc p0.toNatClampNeg p1 else fc)))] := by rw [← e_2]; exact hD
    have hP9 := hP.sub (ws' := [(h, .inr (1, [.int 0, .int g1, .int g2, .int g3, .int g4, .ref g5, .int g6, .ref g7, .ref g8, .ref g9, .ref g10, .ref g11, .int g12, .int g13, .int g14, .ref g15, .int g16, .ref g17, .ref g18, .ref g19, .ref g20, .ref g21, .ref g22, .int g23, .ref g24, .int g25, .int g26, .int g27, .int g28, .ref g29, .int g30, .int g31, .int g32])), (g5, .inl (cI, 8, .inl (if (¬ g1 = 0 ∧ (¬ p0 < 0 ∧ ¬ 8 ≤ p0) ∧ ¬ p0 = g2 ∧ ¬ p1 < 0 ∧ p1 ≤ 10000) then upd fc p0.toNatClampNeg p1 else fc)))]) [0, 1] rfl
    have hD9 := hD.sub (ws' := [(h, .inr (1, [.int 0, .int g1, .int g2, .int g3, .int g4, .ref g5, .int g6, .ref g7, .ref g8, .ref g9, .ref g10, .ref g11, .int g12, .int g13, .int g14, .ref g15, .int g16, .ref g17, .ref g18, .ref g19, .ref g20, .ref g21, .ref g22, .int g23, .ref g24, .int g25, .int g26, .int g27, .int g28, .ref g29, .int g30, .int g31, .int g32])), (g5, .inl (cI, 8, .inl (if (¬ g1 = 0 ∧ (¬ p0 < 0 ∧ ¬ 8 ≤ p0) ∧ ¬ p0 = g2 ∧ ¬ p1 < 0 ∧ p1 ≤ 10000) then upd fc p0.toNatClampNeg p1 else fc)))]) [0, 1] (by decide) rfl
    refine W.widen (k := 0) (n := 0) (by first | exact Nat.le_refl _ | omega) (by first | exact Nat.le_refl _ | omega) ?_
    exact W.zret (ty := .boolean) (v := 0) hx hb hr (by rfl) (fun t ht hW => ⟨⟨0, (), rfl, (b2i_f (by rintro ⟨z0, z1, z2, z3, z4⟩; contradiction)), by rw [ht]; exact hP9, va_K.moved hW.alike hK, hD9⟩, hS.F ht⟩) hS.2.2 dd_M_hangs_39
  · refine lv_iload_n hx hb dd_M_hangs_12 rfl (lv_at hl 1 rfl) ?_
    refine W.callR (W.runS (As := [.int p0]) (rest := []) ⟨hx, hb, hml, hown, hw⟩ (cp_M_isActor l p0) (kw_S 1 hw qq_687 qq_5 qq_689 qq_688 rfl rfl (by decide +kernel) ⟨Nat.le_of_ble_eq_true rfl, Nat.le_of_ble_eq_true rfl⟩) ⟨fun a U g mk q => ⟨q.1, trivial⟩, fun U hU hW => ⟨rfl, trivial⟩⟩ rfl rfl hl.1 rfl (lv_room (Nat.le_of_ble_eq_true rfl)) dd_M_hangs_13 ⟨by first | exact Nat.le_of_ble_eq_true rfl | (simp only [headSpec]; omega), by first | exact Nat.le_of_ble_eq_true rfl | (simp only [headSpec]; omega)⟩) ?_
    refine W.eq (g2 := F0 m 16 ls [.int (b2i (decide (¬ p0 < 0 ∧ ¬ 8 ≤ p0)))]) rfl ?_
    refine lv_if_eq (tgt := 38) hx hb dd_M_hangs_16 (by decide) (fun c_3 => ?_) (fun c_3 => ?_)
    · have c_3 := b2i_1.mp c_3
      refine lv_iconst (v := 0) hx hb dd_M_hangs_38 (by decide) ?_
      have e_4 : fc = (if (¬ g1 = 0 ∧ (¬ p0 < 0 ∧ ¬ 8 ≤ p0) ∧ ¬ p0 = g2 ∧ ¬ p1 < 0 ∧ p1 ≤ 10000) then upd fc p0.toNatClampNeg p1 else fc) := (if_neg (by rintro ⟨z0, z1, z2, z3, z4⟩; contradiction)).symm
      have hP : va_P (dC, dI) vcl [(h, .inr (1, [.int 0, .int g1, .int g2, .int g3, .int g4, .ref g5, .int g6, .ref g7, .ref g8, .ref g9, .ref g10, .ref g11, .int g12, .int g13, .int g14, .ref g15, .int g16, .ref g17, .ref g18, .ref g19, .ref g20, .ref g21, .ref g22, .int g23, .ref g24, .int g25, .int g26, .int g27, .int g28, .ref g29, .int g30, .int g31, .int g32])), (g5, .inl (cI, 8, .inl (if (¬ g1 = 0 ∧ (¬ p0 < 0 ∧ ¬ 8 ≤ p0) ∧ ¬ p0 = g2 ∧ ¬ p1 < 0 ∧ p1 ≤ 10000) then upd fc p0.toNatClampNeg p1 else fc)))] H := by rw [← e_4]; exact hP
      have hD : va_D A [(h, .inr (1, [.int 0, .int g1, .int g2, .int g3, .int g4, .ref g5, .int g6, .ref g7, .ref g8, .ref g9, .ref g10, .ref g11, .int g12, .int g13, .int g14, .ref g15, .int g16, .ref g17, .ref g18, .ref g19, .ref g20, .ref g21, .ref g22, .int g23, .ref g24, .int g25, .int g26, .int g27, .int g28, .ref g29, .int g30, .int g31, .int g32])), (g5, .inl (cI, 8, .inl (if (¬ g1 = 0 ∧ (¬ p0 < 0 ∧ ¬ 8 ≤ p0) ∧ ¬ p0 = g2 ∧ ¬ p1 < 0 ∧ p1 ≤ 10000) then upd fc p0.toNatClampNeg p1 else fc)))] := by rw [← e_4]; exact hD
      have hP9 := hP.sub (ws' := [(h, .inr (1, [.int 0, .int g1, .int g2, .int g3, .int g4, .ref g5, .int g6, .ref g7, .ref g8, .ref g9, .ref g10, .ref g11, .int g12, .int g13, .int g14, .ref g15, .int g16, .ref g17, .ref g18, .ref g19, .ref g20, .ref g21, .ref g22, .int g23, .ref g24, .int g25, .int g26, .int g27, .int g28, .ref g29, .int g30, .int g31, .int g32])), (g5, .inl (cI, 8, .inl (if (¬ g1 = 0 ∧ (¬ p0 < 0 ∧ ¬ 8 ≤ p0) ∧ ¬ p0 = g2 ∧ ¬ p1 < 0 ∧ p1 ≤ 10000) then upd fc p0.toNatClampNeg p1 else fc)))]) [0, 1] rfl
      have hD9 := hD.sub (ws' := [(h, .inr (1, [.int 0, .int g1, .int g2, .int g3, .int g4, .ref g5, .int g6, .ref g7, .ref g8, .ref g9, .ref g10, .ref g11, .int g12, .int g13, .int g14, .ref g15, .int g16, .ref g17, .ref g18, .ref g19, .ref g20, .ref g21, .ref g22, .int g23, .ref g24, .int g25, .int g26, .int g27, .int g28, .ref g29, .int g30, .int g31, .int g32])), (g5, .inl (cI, 8, .inl (if (¬ g1 = 0 ∧ (¬ p0 < 0 ∧ ¬ 8 ≤ p0) ∧ ¬ p0 = g2 ∧ ¬ p1 < 0 ∧ p1 ≤ 10000) then upd fc p0.toNatClampNeg p1 else fc)))]) [0, 1] (by decide) rfl
      refine W.widen (k := 0) (n := 0) (by first | exact Nat.le_refl _ | omega) (by first | exact Nat.le_refl _ | omega) ?_
      exact W.zret (ty := .boolean) (v := 0) hx hb hr (by rfl) (fun t ht hW => ⟨⟨0, (), rfl, (b2i_f (by rintro ⟨z0, z1, z2, z3, z4⟩; contradiction)), by rw [ht]; exact hP9, va_K.moved hW.alike hK, hD9⟩, hS.F ht⟩) hS.2.2 dd_M_hangs_39
    · have c_3 := Classical.not_not.mp (mt b2i_1.mpr c_3)
      refine lv_iload_n hx hb dd_M_hangs_19 rfl (lv_at hl 1 rfl) ?_
      refine lv_aload_n hx hb dd_M_hangs_20 rfl (lv_at hl 0 rfl) ?_
      refine va_get (D := (dC, dI)) (ci := 1) (v := .int g2) (C := RR_M) (T := TT_M) (N := 33) hx hb hw hh_M hown hK hP 0 rfl rfl 2 (by decide) (hw _ qq_581) (fun _ h9 => h9) rfl dd_M_hangs_21 ?_
      refine lv_icmp_eq (tgt := 38) hx hb dd_M_hangs_24 (by decide) (fun c_5 => ?_) (fun c_5 => ?_)
      · refine lv_iconst (v := 0) hx hb dd_M_hangs_38 (by decide) ?_
        have e_6 : fc = (if (¬ g1 = 0 ∧ (¬ p0 < 0 ∧ ¬ 8 ≤ p0) ∧ ¬ p0 = g2 ∧ ¬ p1 < 0 ∧ p1 ≤ 10000) then upd fc p0.toNatClampNeg p1 else fc) := (if_neg (by rintro ⟨z0, z1, z2, z3, z4⟩; contradiction)).symm
        have hP : va_P (dC, dI) vcl [(h, .inr (1, [.int 0, .int g1, .int g2, .int g3, .int g4, .ref g5, .int g6, .ref g7, .ref g8, .ref g9, .ref g10, .ref g11, .int g12, .int g13, .int g14, .ref g15, .int g16, .ref g17, .ref g18, .ref g19, .ref g20, .ref g21, .ref g22, .int g23, .ref g24, .int g25, .int g26, .int g27, .int g28, .ref g29, .int g30, .int g31, .int g32])), (g5, .inl (cI, 8, .inl (if (¬ g1 = 0 ∧ (¬ p0 < 0 ∧ ¬ 8 ≤ p0) ∧ ¬ p0 = g2 ∧ ¬ p1 < 0 ∧ p1 ≤ 10000) then upd fc p0.toNatClampNeg p1 else fc)))] H := by rw [← e_6]; exact hP
        have hD : va_D A [(h, .inr (1, [.int 0, .int g1, .int g2, .int g3, .int g4, .ref g5, .int g6, .ref g7, .ref g8, .ref g9, .ref g10, .ref g11, .int g12, .int g13, .int g14, .ref g15, .int g16, .ref g17, .ref g18, .ref g19, .ref g20, .ref g21, .ref g22, .int g23, .ref g24, .int g25, .int g26, .int g27, .int g28, .ref g29, .int g30, .int g31, .int g32])), (g5, .inl (cI, 8, .inl (if (¬ g1 = 0 ∧ (¬ p0 < 0 ∧ ¬ 8 ≤ p0) ∧ ¬ p0 = g2 ∧ ¬ p1 < 0 ∧ p1 ≤ 10000) then upd fc p0.toNatClampNeg p1 else fc)))] := by rw [← e_6]; exact hD
        have hP9 := hP.sub (ws' := [(h, .inr (1, [.int 0, .int g1, .int g2, .int g3, .int g4, .ref g5, .int g6, .ref g7, .ref g8, .ref g9, .ref g10, .ref g11, .int g12, .int g13, .int g14, .ref g15, .int g16, .ref g17, .ref g18, .ref g19, .ref g20, .ref g21, .ref g22, .int g23, .ref g24, .int g25, .int g26, .int g27, .int g28, .ref g29, .int g30, .int g31, .int g32])), (g5, .inl (cI, 8, .inl (if (¬ g1 = 0 ∧ (¬ p0 < 0 ∧ ¬ 8 ≤ p0) ∧ ¬ p0 = g2 ∧ ¬ p1 < 0 ∧ p1 ≤ 10000) then upd fc p0.toNatClampNeg p1 else fc)))]) [0, 1] rfl
        have hD9 := hD.sub (ws' := [(h, .inr (1, [.int 0, .int g1, .int g2, .int g3, .int g4, .ref g5, .int g6, .ref g7, .ref g8, .ref g9, .ref g10, .ref g11, .int g12, .int g13, .int g14, .ref g15, .int g16, .ref g17, .ref g18, .ref g19, .ref g20, .ref g21, .ref g22, .int g23, .ref g24, .int g25, .int g26, .int g27, .int g28, .ref g29, .int g30, .int g31, .int g32])), (g5, .inl (cI, 8, .inl (if (¬ g1 = 0 ∧ (¬ p0 < 0 ∧ ¬ 8 ≤ p0) ∧ ¬ p0 = g2 ∧ ¬ p1 < 0 ∧ p1 ≤ 10000) then upd fc p0.toNatClampNeg p1 else fc)))]) [0, 1] (by decide) rfl
        refine W.widen (k := 0) (n := 0) (by first | exact Nat.le_refl _ | omega) (by first | exact Nat.le_refl _ | omega) ?_
        exact W.zret (ty := .boolean) (v := 0) hx hb hr (by rfl) (fun t ht hW => ⟨⟨0, (), rfl, (b2i_f (by rintro ⟨z0, z1, z2, z3, z4⟩; contradiction)), by rw [ht]; exact hP9, va_K.moved hW.alike hK, hD9⟩, hS.F ht⟩) hS.2.2 dd_M_hangs_39
      · refine lv_iload_n hx hb dd_M_hangs_27 rfl (lv_at hl 2 rfl) ?_
        refine lv_if_lt (tgt := 38) hx hb dd_M_hangs_28 (by decide) (fun c_7 => ?_) (fun c_7 => ?_)
        · refine lv_iconst (v := 0) hx hb dd_M_hangs_38 (by decide) ?_
          have e_8 : fc = (if (¬ g1 = 0 ∧ (¬ p0 < 0 ∧ ¬ 8 ≤ p0) ∧ ¬ p0 = g2 ∧ ¬ p1 < 0 ∧ p1 ≤ 10000) then upd fc p0.toNatClampNeg p1 else fc) := (if_neg (by rintro ⟨z0, z1, z2, z3, z4⟩; contradiction)).symm
          have hP : va_P (dC, dI) vcl [(h, .inr (1, [.int 0, .int g1, .int g2, .int g3, .int g4, .ref g5, .int g6, .ref g7, .ref g8, .ref g9, .ref g10, .ref g11, .int g12, .int g13, .int g14, .ref g15, .int g16, .ref g17, .ref g18, .ref g19, .ref g20, .ref g21, .ref g22, .int g23, .ref g24, .int g25, .int g26, .int g27, .int g28, .ref g29, .int g30, .int g31, .int g32])), (g5, .inl (cI, 8, .inl (if (¬ g1 = 0 ∧ (¬ p0 < 0 ∧ ¬ 8 ≤ p0) ∧ ¬ p0 = g2 ∧ ¬ p1 < 0 ∧ p1 ≤ 10000) then upd fc p0.toNatClampNeg p1 else fc)))] H := by rw [← e_8]; exact hP
          have hD : va_D A [(h, .inr (1, [.int 0, .int g1, .int g2, .int g3, .int g4, .ref g5, .int g6, .ref g7, .ref g8, .ref g9, .ref g10, .ref g11, .int g12, .int g13, .int g14, .ref g15, .int g16, .ref g17, .ref g18, .ref g19, .ref g20, .ref g21, .ref g22, .int g23, .ref g24, .int g25, .int g26, .int g27, .int g28, .ref g29, .int g30, .int g31, .int g32])), (g5, .inl (cI, 8, .inl (if (¬ g1 = 0 ∧ (¬ p0 < 0 ∧ ¬ 8 ≤ p0) ∧ ¬ p0 = g2 ∧ ¬ p1 < 0 ∧ p1 ≤ 10000) then upd fc p0.toNatClampNeg p1 else fc)))] := by rw [← e_8]; exact hD
          have hP9 := hP.sub (ws' := [(h, .inr (1, [.int 0, .int g1, .int g2, .int g3, .int g4, .ref g5, .int g6, .ref g7, .ref g8, .ref g9, .ref g10, .ref g11, .int g12, .int g13, .int g14, .ref g15, .int g16, .ref g17, .ref g18, .ref g19, .ref g20, .ref g21, .ref g22, .int g23, .ref g24, .int g25, .int g26, .int g27, .int g28, .ref g29, .int g30, .int g31, .int g32])), (g5, .inl (cI, 8, .inl (if (¬ g1 = 0 ∧ (¬ p0 < 0 ∧ ¬ 8 ≤ p0) ∧ ¬ p0 = g2 ∧ ¬ p1 < 0 ∧ p1 ≤ 10000) then upd fc p0.toNatClampNeg p1 else fc)))]) [0, 1] rfl
          have hD9 := hD.sub (ws' := [(h, .inr (1, [.int 0, .int g1, .int g2, .int g3, .int g4, .ref g5, .int g6, .ref g7, .ref g8, .ref g9, .ref g10, .ref g11, .int g12, .int g13, .int g14, .ref g15, .int g16, .ref g17, .ref g18, .ref g19, .ref g20, .ref g21, .ref g22, .int g23, .ref g24, .int g25, .int g26, .int g27, .int g28, .ref g29, .int g30, .int g31, .int g32])), (g5, .inl (cI, 8, .inl (if (¬ g1 = 0 ∧ (¬ p0 < 0 ∧ ¬ 8 ≤ p0) ∧ ¬ p0 = g2 ∧ ¬ p1 < 0 ∧ p1 ≤ 10000) then upd fc p0.toNatClampNeg p1 else fc)))]) [0, 1] (by decide) rfl
          refine W.widen (k := 0) (n := 0) (by first | exact Nat.le_refl _ | omega) (by first | exact Nat.le_refl _ | omega) ?_
          exact W.zret (ty := .boolean) (v := 0) hx hb hr (by rfl) (fun t ht hW => ⟨⟨0, (), rfl, (b2i_f (by rintro ⟨z0, z1, z2, z3, z4⟩; contradiction)), by rw [ht]; exact hP9, va_K.moved hW.alike hK, hD9⟩, hS.F ht⟩) hS.2.2 dd_M_hangs_39
        · refine lv_iload_n hx hb dd_M_hangs_31 rfl (lv_at hl 2 rfl) ?_
          refine lv_sipush (v := 10000) hx hb dd_M_hangs_32 (by decide) ?_
          refine lv_icmp_le (tgt := 40) hx hb dd_M_hangs_35 (by decide) (fun c_9 => ?_) (fun c_9 => ?_)
          · refine lv_aload_n hx hb dd_M_hangs_40 rfl (lv_at hl 0 rfl) ?_
            refine va_get (D := (dC, dI)) (ci := 1) (v := .ref g5) (C := RR_M) (T := TT_M) (N := 33) hx hb hw hh_M hown hK hP 0 rfl rfl 5 (by decide) (hw _ qq_584) (fun _ h9 => h9) rfl dd_M_hangs_41 ?_
            refine lv_iload_n hx hb dd_M_hangs_44 rfl (lv_at hl 1 rfl) ?_
            refine lv_iload_n hx hb dd_M_hangs_45 rfl (lv_at hl 2 rfl) ?_
            refine va_iast hx hb hK hP hD hS 1 1 rfl rfl (vp_in_c (by decide) c_3.1 c_3.2) dd_M_hangs_46 (fun H locs hP hD hS => ?_)
            have hP : va_P (dC, dI) vcl [(h, .inr (1, [.int 0, .int g1, .int g2, .int g3, .int g4, .ref g5, .int g6, .ref g7, .ref g8, .ref g9, .ref g10, .ref g11, .int g12, .int g13, .int g14, .ref g15, .int g16, .ref g17, .ref g18, .ref g19, .ref g20, .ref g21, .ref g22, .int g23, .ref g24, .int g25, .int g26, .int g27, .int g28, .ref g29, .int g30, .int g31, .int g32])), (g5, .inl (cI, 8, .inl (upd fc p0.toNatClampNeg p1)))] H := hP
            have hD : va_D A [(h, .inr (1, [.int 0, .int g1, .int g2, .int g3, .int g4, .ref g5, .int g6, .ref g7, .ref g8, .ref g9, .ref g10, .ref g11, .int g12, .int g13, .int g14, .ref g15, .int g16, .ref g17, .ref g18, .ref g19, .ref g20, .ref g21, .ref g22, .int g23, .ref g24, .int g25, .int g26, .int g27, .int g28, .ref g29, .int g30, .int g31, .int g32])), (g5, .inl (cI, 8, .inl (upd fc p0.toNatClampNeg p1)))] := hD
            refine lv_iconst (v := 1) hx hb dd_M_hangs_47 (by decide) ?_
            have e_10 : (upd fc p0.toNatClampNeg p1) = (if (¬ g1 = 0 ∧ (¬ p0 < 0 ∧ ¬ 8 ≤ p0) ∧ ¬ p0 = g2 ∧ ¬ p1 < 0 ∧ p1 ≤ 10000) then upd fc p0.toNatClampNeg p1 else fc) := (if_pos (by repeat' (first | assumption | apply And.intro))).symm
            have hP : va_P (dC, dI) vcl [(h, .inr (1, [.int 0, .int g1, .int g2, .int g3, .int g4, .ref g5, .int g6, .ref g7, .ref g8, .ref g9, .ref g10, .ref g11, .int g12, .int g13, .int g14, .ref g15, .int g16, .ref g17, .ref g18, .ref g19, .ref g20, .ref g21, .ref g22, .int g23, .ref g24, .int g25, .int g26, .int g27, .int g28, .ref g29, .int g30, .int g31, .int g32])), (g5, .inl (cI, 8, .inl (if (¬ g1 = 0 ∧ (¬ p0 < 0 ∧ ¬ 8 ≤ p0) ∧ ¬ p0 = g2 ∧ ¬ p1 < 0 ∧ p1 ≤ 10000) then upd fc p0.toNatClampNeg p1 else fc)))] H := by rw [← e_10]; exact hP
            have hD : va_D A [(h, .inr (1, [.int 0, .int g1, .int g2, .int g3, .int g4, .ref g5, .int g6, .ref g7, .ref g8, .ref g9, .ref g10, .ref g11, .int g12, .int g13, .int g14, .ref g15, .int g16, .ref g17, .ref g18, .ref g19, .ref g20, .ref g21, .ref g22, .int g23, .ref g24, .int g25, .int g26, .int g27, .int g28, .ref g29, .int g30, .int g31, .int g32])), (g5, .inl (cI, 8, .inl (if (¬ g1 = 0 ∧ (¬ p0 < 0 ∧ ¬ 8 ≤ p0) ∧ ¬ p0 = g2 ∧ ¬ p1 < 0 ∧ p1 ≤ 10000) then upd fc p0.toNatClampNeg p1 else fc)))] := by rw [← e_10]; exact hD
            have hP9 := hP.sub (ws' := [(h, .inr (1, [.int 0, .int g1, .int g2, .int g3, .int g4, .ref g5, .int g6, .ref g7, .ref g8, .ref g9, .ref g10, .ref g11, .int g12, .int g13, .int g14, .ref g15, .int g16, .ref g17, .ref g18, .ref g19, .ref g20, .ref g21, .ref g22, .int g23, .ref g24, .int g25, .int g26, .int g27, .int g28, .ref g29, .int g30, .int g31, .int g32])), (g5, .inl (cI, 8, .inl (if (¬ g1 = 0 ∧ (¬ p0 < 0 ∧ ¬ 8 ≤ p0) ∧ ¬ p0 = g2 ∧ ¬ p1 < 0 ∧ p1 ≤ 10000) then upd fc p0.toNatClampNeg p1 else fc)))]) [0, 1] rfl
            have hD9 := hD.sub (ws' := [(h, .inr (1, [.int 0, .int g1, .int g2, .int g3, .int g4, .ref g5, .int g6, .ref g7, .ref g8, .ref g9, .ref g10, .ref g11, .int g12, .int g13, .int g14, .ref g15, .int g16, .ref g17, .ref g18, .ref g19, .ref g20, .ref g21, .ref g22, .int g23, .ref g24, .int g25, .int g26, .int g27, .int g28, .ref g29, .int g30, .int g31, .int g32])), (g5, .inl (cI, 8, .inl (if (¬ g1 = 0 ∧ (¬ p0 < 0 ∧ ¬ 8 ≤ p0) ∧ ¬ p0 = g2 ∧ ¬ p1 < 0 ∧ p1 ≤ 10000) then upd fc p0.toNatClampNeg p1 else fc)))]) [0, 1] (by decide) rfl
            refine W.widen (k := 0) (n := 0) (by first | exact Nat.le_refl _ | omega) (by first | exact Nat.le_refl _ | omega) ?_
            exact W.zret (ty := .boolean) (v := 1) hx hb hr (by rfl) (fun t ht hW => ⟨⟨1, (), rfl, (b2i_t (by repeat' (first | assumption | apply And.intro))), by rw [ht]; exact hP9, va_K.moved hW.alike hK, hD9⟩, hS.F ht⟩) hS.2.2 dd_M_hangs_48
          · refine lv_iconst (v := 0) hx hb dd_M_hangs_38 (by decide) ?_
            have e_11 : fc = (if (¬ g1 = 0 ∧ (¬ p0 < 0 ∧ ¬ 8 ≤ p0) ∧ ¬ p0 = g2 ∧ ¬ p1 < 0 ∧ p1 ≤ 10000) then upd fc p0.toNatClampNeg p1 else fc) := (if_neg (by rintro ⟨z0, z1, z2, z3, z4⟩; contradiction)).symm
            have hP : va_P (dC, dI) vcl [(h, .inr (1, [.int 0, .int g1, .int g2, .int g3, .int g4, .ref g5, .int g6, .ref g7, .ref g8, .ref g9, .ref g10, .ref g11, .int g12, .int g13, .int g14, .ref g15, .int g16, .ref g17, .ref g18, .ref g19, .ref g20, .ref g21, .ref g22, .int g23, .ref g24, .int g25, .int g26, .int g27, .int g28, .ref g29, .int g30, .int g31, .int g32])), (g5, .inl (cI, 8, .inl (if (¬ g1 = 0 ∧ (¬ p0 < 0 ∧ ¬ 8 ≤ p0) ∧ ¬ p0 = g2 ∧ ¬ p1 < 0 ∧ p1 ≤ 10000) then upd fc p0.toNatClampNeg p1 else fc)))] H := by rw [← e_11]; exact hP
            have hD : va_D A [(h, .inr (1, [.int 0, .int g1, .int g2, .int g3, .int g4, .ref g5, .int g6, .ref g7, .ref g8, .ref g9, .ref g10, .ref g11, .int g12, .int g13, .int g14, .ref g15, .int g16, .ref g17, .ref g18, .ref g19, .ref g20, .ref g21, .ref g22, .int g23, .ref g24, .int g25, .int g26, .int g27, .int g28, .ref g29, .int g30, .int g31, .int g32])), (g5, .inl (cI, 8, .inl (if (¬ g1 = 0 ∧ (¬ p0 < 0 ∧ ¬ 8 ≤ p0) ∧ ¬ p0 = g2 ∧ ¬ p1 < 0 ∧ p1 ≤ 10000) then upd fc p0.toNatClampNeg p1 else fc)))] := by rw [← e_11]; exact hD
            have hP9 := hP.sub (ws' := [(h, .inr (1, [.int 0, .int g1, .int g2, .int g3, .int g4, .ref g5, .int g6, .ref g7, .ref g8, .ref g9, .ref g10, .ref g11, .int g12, .int g13, .int g14, .ref g15, .int g16, .ref g17, .ref g18, .ref g19, .ref g20, .ref g21, .ref g22, .int g23, .ref g24, .int g25, .int g26, .int g27, .int g28, .ref g29, .int g30, .int g31, .int g32])), (g5, .inl (cI, 8, .inl (if (¬ g1 = 0 ∧ (¬ p0 < 0 ∧ ¬ 8 ≤ p0) ∧ ¬ p0 = g2 ∧ ¬ p1 < 0 ∧ p1 ≤ 10000) then upd fc p0.toNatClampNeg p1 else fc)))]) [0, 1] rfl
            have hD9 := hD.sub (ws' := [(h, .inr (1, [.int 0, .int g1, .int g2, .int g3, .int g4, .ref g5, .int g6, .ref g7, .ref g8, .ref g9, .ref g10, .ref g11, .int g12, .int g13, .int g14, .ref g15, .int g16, .ref g17, .ref g18, .ref g19, .ref g20, .ref g21, .ref g22, .int g23, .ref g24, .int g25, .int g26, .int g27, .int g28, .ref g29, .int g30, .int g31, .int g32])), (g5, .inl (cI, 8, .inl (if (¬ g1 = 0 ∧ (¬ p0 < 0 ∧ ¬ 8 ≤ p0) ∧ ¬ p0 = g2 ∧ ¬ p1 < 0 ∧ p1 ≤ 10000) then upd fc p0.toNatClampNeg p1 else fc)))]) [0, 1] (by decide) rfl
            refine W.widen (k := 0) (n := 0) (by first | exact Nat.le_refl _ | omega) (by first | exact Nat.le_refl _ | omega) ?_
            exact W.zret (ty := .boolean) (v := 0) hx hb hr (by rfl) (fun t ht hW => ⟨⟨0, (), rfl, (b2i_f (by rintro ⟨z0, z1, z2, z3, z4⟩; contradiction)), by rw [ht]; exact hP9, va_K.moved hW.alike hK, hD9⟩, hS.F ht⟩) hS.2.2 dd_M_hangs_39

set_option maxHeartbeats 4000000 in
set_option maxRecDepth 100000 in
/-- undo() -/
theorem cb_M_undo (l : Launch) (dC : Nat → ClassId) (dI : Nat → Nat → Nat) (cB cI cJ : ClassId) (sz : Nat) (h : Nat) (g0 g1 g2 g3 g4 g6 g12 g13 g14 g16 g23 g25 g26 g27 g28 g30 g31 g32 : Int32) (g5 g7 g8 g9 g10 g11 g15 g17 g18 g19 g20 g21 g22 g24 g29 : Nat) : Met l yy_M_undo (Cond.code yy_M_undo cc_M_undo 1 (some .boolean) :: gw) { frames := 0, cells := 0, slots := 0, locals := 0 } (va_Pc [.ref h] (ks_pre dC dI [(cB, .byte), (cI, .int), (cJ, .long)] [(h, .inr (1, [.int g0, .int g1, .int g2, .int g3, .int g4, .ref g5, .int g6, .ref g7, .ref g8, .ref g9, .ref g10, .ref g11, .int g12, .int g13, .int g14, .ref g15, .int g16, .ref g17, .ref g18, .ref g19, .ref g20, .ref g21, .ref g22, .int g23, .ref g24, .int g25, .int g26, .int g27, .int g28, .ref g29, .int g30, .int g31, .int g32]))] sz)) (va_Qi (fun r (_u : Unit) => r = b2i (decide (¬ g1 = 0 ∧ ¬ g6 = 0))) (fun (_u : Unit) => ks_post dC dI [(cB, .byte), (cI, .int), (cJ, .long)] (va_A [(h, .inr (1, [.int g0, .int g1, .int g2, .int g3, .int g4, .ref g5, .int g6, .ref g7, .ref g8, .ref g9, .ref g10, .ref g11, .int g12, .int g13, .int g14, .ref g15, .int g16, .ref g17, .ref g18, .ref g19, .ref g20, .ref g21, .ref g22, .int g23, .ref g24, .int g25, .int g26, .int g27, .int g28, .ref g29, .int g30, .int g31, .int g32]))] sz) [(h, .inr (1, [.int 0, .int g1, .int g2, .int g3, .int g4, .ref g5, .int (if (¬ g1 = 0 ∧ ¬ g6 = 0) then g6 - 1 else g6), .ref g7, .ref g8, .ref g9, .ref g10, .ref g11, .int g12, .int g13, .int g14, .ref g15, .int g16, .ref g17, .ref g18, .ref g19, .ref g20, .ref g21, .ref g22, .int g23, .ref g24, .int g25, .int g26, .int g27, .int g28, .ref g29, .int g30, .int g31, .int g32]))]) (va_A [(h, .inr (1, [.int g0, .int g1, .int g2, .int g3, .int g4, .ref g5, .int g6, .ref g7, .ref g8, .ref g9, .ref g10, .ref g11, .int g12, .int g13, .int g14, .ref g15, .int g16, .ref g17, .ref g18, .ref g19, .ref g20, .ref g21, .ref g22, .int g23, .ref g24, .int g25, .int g26, .int g27, .int g28, .ref g29, .int g30, .int g31, .int g32]))] sz)) 0 0 (va_A [(h, .inr (1, [.int g0, .int g1, .int g2, .int g3, .int g4, .ref g5, .int g6, .ref g7, .ref g8, .ref g9, .ref g10, .ref g11, .int g12, .int g13, .int g14, .ref g15, .int g16, .ref g17, .ref g18, .ref g19, .ref g20, .ref g21, .ref g22, .int g23, .ref g24, .int g25, .int g26, .int g27, .int g28, .ref g29, .int g30, .int g31, .int g32]))] sz) := by
  refine Met.ofW (cc := cc_M_undo) (maxL := 1) (ret := (some .boolean)) (by decide) rfl ?_
  intro p e s m args below meth c s₁ B hml hv
  obtain ⟨rfl, hsz, hP, hK, hD0⟩ := hv
  have hx := B.exec
  have hb := B.bytes
  have hr := B.returns
  have hw : ∀ w ∈ gw, w.before _ s = true := fun w h => atoms_spec (ws := (Cond.code yy_M_undo cc_M_undo 1 (some .boolean) :: gw)) B.pre w (List.mem_cons_of_mem _ h)
  have hown : s.vm.findClass RR_M = some m.cls := findClass_of_methodNamed B.named
  have hlocks := B.notSynchronized
  subst hsz
  have hD := hD0.self (sz := s.heap.size)
  generalize hAe : va_A [(h, .inr (1, [.int g0, .int g1, .int g2, .int g3, .int g4, .ref g5, .int g6, .ref g7, .ref g8, .ref g9, .ref g10, .ref g11, .int g12, .int g13, .int g14, .ref g15, .int g16, .ref g17, .ref g18, .ref g19, .ref g20, .ref g21, .ref g22, .int g23, .ref g24, .int g25, .int g26, .int g27, .int g28, .ref g29, .int g30, .int g31, .int g32]))] s.heap.size = A at hD ⊢
  have hA : ∀ q : Nat, s.heap.size ≤ q → A q := fun q h => by rw [← hAe]; exact Or.inr h
  have hS : va_S A s.heap s.heap [] := va_S.rf
  have hP : va_P (dC, dI) vcl [(h, .inr (1, [.int g0, .int g1, .int g2, .int g3, .int g4, .ref g5, .int g6, .ref g7, .ref g8, .ref g9, .ref g10, .ref g11, .int g12, .int g13, .int g14, .ref g15, .int g16, .ref g17, .ref g18, .ref g19, .ref g20, .ref g21, .ref g22, .int g23, .ref g24, .int g25, .int g26, .int g27, .int g28, .ref g29, .int g30, .int g31, .int g32]))] s.heap := hP
  have hl := lv_entry ([.ref h]) (n := 1) (Nat.le_of_ble_eq_true rfl)
  rw [lg_entry_eq]
  generalize (lg_sl ([.ref h]) ++ List.replicate (1 - (lg_sl ([.ref h])).length) Slot.unset).toArray = ls at hl ⊢
  have hl : lv_has ls 1 [(0, .ref h)] := hl
  refine lv_aload_n hx hb dd_M_undo_0 rfl (lv_at hl 0 rfl) ?_
  refine lv_iconst (v := 0) hx hb dd_M_undo_1 (by decide) ?_
  refine va_put (D := (dC, dI)) (ci := 1) (v := .int 0) (ty := .int) (C := RR_M) (T := TT_M) (N := 33) hx hb hw hh_M ty_M ty_M_ok nm_M hown hK hP hD hS 0 rfl rfl 0 (by decide) (hw _ qq_579) (fun _ h9 => h9) rfl (by decide +kernel) rfl rfl (Nat.le_of_ble_eq_true rfl) dd_M_undo_2 (fun H locs hP hD hS => ?_)
  have hP : va_P (dC, dI) vcl [(h, .inr (1, [.int 0, .int g1, .int g2, .int g3, .int g4, .ref g5, .int g6, .ref g7, .ref g8, .ref g9, .ref g10, .ref g11, .int g12, .int g13, .int g14, .ref g15, .int g16, .ref g17, .ref g18, .ref g19, .ref g20, .ref g21, .ref g22, .int g23, .ref g24, .int g25, .int g26, .int g27, .int g28, .ref g29, .int g30, .int g31, .int g32]))] H := hP
  have hD : va_D A [(h, .inr (1, [.int 0, .int g1, .int g2, .int g3, .int g4, .ref g5, .int g6, .ref g7, .ref g8, .ref g9, .ref g10, .ref g11, .int g12, .int g13, .int g14, .ref g15, .int g16, .ref g17, .ref g18, .ref g19, .ref g20, .ref g21, .ref g22, .int g23, .ref g24, .int g25, .int g26, .int g27, .int g28, .ref g29, .int g30, .int g31, .int g32]))] := hD
  refine lv_aload_n hx hb dd_M_undo_5 rfl (lv_at hl 0 rfl) ?_
  refine va_get (D := (dC, dI)) (ci := 1) (v := .int g1) (C := RR_M) (T := TT_M) (N := 33) hx hb hw hh_M hown hK hP 0 rfl rfl 1 (by decide) (hw _ qq_580) (fun _ h9 => h9) rfl dd_M_undo_6 ?_
  refine lv_if_eq (tgt := 19) hx hb dd_M_undo_9 (by decide) (fun c_1 => ?_) (fun c_1 => ?_)
  · refine lv_iconst (v := 0) hx hb dd_M_undo_19 (by decide) ?_
    have e_2 : (g6 : Int32) = (if (¬ g1 = 0 ∧ ¬ g6 = 0) then g6 - 1 else g6) := (if_neg (by simp [c_1])).symm
    have hP : va_P (dC, dI) vcl [(h, .inr (1, [.int 0, .int g1, .int g2, .int g3, .int g4, .ref g5, .int (if (¬ g1 = 0 ∧ ¬ g6 = 0) then g6 - 1 else g6), .ref g7, .ref g8, .ref g9, .ref g10, .ref g11, .int g12, .int g13, .int g14, .ref g15, .int g16, .ref g17, .ref g18, .ref g19, .ref g20, .ref g21, .ref g22, .int g23, .ref g24, .int g25, .int g26, .int g27, .int g28, .ref g29, .int g30, .int g31, .int g32]))] H := by rw [← e_2]; exact hP
    have hD : va_D A [(h, .inr (1, [.int 0, .int g1, .int g2, .int g3, .int g4, .ref g5, .int (if (¬ g1 = 0 ∧ ¬ g6 = 0) then g6 - 1 else g6), .ref g7, .ref g8, .ref g9, .ref g10, .ref g11, .int g12, .int g13, .int g14, .ref g15, .int g16, .ref g17, .ref g18, .ref g19, .ref g20, .ref g21, .ref g22, .int g23, .ref g24, .int g25, .int g26, .int g27, .int g28, .ref g29, .int g30, .int g31, .int g32]))] := by rw [← e_2]; exact hD
    have hP9 := hP.sub (ws' := [(h, .inr (1, [.int 0, .int g1, .int g2, .int g3, .int g4, .ref g5, .int (if (¬ g1 = 0 ∧ ¬ g6 = 0) then g6 - 1 else g6), .ref g7, .ref g8, .ref g9, .ref g10, .ref g11, .int g12, .int g13, .int g14, .ref g15, .int g16, .ref g17, .ref g18, .ref g19, .ref g20, .ref g21, .ref g22, .int g23, .ref g24, .int g25, .int g26, .int g27, .int g28, .ref g29, .int g30, .int g31, .int g32]))]) [0] rfl
    have hD9 := hD.sub (ws' := [(h, .inr (1, [.int 0, .int g1, .int g2, .int g3, .int g4, .ref g5, .int (if (¬ g1 = 0 ∧ ¬ g6 = 0) then g6 - 1 else g6), .ref g7, .ref g8, .ref g9, .ref g10, .ref g11, .int g12, .int g13, .int g14, .ref g15, .int g16, .ref g17, .ref g18, .ref g19, .ref g20, .ref g21, .ref g22, .int g23, .ref g24, .int g25, .int g26, .int g27, .int g28, .ref g29, .int g30, .int g31, .int g32]))]) [0] (by decide) rfl
    refine W.widen (k := 0) (n := 0) (by first | exact Nat.le_refl _ | omega) (by first | exact Nat.le_refl _ | omega) ?_
    exact W.zret (ty := .boolean) (v := 0) hx hb hr (by rfl) (fun t ht hW => ⟨⟨0, (), rfl, (b2i_f (by simp [c_1])), by rw [ht]; exact hP9, va_K.moved hW.alike hK, hD9⟩, hS.F ht⟩) hS.2.2 dd_M_undo_20
  · refine lv_aload_n hx hb dd_M_undo_12 rfl (lv_at hl 0 rfl) ?_
    refine va_get (D := (dC, dI)) (ci := 1) (v := .int g6) (C := RR_M) (T := TT_M) (N := 33) hx hb hw hh_M hown hK hP 0 rfl rfl 6 (by decide) (hw _ qq_585) (fun _ h9 => h9) rfl dd_M_undo_13 ?_
    refine lv_if_ne (tgt := 21) hx hb dd_M_undo_16 (by decide) (fun c_3 => ?_) (fun c_3 => ?_)
    · refine lv_aload_n hx hb dd_M_undo_21 rfl (lv_at hl 0 rfl) ?_
      refine lv_dup hx hb dd_M_undo_22 rfl ?_
      refine va_get (D := (dC, dI)) (ci := 1) (v := .int g6) (C := RR_M) (T := TT_M) (N := 33) hx hb hw hh_M hown hK hP 0 rfl rfl 6 (by decide) (hw _ qq_585) (fun _ h9 => h9) rfl dd_M_undo_23 ?_
      refine lv_iconst (v := 1) hx hb dd_M_undo_26 (by decide) ?_
      refine lv_isub hx hb dd_M_undo_27 ?_
      refine va_put (D := (dC, dI)) (ci := 1) (v := .int (g6 - 1)) (ty := .int) (C := RR_M) (T := TT_M) (N := 33) hx hb hw hh_M ty_M ty_M_ok nm_M hown hK hP hD hS 0 rfl rfl 6 (by decide) (hw _ qq_585) (fun _ h9 => h9) rfl (by decide +kernel) rfl rfl (Nat.le_of_ble_eq_true rfl) dd_M_undo_28 (fun H locs hP hD hS => ?_)
      have hP : va_P (dC, dI) vcl [(h, .inr (1, [.int 0, .int g1, .int g2, .int g3, .int g4, .ref g5, .int (g6 - 1), .ref g7, .ref g8, .ref g9, .ref g10, .ref g11, .int g12, .int g13, .int g14, .ref g15, .int g16, .ref g17, .ref g18, .ref g19, .ref g20, .ref g21, .ref g22, .int g23, .ref g24, .int g25, .int g26, .int g27, .int g28, .ref g29, .int g30, .int g31, .int g32]))] H := hP
      have hD : va_D A [(h, .inr (1, [.int 0, .int g1, .int g2, .int g3, .int g4, .ref g5, .int (g6 - 1), .ref g7, .ref g8, .ref g9, .ref g10, .ref g11, .int g12, .int g13, .int g14, .ref g15, .int g16, .ref g17, .ref g18, .ref g19, .ref g20, .ref g21, .ref g22, .int g23, .ref g24, .int g25, .int g26, .int g27, .int g28, .ref g29, .int g30, .int g31, .int g32]))] := hD
      refine lv_iconst (v := 1) hx hb dd_M_undo_31 (by decide) ?_
      have e_4 : (g6 - 1 : Int32) = (if (¬ g1 = 0 ∧ ¬ g6 = 0) then g6 - 1 else g6) := (if_pos (by simp [c_1, c_3])).symm
      have hP : va_P (dC, dI) vcl [(h, .inr (1, [.int 0, .int g1, .int g2, .int g3, .int g4, .ref g5, .int (if (¬ g1 = 0 ∧ ¬ g6 = 0) then g6 - 1 else g6), .ref g7, .ref g8, .ref g9, .ref g10, .ref g11, .int g12, .int g13, .int g14, .ref g15, .int g16, .ref g17, .ref g18, .ref g19, .ref g20, .ref g21, .ref g22, .int g23, .ref g24, .int g25, .int g26, .int g27, .int g28, .ref g29, .int g30, .int g31, .int g32]))] H := by rw [← e_4]; exact hP
      have hD : va_D A [(h, .inr (1, [.int 0, .int g1, .int g2, .int g3, .int g4, .ref g5, .int (if (¬ g1 = 0 ∧ ¬ g6 = 0) then g6 - 1 else g6), .ref g7, .ref g8, .ref g9, .ref g10, .ref g11, .int g12, .int g13, .int g14, .ref g15, .int g16, .ref g17, .ref g18, .ref g19, .ref g20, .ref g21, .ref g22, .int g23, .ref g24, .int g25, .int g26, .int g27, .int g28, .ref g29, .int g30, .int g31, .int g32]))] := by rw [← e_4]; exact hD
      have hP9 := hP.sub (ws' := [(h, .inr (1, [.int 0, .int g1, .int g2, .int g3, .int g4, .ref g5, .int (if (¬ g1 = 0 ∧ ¬ g6 = 0) then g6 - 1 else g6), .ref g7, .ref g8, .ref g9, .ref g10, .ref g11, .int g12, .int g13, .int g14, .ref g15, .int g16, .ref g17, .ref g18, .ref g19, .ref g20, .ref g21, .ref g22, .int g23, .ref g24, .int g25, .int g26, .int g27, .int g28, .ref g29, .int g30, .int g31, .int g32]))]) [0] rfl
      have hD9 := hD.sub (ws' := [(h, .inr (1, [.int 0, .int g1, .int g2, .int g3, .int g4, .ref g5, .int (if (¬ g1 = 0 ∧ ¬ g6 = 0) then g6 - 1 else g6), .ref g7, .ref g8, .ref g9, .ref g10, .ref g11, .int g12, .int g13, .int g14, .ref g15, .int g16, .ref g17, .ref g18, .ref g19, .ref g20, .ref g21, .ref g22, .int g23, .ref g24, .int g25, .int g26, .int g27, .int g28, .ref g29, .int g30, .int g31, .int g32]))]) [0] (by decide) rfl
      refine W.widen (k := 0) (n := 0) (by first | exact Nat.le_refl _ | omega) (by first | exact Nat.le_refl _ | omega) ?_
      exact W.zret (ty := .boolean) (v := 1) hx hb hr (by rfl) (fun t ht hW => ⟨⟨1, (), rfl, (b2i_t (by simp [c_1, c_3])), by rw [ht]; exact hP9, va_K.moved hW.alike hK, hD9⟩, hS.F ht⟩) hS.2.2 dd_M_undo_32
    · refine lv_iconst (v := 0) hx hb dd_M_undo_19 (by decide) ?_
      have e_5 : (g6 : Int32) = (if (¬ g1 = 0 ∧ ¬ g6 = 0) then g6 - 1 else g6) := (if_neg (by simp [c_1, c_3])).symm
      have hP : va_P (dC, dI) vcl [(h, .inr (1, [.int 0, .int g1, .int g2, .int g3, .int g4, .ref g5, .int (if (¬ g1 = 0 ∧ ¬ g6 = 0) then g6 - 1 else g6), .ref g7, .ref g8, .ref g9, .ref g10, .ref g11, .int g12, .int g13, .int g14, .ref g15, .int g16, .ref g17, .ref g18, .ref g19, .ref g20, .ref g21, .ref g22, .int g23, .ref g24, .int g25, .int g26, .int g27, .int g28, .ref g29, .int g30, .int g31, .int g32]))] H := by rw [← e_5]; exact hP
      have hD : va_D A [(h, .inr (1, [.int 0, .int g1, .int g2, .int g3, .int g4, .ref g5, .int (if (¬ g1 = 0 ∧ ¬ g6 = 0) then g6 - 1 else g6), .ref g7, .ref g8, .ref g9, .ref g10, .ref g11, .int g12, .int g13, .int g14, .ref g15, .int g16, .ref g17, .ref g18, .ref g19, .ref g20, .ref g21, .ref g22, .int g23, .ref g24, .int g25, .int g26, .int g27, .int g28, .ref g29, .int g30, .int g31, .int g32]))] := by rw [← e_5]; exact hD
      have hP9 := hP.sub (ws' := [(h, .inr (1, [.int 0, .int g1, .int g2, .int g3, .int g4, .ref g5, .int (if (¬ g1 = 0 ∧ ¬ g6 = 0) then g6 - 1 else g6), .ref g7, .ref g8, .ref g9, .ref g10, .ref g11, .int g12, .int g13, .int g14, .ref g15, .int g16, .ref g17, .ref g18, .ref g19, .ref g20, .ref g21, .ref g22, .int g23, .ref g24, .int g25, .int g26, .int g27, .int g28, .ref g29, .int g30, .int g31, .int g32]))]) [0] rfl
      have hD9 := hD.sub (ws' := [(h, .inr (1, [.int 0, .int g1, .int g2, .int g3, .int g4, .ref g5, .int (if (¬ g1 = 0 ∧ ¬ g6 = 0) then g6 - 1 else g6), .ref g7, .ref g8, .ref g9, .ref g10, .ref g11, .int g12, .int g13, .int g14, .ref g15, .int g16, .ref g17, .ref g18, .ref g19, .ref g20, .ref g21, .ref g22, .int g23, .ref g24, .int g25, .int g26, .int g27, .int g28, .ref g29, .int g30, .int g31, .int g32]))]) [0] (by decide) rfl
      refine W.widen (k := 0) (n := 0) (by first | exact Nat.le_refl _ | omega) (by first | exact Nat.le_refl _ | omega) ?_
      exact W.zret (ty := .boolean) (v := 0) hx hb hr (by rfl) (fun t ht hW => ⟨⟨0, (), rfl, (b2i_f (by simp [c_1, c_3])), by rw [ht]; exact hP9, va_K.moved hW.alike hK, hD9⟩, hS.F ht⟩) hS.2.2 dd_M_undo_20

set_option maxHeartbeats 4000000 in
set_option maxRecDepth 100000 in
/-- cut(n) -/
theorem cb_M_cut (l : Launch) (dC : Nat → ClassId) (dI : Nat → Nat → Nat) (cB cI cJ : ClassId) (sz : Nat) (h : Nat) (g0 g1 g2 g3 g4 g6 g12 g13 g14 g16 g23 g25 g26 g27 g28 g30 g31 g32 : Int32) (g5 g7 g8 g9 g10 g11 g15 g17 g18 g19 g20 g21 g22 g24 g29 : Nat) (p0 : Int32) : Met l yy_M_cut (Cond.code yy_M_cut cc_M_cut 2 (some .boolean) :: gw) { frames := 0, cells := 0, slots := 0, locals := 0 } (va_Pc [.ref h, .int p0] (ks_pre dC dI [(cB, .byte), (cI, .int), (cJ, .long)] [(h, .inr (1, [.int g0, .int g1, .int g2, .int g3, .int g4, .ref g5, .int g6, .ref g7, .ref g8, .ref g9, .ref g10, .ref g11, .int g12, .int g13, .int g14, .ref g15, .int g16, .ref g17, .ref g18, .ref g19, .ref g20, .ref g21, .ref g22, .int g23, .ref g24, .int g25, .int g26, .int g27, .int g28, .ref g29, .int g30, .int g31, .int g32]))] sz)) (va_Qi (fun r (_u : Unit) => r = b2i (decide (¬ p0 < 0 ∧ p0 ≤ g25))) (fun (_u : Unit) => ks_post dC dI [(cB, .byte), (cI, .int), (cJ, .long)] (va_A [(h, .inr (1, [.int g0, .int g1, .int g2, .int g3, .int g4, .ref g5, .int g6, .ref g7, .ref g8, .ref g9, .ref g10, .ref g11, .int g12, .int g13, .int g14, .ref g15, .int g16, .ref g17, .ref g18, .ref g19, .ref g20, .ref g21, .ref g22, .int g23, .ref g24, .int g25, .int g26, .int g27, .int g28, .ref g29, .int g30, .int g31, .int g32]))] sz) [(h, .inr (1, [.int 0, .int g1, .int g2, .int g3, .int g4, .ref g5, .int g6, .ref g7, .ref g8, .ref g9, .ref g10, .ref g11, .int g12, .int g13, .int g14, .ref g15, .int g16, .ref g17, .ref g18, .ref g19, .ref g20, .ref g21, .ref g22, .int g23, .ref g24, .int (if (¬ p0 < 0 ∧ p0 ≤ g25) then p0 else g25), .int (if (¬ p0 < 0 ∧ p0 ≤ g25) then 0 else g26), .int g27, .int g28, .ref g29, .int g30, .int g31, .int g32]))]) (va_A [(h, .inr (1, [.int g0, .int g1, .int g2, .int g3, .int g4, .ref g5, .int g6, .ref g7, .ref g8, .ref g9, .ref g10, .ref g11, .int g12, .int g13, .int g14, .ref g15, .int g16, .ref g17, .ref g18, .ref g19, .ref g20, .ref g21, .ref g22, .int g23, .ref g24, .int g25, .int g26, .int g27, .int g28, .ref g29, .int g30, .int g31, .int g32]))] sz)) 0 0 (va_A [(h, .inr (1, [.int g0, .int g1, .int g2, .int g3, .int g4, .ref g5, .int g6, .ref g7, .ref g8, .ref g9, .ref g10, .ref g11, .int g12, .int g13, .int g14, .ref g15, .int g16, .ref g17, .ref g18, .ref g19, .ref g20, .ref g21, .ref g22, .int g23, .ref g24, .int g25, .int g26, .int g27, .int g28, .ref g29, .int g30, .int g31, .int g32]))] sz) := by
  refine Met.ofW (cc := cc_M_cut) (maxL := 2) (ret := (some .boolean)) (by decide) rfl ?_
  intro p e s m args below meth c s₁ B hml hv
  obtain ⟨rfl, hsz, hP, hK, hD0⟩ := hv
  have hx := B.exec
  have hb := B.bytes
  have hr := B.returns
  have hw : ∀ w ∈ gw, w.before _ s = true := fun w h => atoms_spec (ws := (Cond.code yy_M_cut cc_M_cut 2 (some .boolean) :: gw)) B.pre w (List.mem_cons_of_mem _ h)
  have hown : s.vm.findClass RR_M = some m.cls := findClass_of_methodNamed B.named
  have hlocks := B.notSynchronized
  subst hsz
  have hD := hD0.self (sz := s.heap.size)
  generalize hAe : va_A [(h, .inr (1, [.int g0, .int g1, .int g2, .int g3, .int g4, .ref g5, .int g6, .ref g7, .ref g8, .ref g9, .ref g10, .ref g11, .int g12, .int g13, .int g14, .ref g15, .int g16, .ref g17, .ref g18, .ref g19, .ref g20, .ref g21, .ref g22, .int g23, .ref g24, .int g25, .int g26, .int g27, .int g28, .ref g29, .int g30, .int g31, .int g32]))] s.heap.size = A at hD ⊢
  have hA : ∀ q : Nat, s.heap.size ≤ q → A q := fun q h => by rw [← hAe]; exact Or.inr h
  have hS : va_S A s.heap s.heap [] := va_S.rf
  have hP : va_P (dC, dI) vcl [(h, .inr (1, [.int g0, .int g1, .int g2, .int g3, .int g4, .ref g5, .int g6, .ref g7, .ref g8, .ref g9, .ref g10, .ref g11, .int g12, .int g13, .int g14, .ref g15, .int g16, .ref g17, .ref g18, .ref g19, .ref g20, .ref g21, .ref g22, .int g23, .ref g24, .int g25, .int g26, .int g27, .int g28, .ref g29, .int g30, .int g31, .int g32]))] s.heap := hP
  have hl := lv_entry ([.ref h, .int p0]) (n := 2) (Nat.le_of_ble_eq_true rfl)
  rw [lg_entry_eq]
  generalize (lg_sl ([.ref h, .int p0]) ++ List.replicate (2 - (lg_sl ([.ref h, .int p0])).length) Slot.unset).toArray = ls at hl ⊢
  have hl : lv_has ls 2 [(0, .ref h), (1, .int p0)] := hl
  refine lv_aload_n hx hb dd_M_cut_0 rfl (lv_at hl 0 rfl) ?_
  refine lv_iconst (v := 0) hx hb dd_M_cut_1 (by decide) ?_
  refine va_put (D := (dC, dI)) (ci := 1) (v := .int 0) (ty := .int) (C := RR_M) (T := TT_M) (N := 33) hx hb hw hh_M ty_M ty_M_ok nm_M hown hK hP hD hS 0 rfl rfl 0 (by decide) (hw _ qq_579) (fun _ h9 => h9) rfl (by decide +kernel) rfl rfl (Nat.le_of_ble_eq_true rfl) dd_M_cut_2 (fun H locs hP hD hS => ?_)
  have hP : va_P (dC, dI) vcl [(h, .inr (1, [.int 0, .int g1, .int g2, .int g3, .int g4, .ref g5, .int g6, .ref g7, .ref g8, .ref g9, .ref g10, .ref g11, .int g12, .int g13, .int g14, .ref g15, .int g16, .ref g17, .ref g18, .ref g19, .ref g20, .ref g21, .ref g22, .int g23, .ref g24, .int g25, .int g26, .int g27, .int g28, .ref g29, .int g30, .int g31, .int g32]))] H := hP
  have hD : va_D A [(h, .inr (1, [.int 0, .int g1, .int g2, .int g3, .int g4, .ref g5, .int g6, .ref g7, .ref g8, .ref g9, .ref g10, .ref g11, .int g12, .int g13, .int g14, .ref g15, .int g16, .ref g17, .ref g18, .ref g19, .ref g20, .ref g21, .ref g22, .int g23, .ref g24, .int g25, .int g26, .int g27, .int g28, .ref g29, .int g30, .int g31, .int g32]))] := hD
  refine lv_iload_n hx hb dd_M_cut_5 rfl (lv_at hl 1 rfl) ?_
  refine lv_if_lt (tgt := 17) hx hb dd_M_cut_6 (by decide) (fun c_1 => ?_) (fun c_1 => ?_)
  · refine lv_iconst (v := 0) hx hb dd_M_cut_17 (by decide) ?_
    have e_2 : (g25 : Int32) = (if (¬ p0 < 0 ∧ p0 ≤ g25) then p0 else g25) := (if_neg (by simp [c_1])).symm
    have hP : va_P (dC, dI) vcl [(h, .inr (1, [.int 0, .int g1, .int g2, .int g3, .int g4, .ref g5, .int g6, .ref g7, .ref g8, .ref g9, .ref g10, .ref g11, .int g12, .int g13, .int g14, .ref g15, .int g16, .ref g17, .ref g18, .ref g19, .ref g20, .ref g21, .ref g22, .int g23, .ref g24, .int (if (¬ p0 < 0 ∧ p0 ≤ g25) then p0 else g25), .int g26, .int g27, .int g28, .ref g29, .int g30, .int g31, .int g32]))] H := by rw [← e_2]; exact hP
    have hD : va_D A [(h, .inr (1, [.int 0, .int g1, .int g2, .int g3, .int g4, .ref g5, .int g6, .ref g7, .ref g8, .ref g9, .ref g10, .ref g11, .int g12, .int g13, .int g14, .ref g15, .int g16, .ref g17, .ref g18, .ref g19, .ref g20, .ref g21, .ref g22, .int g23, .ref g24, .int (if (¬ p0 < 0 ∧ p0 ≤ g25) then p0 else g25), .int g26, .int g27, .int g28, .ref g29, .int g30, .int g31, .int g32]))] := by rw [← e_2]; exact hD
    have e_3 : (g26 : Int32) = (if (¬ p0 < 0 ∧ p0 ≤ g25) then 0 else g26) := (if_neg (by simp [c_1])).symm
    have hP : va_P (dC, dI) vcl [(h, .inr (1, [.int 0, .int g1, .int g2, .int g3, .int g4, .ref g5, .int g6, .ref g7, .ref g8, .ref g9, .ref g10, .ref g11, .int g12, .int g13, .int g14, .ref g15, .int g16, .ref g17, .ref g18, .ref g19, .ref g20, .ref g21, .ref g22, .int g23, .ref g24, .int (if (¬ p0 < 0 ∧ p0 ≤ g25) then p0 else g25), .int (if (¬ p0 < 0 ∧ p0 ≤ g25) then 0 else g26), .int g27, .int g28, .ref g29, .int g30, .int g31, .int g32]))] H := by rw [← e_3]; exact hP
    have hD : va_D A [(h, .inr (1, [.int 0, .int g1, .int g2, .int g3, .int g4, .ref g5, .int g6, .ref g7, .ref g8, .ref g9, .ref g10, .ref g11, .int g12, .int g13, .int g14, .ref g15, .int g16, .ref g17, .ref g18, .ref g19, .ref g20, .ref g21, .ref g22, .int g23, .ref g24, .int (if (¬ p0 < 0 ∧ p0 ≤ g25) then p0 else g25), .int (if (¬ p0 < 0 ∧ p0 ≤ g25) then 0 else g26), .int g27, .int g28, .ref g29, .int g30, .int g31, .int g32]))] := by rw [← e_3]; exact hD
    have hP9 := hP.sub (ws' := [(h, .inr (1, [.int 0, .int g1, .int g2, .int g3, .int g4, .ref g5, .int g6, .ref g7, .ref g8, .ref g9, .ref g10, .ref g11, .int g12, .int g13, .int g14, .ref g15, .int g16, .ref g17, .ref g18, .ref g19, .ref g20, .ref g21, .ref g22, .int g23, .ref g24, .int (if (¬ p0 < 0 ∧ p0 ≤ g25) then p0 else g25), .int (if (¬ p0 < 0 ∧ p0 ≤ g25) then 0 else g26), .int g27, .int g28, .ref g29, .int g30, .int g31, .int g32]))]) [0] rfl
    have hD9 := hD.sub (ws' := [(h, .inr (1, [.int 0, .int g1, .int g2, .int g3, .int g4, .ref g5, .int g6, .ref g7, .ref g8, .ref g9, .ref g10, .ref g11, .int g12, .int g13, .int g14, .ref g15, .int g16, .ref g17, .ref g18, .ref g19, .ref g20, .ref g21, .ref g22, .int g23, .ref g24, .int (if (¬ p0 < 0 ∧ p0 ≤ g25) then p0 else g25), .int (if (¬ p0 < 0 ∧ p0 ≤ g25) then 0 else g26), .int g27, .int g28, .ref g29, .int g30, .int g31, .int g32]))]) [0] (by decide) rfl
    refine W.widen (k := 0) (n := 0) (by first | exact Nat.le_refl _ | omega) (by first | exact Nat.le_refl _ | omega) ?_
    exact W.zret (ty := .boolean) (v := 0) hx hb hr (by rfl) (fun t ht hW => ⟨⟨0, (), rfl, (b2i_f (by simp [c_1])), by rw [ht]; exact hP9, va_K.moved hW.alike hK, hD9⟩, hS.F ht⟩) hS.2.2 dd_M_cut_18
  · refine lv_iload_n hx hb dd_M_cut_9 rfl (lv_at hl 1 rfl) ?_
    refine lv_aload_n hx hb dd_M_cut_10 rfl (lv_at hl 0 rfl) ?_
    refine va_get (D := (dC, dI)) (ci := 1) (v := .int g25) (C := RR_M) (T := TT_M) (N := 33) hx hb hw hh_M hown hK hP 0 rfl rfl 25 (by decide) (hw _ qq_604) (fun _ h9 => h9) rfl dd_M_cut_11 ?_
    refine lv_icmp_le (tgt := 19) hx hb dd_M_cut_14 (by decide) (fun c_4 => ?_) (fun c_4 => ?_)
    · refine lv_aload_n hx hb dd_M_cut_19 rfl (lv_at hl 0 rfl) ?_
      refine lv_iload_n hx hb dd_M_cut_20 rfl (lv_at hl 1 rfl) ?_
      refine va_put (D := (dC, dI)) (ci := 1) (v := .int p0) (ty := .int) (C := RR_M) (T := TT_M) (N := 33) hx hb hw hh_M ty_M ty_M_ok nm_M hown hK hP hD hS 0 rfl rfl 25 (by decide) (hw _ qq_604) (fun _ h9 => h9) rfl (by decide +kernel) rfl rfl (Nat.le_of_ble_eq_true rfl) dd_M_cut_21 (fun H locs hP hD hS => ?_)
      have hP : va_P (dC, dI) vcl [(h, .inr (1, [.int 0, .int g1, .int g2, .int g3, .int g4, .ref g5, .int g6, .ref g7, .ref g8, .ref g9, .ref g10, .ref g11, .int g12, .int g13, .int g14, .ref g15, .int g16, .ref g17, .ref g18, .ref g19, .ref g20, .ref g21, .ref g22, .int g23, .ref g24, .int p0, .int g26, .int g27, .int g28, .ref g29, .int g30, .int g31, .int g32]))] H := hP
      have hD : va_D A [(h, .inr (1, [.int 0, .int g1, .int g2, .int g3, .int g4, .ref g5, .int g6, .ref g7, .ref g8, .ref g9, .ref g10, .ref g11, .int g12, .int g13, .int g14, .ref g15, .int g16, .ref g17, .ref g18, .ref g19, .ref g20, .ref g21, .ref g22, .int g23, .ref g24, .int p0, .int g26, .int g27, .int g28, .ref g29, .int g30, .int g31, .int g32]))] := hD
      refine lv_aload_n hx hb dd_M_cut_24 rfl (lv_at hl 0 rfl) ?_
      refine lv_iconst (v := 0) hx hb dd_M_cut_25 (by decide) ?_
      refine va_put (D := (dC, dI)) (ci := 1) (v := .int 0) (ty := .int) (C := RR_M) (T := TT_M) (N := 33) hx hb hw hh_M ty_M ty_M_ok nm_M hown hK hP hD hS 0 rfl rfl 26 (by decide) (hw _ qq_605) (fun _ h9 => h9) rfl (by decide +kernel) rfl rfl (Nat.le_of_ble_eq_true rfl) dd_M_cut_26 (fun H locs hP hD hS => ?_)
      have hP : va_P (dC, dI) vcl [(h, .inr (1, [.int 0, .int g1, .int g2, .int g3, .int g4, .ref g5, .int g6, .ref g7, .ref g8, .ref g9, .ref g10, .ref g11, .int g12, .int g13, .int g14, .ref g15, .int g16, .ref g17, .ref g18, .ref g19, .ref g20, .ref g21, .ref g22, .int g23, .ref g24, .int p0, .int 0, .int g27, .int g28, .ref g29, .int g30, .int g31, .int g32]))] H := hP
      have hD : va_D A [(h, .inr (1, [.int 0, .int g1, .int g2, .int g3, .int g4, .ref g5, .int g6, .ref g7, .ref g8, .ref g9, .ref g10, .ref g11, .int g12, .int g13, .int g14, .ref g15, .int g16, .ref g17, .ref g18, .ref g19, .ref g20, .ref g21, .ref g22, .int g23, .ref g24, .int p0, .int 0, .int g27, .int g28, .ref g29, .int g30, .int g31, .int g32]))] := hD
      refine lv_iconst (v := 1) hx hb dd_M_cut_29 (by decide) ?_
      have e_5 : (p0 : Int32) = (if (¬ p0 < 0 ∧ p0 ≤ g25) then p0 else g25) := (if_pos (by simp [c_1, c_4])).symm
      have hP : va_P (dC, dI) vcl [(h, .inr (1, [.int 0, .int g1, .int g2, .int g3, .int g4, .ref g5, .int g6, .ref g7, .ref g8, .ref g9, .ref g10, .ref g11, .int g12, .int g13, .int g14, .ref g15, .int g16, .ref g17, .ref g18, .ref g19, .ref g20, .ref g21, .ref g22, .int g23, .ref g24, .int (if (¬ p0 < 0 ∧ p0 ≤ g25) then p0 else g25), .int 0, .int g27, .int g28, .ref g29, .int g30, .int g31, .int g32]))] H := by rw [← e_5]; exact hP
      have hD : va_D A [(h, .inr (1, [.int 0, .int g1, .int g2, .int g3, .int g4, .ref g5, .int g6, .ref g7, .ref g8, .ref g9, .ref g10, .ref g11, .int g12, .int g13, .int g14, .ref g15, .int g16, .ref g17, .ref g18, .ref g19, .ref g20, .ref g21, .ref g22, .int g23, .ref g24, .int (if (¬ p0 < 0 ∧ p0 ≤ g25) then p0 else g25), .int 0, .int g27, .int g28, .ref g29, .int g30, .int g31, .int g32]))] := by rw [← e_5]; exact hD
      have e_6 : (0 : Int32) = (if (¬ p0 < 0 ∧ p0 ≤ g25) then 0 else g26) := (if_pos (by simp [c_1, c_4])).symm
      have hP : va_P (dC, dI) vcl [(h, .inr (1, [.int 0, .int g1, .int g2, .int g3, .int g4, .ref g5, .int g6, .ref g7, .ref g8, .ref g9, .ref g10, .ref g11, .int g12, .int g13, .int g14, .ref g15, .int g16, .ref g17, .ref g18, .ref g19, .ref g20, .ref g21, .ref g22, .int g23, .ref g24, .int (if (¬ p0 < 0 ∧ p0 ≤ g25) then p0 else g25), .int (if (¬ p0 < 0 ∧ p0 ≤ g25) then 0 else g26), .int g27, .int g28, .ref g29, .int g30, .int g31, .int g32]))] H := by rw [← e_6]; exact hP
      have hD : va_D A [(h, .inr (1, [.int 0, .int g1, .int g2, .int g3, .int g4, .ref g5, .int g6, .ref g7, .ref g8, .ref g9, .ref g10, .ref g11, .int g12, .int g13, .int g14, .ref g15, .int g16, .ref g17, .ref g18, .ref g19, .ref g20, .ref g21, .ref g22, .int g23, .ref g24, .int (if (¬ p0 < 0 ∧ p0 ≤ g25) then p0 else g25), .int (if (¬ p0 < 0 ∧ p0 ≤ g25) then 0 else g26), .int g27, .int g28, .ref g29, .int g30, .int g31, .int g32]))] := by rw [← e_6]; exact hD
      have hP9 := hP.sub (ws' := [(h, .inr (1, [.int 0, .int g1, .int g2, .int g3, .int g4, .ref g5, .int g6, .ref g7, .ref g8, .ref g9, .ref g10, .ref g11, .int g12, .int g13, .int g14, .ref g15, .int g16, .ref g17, .ref g18, .ref g19, .ref g20, .ref g21, .ref g22, .int g23, .ref g24, .int (if (¬ p0 < 0 ∧ p0 ≤ g25) then p0 else g25), .int (if (¬ p0 < 0 ∧ p0 ≤ g25) then 0 else g26), .int g27, .int g28, .ref g29, .int g30, .int g31, .int g32]))]) [0] rfl
      have hD9 := hD.sub (ws' := [(h, .inr (1, [.int 0, .int g1, .int g2, .int g3, .int g4, .ref g5, .int g6, .ref g7, .ref g8, .ref g9, .ref g10, .ref g11, .int g12, .int g13, .int g14, .ref g15, .int g16, .ref g17, .ref g18, .ref g19, .ref g20, .ref g21, .ref g22, .int g23, .ref g24, .int (if (¬ p0 < 0 ∧ p0 ≤ g25) then p0 else g25), .int (if (¬ p0 < 0 ∧ p0 ≤ g25) then 0 else g26), .int g27, .int g28, .ref g29, .int g30, .int g31, .int g32]))]) [0] (by decide) rfl
      refine W.widen (k := 0) (n := 0) (by first | exact Nat.le_refl _ | omega) (by first | exact Nat.le_refl _ | omega) ?_
      exact W.zret (ty := .boolean) (v := 1) hx hb hr (by rfl) (fun t ht hW => ⟨⟨1, (), rfl, (b2i_t (by simp [c_1, c_4])), by rw [ht]; exact hP9, va_K.moved hW.alike hK, hD9⟩, hS.F ht⟩) hS.2.2 dd_M_cut_30
    · refine lv_iconst (v := 0) hx hb dd_M_cut_17 (by decide) ?_
      have e_7 : (g25 : Int32) = (if (¬ p0 < 0 ∧ p0 ≤ g25) then p0 else g25) := (if_neg (by simp [c_1, c_4])).symm
      have hP : va_P (dC, dI) vcl [(h, .inr (1, [.int 0, .int g1, .int g2, .int g3, .int g4, .ref g5, .int g6, .ref g7, .ref g8, .ref g9, .ref g10, .ref g11, .int g12, .int g13, .int g14, .ref g15, .int g16, .ref g17, .ref g18, .ref g19, .ref g20, .ref g21, .ref g22, .int g23, .ref g24, .int (if (¬ p0 < 0 ∧ p0 ≤ g25) then p0 else g25), .int g26, .int g27, .int g28, .ref g29, .int g30, .int g31, .int g32]))] H := by rw [← e_7]; exact hP
      have hD : va_D A [(h, .inr (1, [.int 0, .int g1, .int g2, .int g3, .int g4, .ref g5, .int g6, .ref g7, .ref g8, .ref g9, .ref g10, .ref g11, .int g12, .int g13, .int g14, .ref g15, .int g16, .ref g17, .ref g18, .ref g19, .ref g20, .ref g21, .ref g22, .int g23, .ref g24, .int (if (¬ p0 < 0 ∧ p0 ≤ g25) then p0 else g25), .int g26, .int g27, .int g28, .ref g29, .int g30, .int g31, .int g32]))] := by rw [← e_7]; exact hD
      have e_8 : (g26 : Int32) = (if (¬ p0 < 0 ∧ p0 ≤ g25) then 0 else g26) := (if_neg (by simp [c_1, c_4])).symm
      have hP : va_P (dC, dI) vcl [(h, .inr (1, [.int 0, .int g1, .int g2, .int g3, .int g4, .ref g5, .int g6, .ref g7, .ref g8, .ref g9, .ref g10, .ref g11, .int g12, .int g13, .int g14, .ref g15, .int g16, .ref g17, .ref g18, .ref g19, .ref g20, .ref g21, .ref g22, .int g23, .ref g24, .int (if (¬ p0 < 0 ∧ p0 ≤ g25) then p0 else g25), .int (if (¬ p0 < 0 ∧ p0 ≤ g25) then 0 else g26), .int g27, .int g28, .ref g29, .int g30, .int g31, .int g32]))] H := by rw [← e_8]; exact hP
      have hD : va_D A [(h, .inr (1, [.int 0, .int g1, .int g2, .int g3, .int g4, .ref g5, .int g6, .ref g7, .ref g8, .ref g9, .ref g10, .ref g11, .int g12, .int g13, .int g14, .ref g15, .int g16, .ref g17, .ref g18, .ref g19, .ref g20, .ref g21, .ref g22, .int g23, .ref g24, .int (if (¬ p0 < 0 ∧ p0 ≤ g25) then p0 else g25), .int (if (¬ p0 < 0 ∧ p0 ≤ g25) then 0 else g26), .int g27, .int g28, .ref g29, .int g30, .int g31, .int g32]))] := by rw [← e_8]; exact hD
      have hP9 := hP.sub (ws' := [(h, .inr (1, [.int 0, .int g1, .int g2, .int g3, .int g4, .ref g5, .int g6, .ref g7, .ref g8, .ref g9, .ref g10, .ref g11, .int g12, .int g13, .int g14, .ref g15, .int g16, .ref g17, .ref g18, .ref g19, .ref g20, .ref g21, .ref g22, .int g23, .ref g24, .int (if (¬ p0 < 0 ∧ p0 ≤ g25) then p0 else g25), .int (if (¬ p0 < 0 ∧ p0 ≤ g25) then 0 else g26), .int g27, .int g28, .ref g29, .int g30, .int g31, .int g32]))]) [0] rfl
      have hD9 := hD.sub (ws' := [(h, .inr (1, [.int 0, .int g1, .int g2, .int g3, .int g4, .ref g5, .int g6, .ref g7, .ref g8, .ref g9, .ref g10, .ref g11, .int g12, .int g13, .int g14, .ref g15, .int g16, .ref g17, .ref g18, .ref g19, .ref g20, .ref g21, .ref g22, .int g23, .ref g24, .int (if (¬ p0 < 0 ∧ p0 ≤ g25) then p0 else g25), .int (if (¬ p0 < 0 ∧ p0 ≤ g25) then 0 else g26), .int g27, .int g28, .ref g29, .int g30, .int g31, .int g32]))]) [0] (by decide) rfl
      refine W.widen (k := 0) (n := 0) (by first | exact Nat.le_refl _ | omega) (by first | exact Nat.le_refl _ | omega) ?_
      exact W.zret (ty := .boolean) (v := 0) hx hb hr (by rfl) (fun t ht hW => ⟨⟨0, (), rfl, (b2i_f (by simp [c_1, c_4])), by rw [ht]; exact hP9, va_K.moved hW.alike hK, hD9⟩, hS.F ht⟩) hS.2.2 dd_M_cut_18

set_option maxHeartbeats 4000000 in
set_option maxRecDepth 100000 in
/-- isWhole() -/
theorem cb_M_isWhole (l : Launch) (dC : Nat → ClassId) (dI : Nat → Nat → Nat) (cB cI cJ : ClassId) (sz : Nat) (h : Nat) (g0 g1 g2 g3 g4 g6 g12 g13 g14 g16 g23 g25 g26 g27 g28 g30 g31 g32 : Int32) (g5 g7 g8 g9 g10 g11 g15 g17 g18 g19 g20 g21 g22 g24 g29 : Nat) : Met l yy_M_isWhole (Cond.code yy_M_isWhole cc_M_isWhole 1 (some .boolean) :: gw) { frames := 0, cells := 0, slots := 0, locals := 0 } (va_Pc [.ref h] (ks_pre dC dI [(cB, .byte), (cI, .int), (cJ, .long)] [(h, .inr (1, [.int g0, .int g1, .int g2, .int g3, .int g4, .ref g5, .int g6, .ref g7, .ref g8, .ref g9, .ref g10, .ref g11, .int g12, .int g13, .int g14, .ref g15, .int g16, .ref g17, .ref g18, .ref g19, .ref g20, .ref g21, .ref g22, .int g23, .ref g24, .int g25, .int g26, .int g27, .int g28, .ref g29, .int g30, .int g31, .int g32]))] sz)) (va_Qi (fun r (_u : Unit) => r = b2i (decide (¬ g1 = 0 ∧ ¬ g6 ≤ 0))) (fun (_u : Unit) => ks_post dC dI [(cB, .byte), (cI, .int), (cJ, .long)] (va_A [(h, .inr (1, [.int g0, .int g1, .int g2, .int g3, .int g4, .ref g5, .int g6, .ref g7, .ref g8, .ref g9, .ref g10, .ref g11, .int g12, .int g13, .int g14, .ref g15, .int g16, .ref g17, .ref g18, .ref g19, .ref g20, .ref g21, .ref g22, .int g23, .ref g24, .int g25, .int g26, .int g27, .int g28, .ref g29, .int g30, .int g31, .int g32]))] sz) [(h, .inr (1, [.int (if (¬ g1 = 0 ∧ ¬ g6 ≤ 0) then 0 else 1), .int g1, .int g2, .int g3, .int g4, .ref g5, .int g6, .ref g7, .ref g8, .ref g9, .ref g10, .ref g11, .int g12, .int g13, .int g14, .ref g15, .int g16, .ref g17, .ref g18, .ref g19, .ref g20, .ref g21, .ref g22, .int g23, .ref g24, .int g25, .int g26, .int g27, .int g28, .ref g29, .int g30, .int g31, .int g32]))]) (va_A [(h, .inr (1, [.int g0, .int g1, .int g2, .int g3, .int g4, .ref g5, .int g6, .ref g7, .ref g8, .ref g9, .ref g10, .ref g11, .int g12, .int g13, .int g14, .ref g15, .int g16, .ref g17, .ref g18, .ref g19, .ref g20, .ref g21, .ref g22, .int g23, .ref g24, .int g25, .int g26, .int g27, .int g28, .ref g29, .int g30, .int g31, .int g32]))] sz)) 0 0 (va_A [(h, .inr (1, [.int g0, .int g1, .int g2, .int g3, .int g4, .ref g5, .int g6, .ref g7, .ref g8, .ref g9, .ref g10, .ref g11, .int g12, .int g13, .int g14, .ref g15, .int g16, .ref g17, .ref g18, .ref g19, .ref g20, .ref g21, .ref g22, .int g23, .ref g24, .int g25, .int g26, .int g27, .int g28, .ref g29, .int g30, .int g31, .int g32]))] sz) := by
  refine Met.ofW (cc := cc_M_isWhole) (maxL := 1) (ret := (some .boolean)) (by decide) rfl ?_
  intro p e s m args below meth c s₁ B hml hv
  obtain ⟨rfl, hsz, hP, hK, hD0⟩ := hv
  have hx := B.exec
  have hb := B.bytes
  have hr := B.returns
  have hw : ∀ w ∈ gw, w.before _ s = true := fun w h => atoms_spec (ws := (Cond.code yy_M_isWhole cc_M_isWhole 1 (some .boolean) :: gw)) B.pre w (List.mem_cons_of_mem _ h)
  have hown : s.vm.findClass RR_M = some m.cls := findClass_of_methodNamed B.named
  have hlocks := B.notSynchronized
  subst hsz
  have hD := hD0.self (sz := s.heap.size)
  generalize hAe : va_A [(h, .inr (1, [.int g0, .int g1, .int g2, .int g3, .int g4, .ref g5, .int g6, .ref g7, .ref g8, .ref g9, .ref g10, .ref g11, .int g12, .int g13, .int g14, .ref g15, .int g16, .ref g17, .ref g18, .ref g19, .ref g20, .ref g21, .ref g22, .int g23, .ref g24, .int g25, .int g26, .int g27, .int g28, .ref g29, .int g30, .int g31, .int g32]))] s.heap.size = A at hD ⊢
  have hA : ∀ q : Nat, s.heap.size ≤ q → A q := fun q h => by rw [← hAe]; exact Or.inr h
  have hS : va_S A s.heap s.heap [] := va_S.rf
  have hP : va_P (dC, dI) vcl [(h, .inr (1, [.int g0, .int g1, .int g2, .int g3, .int g4, .ref g5, .int g6, .ref g7, .ref g8, .ref g9, .ref g10, .ref g11, .int g12, .int g13, .int g14, .ref g15, .int g16, .ref g17, .ref g18, .ref g19, .ref g20, .ref g21, .ref g22, .int g23, .ref g24, .int g25, .int g26, .int g27, .int g28, .ref g29, .int g30, .int g31, .int g32]))] s.heap := hP
  have hl := lv_entry ([.ref h]) (n := 1) (Nat.le_of_ble_eq_true rfl)
  rw [lg_entry_eq]
  generalize (lg_sl ([.ref h]) ++ List.replicate (1 - (lg_sl ([.ref h])).length) Slot.unset).toArray = ls at hl ⊢
  have hl : lv_has ls 1 [(0, .ref h)] := hl
  refine lv_aload_n hx hb dd_M_isWhole_0 rfl (lv_at hl 0 rfl) ?_
  refine lv_aload_n hx hb dd_M_isWhole_1 rfl (lv_at hl 0 rfl) ?_
  refine va_get (D := (dC, dI)) (ci := 1) (v := .int g1) (C := RR_M) (T := TT_M) (N := 33) hx hb hw hh_M hown hK hP 0 rfl rfl 1 (by decide) (hw _ qq_580) (fun _ h9 => h9) rfl dd_M_isWhole_2 ?_
  refine lv_if_eq (tgt := 19) hx hb dd_M_isWhole_5 (by decide) (fun c_1 => ?_) (fun c_1 => ?_)
  · refine lv_iconst (v := 1) hx hb dd_M_isWhole_19 (by decide) ?_
    refine va_put (D := (dC, dI)) (ci := 1) (v := .int 1) (ty := .int) (C := RR_M) (T := TT_M) (N := 33) hx hb hw hh_M ty_M ty_M_ok nm_M hown hK hP hD hS 0 rfl rfl 0 (by decide) (hw _ qq_579) (fun _ h9 => h9) rfl (by decide +kernel) rfl rfl (Nat.le_of_ble_eq_true rfl) dd_M_isWhole_20 (fun H locs hP hD hS => ?_)
    have hP : va_P (dC, dI) vcl [(h, .inr (1, [.int 1, .int g1, .int g2, .int g3, .int g4, .ref g5, .int g6, .ref g7, .ref g8, .ref g9, .ref g10, .ref g11, .int g12, .int g13, .int g14, .ref g15, .int g16, .ref g17, .ref g18, .ref g19, .ref g20, .ref g21, .ref g22, .int g23, .ref g24, .int g25, .int g26, .int g27, .int g28, .ref g29, .int g30, .int g31, .int g32]))] H := hP
    have hD : va_D A [(h, .inr (1, [.int 1, .int g1, .int g2, .int g3, .int g4, .ref g5, .int g6, .ref g7, .ref g8, .ref g9, .ref g10, .ref g11, .int g12, .int g13, .int g14, .ref g15, .int g16, .ref g17, .ref g18, .ref g19, .ref g20, .ref g21, .ref g22, .int g23, .ref g24, .int g25, .int g26, .int g27, .int g28, .ref g29, .int g30, .int g31, .int g32]))] := hD
    refine lv_aload_n hx hb dd_M_isWhole_23 rfl (lv_at hl 0 rfl) ?_
    refine va_get (D := (dC, dI)) (ci := 1) (v := .int 1) (C := RR_M) (T := TT_M) (N := 33) hx hb hw hh_M hown hK hP 0 rfl rfl 0 (by decide) (hw _ qq_579) (fun _ h9 => h9) rfl dd_M_isWhole_24 ?_
    refine lv_if_ne (tgt := 34) hx hb dd_M_isWhole_27 (by decide) (fun c_2 => ?_) (fun c_2 => ?_)
    · refine lv_iconst (v := 0) hx hb dd_M_isWhole_34 (by decide) ?_
      have e_3 : (1 : Int32) = (if (¬ g1 = 0 ∧ ¬ g6 ≤ 0) then 0 else 1) := (if_neg (by simp [c_1, c_2])).symm
      have hP : va_P (dC, dI) vcl [(h, .inr (1, [.int (if (¬ g1 = 0 ∧ ¬ g6 ≤ 0) then 0 else 1), .int g1, .int g2, .int g3, .int g4, .ref g5, .int g6, .ref g7, .ref g8, .ref g9, .ref g10, .ref g11, .int g12, .int g13, .int g14, .ref g15, .int g16, .ref g17, .ref g18, .ref g19, .ref g20, .ref g21, .ref g22, .int g23, .ref g24, .int g25, .int g26, .int g27, .int g28, .ref g29, .int g30, .int g31, .int g32]))] H := by rw [← e_3]; exact hP
      have hD : va_D A [(h, .inr (1, [.int (if (¬ g1 = 0 ∧ ¬ g6 ≤ 0) then 0 else 1), .int g1, .int g2, .int g3, .int g4, .ref g5, .int g6, .ref g7, .ref g8, .ref g9, .ref g10, .ref g11, .int g12, .int g13, .int g14, .ref g15, .int g16, .ref g17, .ref g18, .ref g19, .ref g20, .ref g21, .ref g22, .int g23, .ref g24, .int g25, .int g26, .int g27, .int g28, .ref g29, .int g30, .int g31, .int g32]))] := by rw [← e_3]; exact hD
      have hP9 := hP.sub (ws' := [(h, .inr (1, [.int (if (¬ g1 = 0 ∧ ¬ g6 ≤ 0) then 0 else 1), .int g1, .int g2, .int g3, .int g4, .ref g5, .int g6, .ref g7, .ref g8, .ref g9, .ref g10, .ref g11, .int g12, .int g13, .int g14, .ref g15, .int g16, .ref g17, .ref g18, .ref g19, .ref g20, .ref g21, .ref g22, .int g23, .ref g24, .int g25, .int g26, .int g27, .int g28, .ref g29, .int g30, .int g31, .int g32]))]) [0] rfl
      have hD9 := hD.sub (ws' := [(h, .inr (1, [.int (if (¬ g1 = 0 ∧ ¬ g6 ≤ 0) then 0 else 1), .int g1, .int g2, .int g3, .int g4, .ref g5, .int g6, .ref g7, .ref g8, .ref g9, .ref g10, .ref g11, .int g12, .int g13, .int g14, .ref g15, .int g16, .ref g17, .ref g18, .ref g19, .ref g20, .ref g21, .ref g22, .int g23, .ref g24, .int g25, .int g26, .int g27, .int g28, .ref g29, .int g30, .int g31, .int g32]))]) [0] (by decide) rfl
      refine W.widen (k := 0) (n := 0) (by first | exact Nat.le_refl _ | omega) (by first | exact Nat.le_refl _ | omega) ?_
      exact W.zret (ty := .boolean) (v := 0) hx hb hr (by rfl) (fun t ht hW => ⟨⟨0, (), rfl, (b2i_f (by simp [c_1, c_2])), by rw [ht]; exact hP9, va_K.moved hW.alike hK, hD9⟩, hS.F ht⟩) hS.2.2 dd_M_isWhole_35
    · exact absurd c_2 (by decide)
  · refine lv_aload_n hx hb dd_M_isWhole_8 rfl (lv_at hl 0 rfl) ?_
    refine va_get (D := (dC, dI)) (ci := 1) (v := .int g6) (C := RR_M) (T := TT_M) (N := 33) hx hb hw hh_M hown hK hP 0 rfl rfl 6 (by decide) (hw _ qq_585) (fun _ h9 => h9) rfl dd_M_isWhole_9 ?_
    refine lv_if_le (tgt := 19) hx hb dd_M_isWhole_12 (by decide) (fun c_4 => ?_) (fun c_4 => ?_)
    · refine lv_iconst (v := 1) hx hb dd_M_isWhole_19 (by decide) ?_
      refine va_put (D := (dC, dI)) (ci := 1) (v := .int 1) (ty := .int) (C := RR_M) (T := TT_M) (N := 33) hx hb hw hh_M ty_M ty_M_ok nm_M hown hK hP hD hS 0 rfl rfl 0 (by decide) (hw _ qq_579) (fun _ h9 => h9) rfl (by decide +kernel) rfl rfl (Nat.le_of_ble_eq_true rfl) dd_M_isWhole_20 (fun H locs hP hD hS => ?_)
      have hP : va_P (dC, dI) vcl [(h, .inr (1, [.int 1, .int g1, .int g2, .int g3, .int g4, .ref g5, .int g6, .ref g7, .ref g8, .ref g9, .ref g10, .ref g11, .int g12, .int g13, .int g14, .ref g15, .int g16, .ref g17, .ref g18, .ref g19, .ref g20, .ref g21, .ref g22, .int g23, .ref g24, .int g25, .int g26, .int g27, .int g28, .ref g29, .int g30, .int g31, .int g32]))] H := hP
      have hD : va_D A [(h, .inr (1, [.int 1, .int g1, .int g2, .int g3, .int g4, .ref g5, .int g6, .ref g7, .ref g8, .ref g9, .ref g10, .ref g11, .int g12, .int g13, .int g14, .ref g15, .int g16, .ref g17, .ref g18, .ref g19, .ref g20, .ref g21, .ref g22, .int g23, .ref g24, .int g25, .int g26, .int g27, .int g28, .ref g29, .int g30, .int g31, .int g32]))] := hD
      refine lv_aload_n hx hb dd_M_isWhole_23 rfl (lv_at hl 0 rfl) ?_
      refine va_get (D := (dC, dI)) (ci := 1) (v := .int 1) (C := RR_M) (T := TT_M) (N := 33) hx hb hw hh_M hown hK hP 0 rfl rfl 0 (by decide) (hw _ qq_579) (fun _ h9 => h9) rfl dd_M_isWhole_24 ?_
      refine lv_if_ne (tgt := 34) hx hb dd_M_isWhole_27 (by decide) (fun c_5 => ?_) (fun c_5 => ?_)
      · refine lv_iconst (v := 0) hx hb dd_M_isWhole_34 (by decide) ?_
        have e_6 : (1 : Int32) = (if (¬ g1 = 0 ∧ ¬ g6 ≤ 0) then 0 else 1) := (if_neg (by simp [c_1, c_4, c_5])).symm
        have hP : va_P (dC, dI) vcl [(h, .inr (1, [.int (if (¬ g1 = 0 ∧ ¬ g6 ≤ 0) then 0 else 1), .int g1, .int g2, .int g3, .int g4, .ref g5, .int g6, .ref g7, .ref g8, .ref g9, .ref g10, .ref g11, .int g12, .int g13, .int g14, .ref g15, .int g16, .ref g17, .ref g18, .ref g19, .ref g20, .ref g21, .ref g22, .int g23, .ref g24, .int g25, .int g26, .int g27, .int g28, .ref g29, .int g30, .int g31, .int g32]))] H := by rw [← e_6]; exact hP
        have hD : va_D A [(h, .inr (1, [.int (if (¬ g1 = 0 ∧ ¬ g6 ≤ 0) then 0 else 1), .int g1, .int g2, .int g3, .int g4, .ref g5, .int g6, .ref g7, .ref g8, .ref g9, .ref g10, .ref g11, .int g12, .int g13, .int g14, .ref g15, .int g16, .ref g17, .ref g18, .ref g19, .ref g20, .ref g21, .ref g22, .int g23, .ref g24, .int g25, .int g26, .int g27, .int g28, .ref g29, .int g30, .int g31, .int g32]))] := by rw [← e_6]; exact hD
        have hP9 := hP.sub (ws' := [(h, .inr (1, [.int (if (¬ g1 = 0 ∧ ¬ g6 ≤ 0) then 0 else 1), .int g1, .int g2, .int g3, .int g4, .ref g5, .int g6, .ref g7, .ref g8, .ref g9, .ref g10, .ref g11, .int g12, .int g13, .int g14, .ref g15, .int g16, .ref g17, .ref g18, .ref g19, .ref g20, .ref g21, .ref g22, .int g23, .ref g24, .int g25, .int g26, .int g27, .int g28, .ref g29, .int g30, .int g31, .int g32]))]) [0] rfl
        have hD9 := hD.sub (ws' := [(h, .inr (1, [.int (if (¬ g1 = 0 ∧ ¬ g6 ≤ 0) then 0 else 1), .int g1, .int g2, .int g3, .int g4, .ref g5, .int g6, .ref g7, .ref g8, .ref g9, .ref g10, .ref g11, .int g12, .int g13, .int g14, .ref g15, .int g16, .ref g17, .ref g18, .ref g19, .ref g20, .ref g21, .ref g22, .int g23, .ref g24, .int g25, .int g26, .int g27, .int g28, .ref g29, .int g30, .int g31, .int g32]))]) [0] (by decide) rfl
        refine W.widen (k := 0) (n := 0) (by first | exact Nat.le_refl _ | omega) (by first | exact Nat.le_refl _ | omega) ?_
        exact W.zret (ty := .boolean) (v := 0) hx hb hr (by rfl) (fun t ht hW => ⟨⟨0, (), rfl, (b2i_f (by simp [c_1, c_4, c_5])), by rw [ht]; exact hP9, va_K.moved hW.alike hK, hD9⟩, hS.F ht⟩) hS.2.2 dd_M_isWhole_35
      · exact absurd c_5 (by decide)
    · refine lv_iconst (v := 0) hx hb dd_M_isWhole_15 (by decide) ?_
      refine lv_goto (tgt := 20) hx hb dd_M_isWhole_16 (by decide) ?_
      refine va_put (D := (dC, dI)) (ci := 1) (v := .int 0) (ty := .int) (C := RR_M) (T := TT_M) (N := 33) hx hb hw hh_M ty_M ty_M_ok nm_M hown hK hP hD hS 0 rfl rfl 0 (by decide) (hw _ qq_579) (fun _ h9 => h9) rfl (by decide +kernel) rfl rfl (Nat.le_of_ble_eq_true rfl) dd_M_isWhole_20 (fun H locs hP hD hS => ?_)
      have hP : va_P (dC, dI) vcl [(h, .inr (1, [.int 0, .int g1, .int g2, .int g3, .int g4, .ref g5, .int g6, .ref g7, .ref g8, .ref g9, .ref g10, .ref g11, .int g12, .int g13, .int g14, .ref g15, .int g16, .ref g17, .ref g18, .ref g19, .ref g20, .ref g21, .ref g22, .int g23, .ref g24, .int g25, .int g26, .int g27, .int g28, .ref g29, .int g30, .int g31, .int g32]))] H := hP
      have hD : va_D A [(h, .inr (1, [.int 0, .int g1, .int g2, .int g3, .int g4, .ref g5, .int g6, .ref g7, .ref g8, .ref g9, .ref g10, .ref g11, .int g12, .int g13, .int g14, .ref g15, .int g16, .ref g17, .ref g18, .ref g19, .ref g20, .ref g21, .ref g22, .int g23, .ref g24, .int g25, .int g26, .int g27, .int g28, .ref g29, .int g30, .int g31, .int g32]))] := hD
      refine lv_aload_n hx hb dd_M_isWhole_23 rfl (lv_at hl 0 rfl) ?_
      refine va_get (D := (dC, dI)) (ci := 1) (v := .int 0) (C := RR_M) (T := TT_M) (N := 33) hx hb hw hh_M hown hK hP 0 rfl rfl 0 (by decide) (hw _ qq_579) (fun _ h9 => h9) rfl dd_M_isWhole_24 ?_
      refine lv_if_ne (tgt := 34) hx hb dd_M_isWhole_27 (by decide) (fun c_7 => ?_) (fun c_7 => ?_)
      · exact absurd rfl c_7
      · refine lv_iconst (v := 1) hx hb dd_M_isWhole_30 (by decide) ?_
        refine lv_goto (tgt := 35) hx hb dd_M_isWhole_31 (by decide) ?_
        have e_8 : (0 : Int32) = (if (¬ g1 = 0 ∧ ¬ g6 ≤ 0) then 0 else 1) := (if_pos (by simp [c_1, c_4, c_7])).symm
        have hP : va_P (dC, dI) vcl [(h, .inr (1, [.int (if (¬ g1 = 0 ∧ ¬ g6 ≤ 0) then 0 else 1), .int g1, .int g2, .int g3, .int g4, .ref g5, .int g6, .ref g7, .ref g8, .ref g9, .ref g10, .ref g11, .int g12, .int g13, .int g14, .ref g15, .int g16, .ref g17, .ref g18, .ref g19, .ref g20, .ref g21, .ref g22, .int g23, .ref g24, .int g25, .int g26, .int g27, .int g28, .ref g29, .int g30, .int g31, .int g32]))] H := by rw [← e_8]; exact hP
        have hD : va_D A [(h, .inr (1, [.int (if (¬ g1 = 0 ∧ ¬ g6 ≤ 0) then 0 else 1), .int g1, .int g2, .int g3, .int g4, .ref g5, .int g6, .ref g7, .ref g8, .ref g9, .ref g10, .ref g11, .int g12, .int g13, .int g14, .ref g15, .int g16, .ref g17, .ref g18, .ref g19, .ref g20, .ref g21, .ref g22, .int g23, .ref g24, .int g25, .int g26, .int g27, .int g28, .ref g29, .int g30, .int g31, .int g32]))] := by rw [← e_8]; exact hD
        have hP9 := hP.sub (ws' := [(h, .inr (1, [.int (if (¬ g1 = 0 ∧ ¬ g6 ≤ 0) then 0 else 1), .int g1, .int g2, .int g3, .int g4, .ref g5, .int g6, .ref g7, .ref g8, .ref g9, .ref g10, .ref g11, .int g12, .int g13, .int g14, .ref g15, .int g16, .ref g17, .ref g18, .ref g19, .ref g20, .ref g21, .ref g22, .int g23, .ref g24, .int g25, .int g26, .int g27, .int g28, .ref g29, .int g30, .int g31, .int g32]))]) [0] rfl
        have hD9 := hD.sub (ws' := [(h, .inr (1, [.int (if (¬ g1 = 0 ∧ ¬ g6 ≤ 0) then 0 else 1), .int g1, .int g2, .int g3, .int g4, .ref g5, .int g6, .ref g7, .ref g8, .ref g9, .ref g10, .ref g11, .int g12, .int g13, .int g14, .ref g15, .int g16, .ref g17, .ref g18, .ref g19, .ref g20, .ref g21, .ref g22, .int g23, .ref g24, .int g25, .int g26, .int g27, .int g28, .ref g29, .int g30, .int g31, .int g32]))]) [0] (by decide) rfl
        refine W.widen (k := 0) (n := 0) (by first | exact Nat.le_refl _ | omega) (by first | exact Nat.le_refl _ | omega) ?_
        exact W.zret (ty := .boolean) (v := 1) hx hb hr (by rfl) (fun t ht hW => ⟨⟨1, (), rfl, (b2i_t (by simp [c_1, c_4, c_7])), by rw [ht]; exact hP9, va_K.moved hW.alike hK, hD9⟩, hS.F ht⟩) hS.2.2 dd_M_isWhole_35
end
